theorem dX2_formOf_48 : decode cX2_formOf 48 = .ok (.goto 7, 3) := by decide +kernel
theorem dX2_formOf_51 : decode cX2_formOf 51 = .ok (.aload_n 0, 1) := by decide +kernel
theorem dX2_formOf_52 : decode cX2_formOf 52 = .ok (.getfield 40, 3) := by decide +kernel
theorem dX2_formOf_55 : decode cX2_formOf 55 = .ok (.istore_n 3, 1) := by decide +kernel
theorem dX2_formOf_56 : decode cX2_formOf 56 = .ok (.iload_n 2, 1) := by decide +kernel
theorem dX2_formOf_57 : decode cX2_formOf 57 = .ok (.ifCond .eq 7, 3) := by decide +kernel
theorem dX2_formOf_60 : decode cX2_formOf 60 = .ok (.iconst 2, 1) := by decide +kernel
theorem dX2_formOf_61 : decode cX2_formOf 61 = .ok (.goto 4, 3) := by decide +kernel
theorem dX2_formOf_64 : decode cX2_formOf 64 = .ok (.iconst 0, 1) := by decide +kernel
theorem dX2_formOf_65 : decode cX2_formOf 65 = .ok (.istore 4, 2) := by decide +kernel
theorem dX2_formOf_67 : decode cX2_formOf 67 = .ok (.iconst 0, 1) := by decide +kernel
theorem dX2_formOf_68 : decode cX2_formOf 68 = .ok (.istore 5, 2) := by decide +kernel
theorem dX2_formOf_70 : decode cX2_formOf 70 = .ok (.iload 5, 2) := by decide +kernel
theorem dX2_formOf_72 : decode cX2_formOf 72 = .ok (.aload_n 0, 1) := by decide +kernel
theorem dX2_formOf_73 : decode cX2_formOf 73 = .ok (.getfield 46, 3) := by decide +kernel
theorem dX2_formOf_76 : decode cX2_formOf 76 = .ok (.if_icmp .ge 50, 3) := by decide +kernel
theorem dX2_formOf_79 : decode cX2_formOf 79 = .ok (.aload_n 0, 1) := by decide +kernel
theorem dX2_formOf_80 : decode cX2_formOf 80 = .ok (.getfield 15, 3) := by decide +kernel
theorem dX2_formOf_83 : decode cX2_formOf 83 = .ok (.iload 5, 2) := by decide +kernel
theorem dX2_formOf_85 : decode cX2_formOf 85 = .ok (.iaload, 1) := by decide +kernel
theorem dX2_formOf_86 : decode cX2_formOf 86 = .ok (.iload 4, 2) := by decide +kernel
theorem dX2_formOf_88 : decode cX2_formOf 88 = .ok (.if_icmp .ne 32, 3) := by decide +kernel
theorem dX2_formOf_91 : decode cX2_formOf 91 = .ok (.iload 5, 2) := by decide +kernel
theorem dX2_formOf_93 : decode cX2_formOf 93 = .ok (.iload_n 1, 1) := by decide +kernel
theorem dX2_formOf_94 : decode cX2_formOf 94 = .ok (.invokestatic 67, 3) := by decide +kernel
theorem dX2_formOf_97 : decode cX2_formOf 97 = .ok (.ifCond .eq 23, 3) := by decide +kernel
theorem dX2_formOf_100 : decode cX2_formOf 100 = .ok (.iload_n 3, 1) := by decide +kernel
theorem dX2_formOf_101 : decode cX2_formOf 101 = .ok (.aload_n 0, 1) := by decide +kernel
theorem dX2_formOf_102 : decode cX2_formOf 102 = .ok (.getfield 25, 3) := by decide +kernel
theorem dX2_formOf_105 : decode cX2_formOf 105 = .ok (.iload 5, 2) := by decide +kernel
theorem dX2_formOf_107 : decode cX2_formOf 107 = .ok (.iaload, 1) := by decide +kernel
theorem dX2_formOf_108 : decode cX2_formOf 108 = .ok (.iconst (-1), 1) := by decide +kernel
theorem dX2_formOf_109 : decode cX2_formOf 109 = .ok (.ixor, 1) := by decide +kernel
theorem dX2_formOf_110 : decode cX2_formOf 110 = .ok (.iand, 1) := by decide +kernel
theorem dX2_formOf_111 : decode cX2_formOf 111 = .ok (.aload_n 0, 1) := by decide +kernel
theorem dX2_formOf_112 : decode cX2_formOf 112 = .ok (.iload 5, 2) := by decide +kernel
theorem dX2_formOf_114 : decode cX2_formOf 114 = .ok (.iload_n 1, 1) := by decide +kernel
theorem dX2_formOf_115 : decode cX2_formOf 115 = .ok (.invokevirtual 71, 3) := by decide +kernel
theorem dX2_formOf_118 : decode cX2_formOf 118 = .ok (.ior, 1) := by decide +kernel
theorem dX2_formOf_119 : decode cX2_formOf 119 = .ok (.istore_n 3, 1) := by decide +kernel
theorem dX2_formOf_120 : decode cX2_formOf 120 = .ok (.iinc 5 1, 3) := by decide +kernel
theorem dX2_formOf_123 : decode cX2_formOf 123 = .ok (.goto (-53), 3) := by decide +kernel
theorem dX2_formOf_126 : decode cX2_formOf 126 = .ok (.iload_n 3, 1) := by decide +kernel
theorem dX2_formOf_127 : decode cX2_formOf 127 = .ok (.ireturn, 1) := by decide +kernel
theorem dX2_plusOf_0 : decode cX2_plusOf 0 = .ok (.aload_n 0, 1) := by decide +kernel
theorem dX2_plusOf_1 : decode cX2_plusOf 1 = .ok (.getfield 22, 3) := by decide +kernel
theorem dX2_plusOf_4 : decode cX2_plusOf 4 = .ok (.iload_n 1, 1) := by decide +kernel
theorem dX2_plusOf_5 : decode cX2_plusOf 5 = .ok (.iaload, 1) := by decide +kernel
theorem dX2_plusOf_6 : decode cX2_plusOf 6 = .ok (.istore_n 3, 1) := by decide +kernel
theorem dX2_plusOf_7 : decode cX2_plusOf 7 = .ok (.iconst 0, 1) := by decide +kernel
theorem dX2_plusOf_8 : decode cX2_plusOf 8 = .ok (.istore 4, 2) := by decide +kernel
theorem dX2_plusOf_10 : decode cX2_plusOf 10 = .ok (.iload 4, 2) := by decide +kernel
theorem dX2_plusOf_12 : decode cX2_plusOf 12 = .ok (.aload_n 0, 1) := by decide +kernel
theorem dX2_plusOf_13 : decode cX2_plusOf 13 = .ok (.getfield 46, 3) := by decide +kernel
theorem dX2_plusOf_16 : decode cX2_plusOf 16 = .ok (.if_icmp .ge 60, 3) := by decide +kernel
theorem dX2_plusOf_19 : decode cX2_plusOf 19 = .ok (.aload_n 0, 1) := by decide +kernel
theorem dX2_plusOf_20 : decode cX2_plusOf 20 = .ok (.getfield 15, 3) := by decide +kernel
theorem dX2_plusOf_23 : decode cX2_plusOf 23 = .ok (.iload 4, 2) := by decide +kernel
theorem dX2_plusOf_25 : decode cX2_plusOf 25 = .ok (.iaload, 1) := by decide +kernel
theorem dX2_plusOf_26 : decode cX2_plusOf 26 = .ok (.iconst 3, 1) := by decide +kernel
theorem dX2_plusOf_27 : decode cX2_plusOf 27 = .ok (.if_icmp .ne 43, 3) := by decide +kernel
theorem dX2_plusOf_30 : decode cX2_plusOf 30 = .ok (.aload_n 0, 1) := by decide +kernel
theorem dX2_plusOf_31 : decode cX2_plusOf 31 = .ok (.getfield 19, 3) := by decide +kernel
theorem dX2_plusOf_34 : decode cX2_plusOf 34 = .ok (.iload 4, 2) := by decide +kernel
theorem dX2_plusOf_36 : decode cX2_plusOf 36 = .ok (.iaload, 1) := by decide +kernel
theorem dX2_plusOf_37 : decode cX2_plusOf 37 = .ok (.iload_n 1, 1) := by decide +kernel
theorem dX2_plusOf_38 : decode cX2_plusOf 38 = .ok (.if_icmp .ne 32, 3) := by decide +kernel
theorem dX2_plusOf_41 : decode cX2_plusOf 41 = .ok (.iload 4, 2) := by decide +kernel
theorem dX2_plusOf_43 : decode cX2_plusOf 43 = .ok (.iload_n 2, 1) := by decide +kernel
theorem dX2_plusOf_44 : decode cX2_plusOf 44 = .ok (.invokestatic 67, 3) := by decide +kernel
theorem dX2_plusOf_47 : decode cX2_plusOf 47 = .ok (.ifCond .eq 23, 3) := by decide +kernel
theorem dX2_plusOf_50 : decode cX2_plusOf 50 = .ok (.iload_n 3, 1) := by decide +kernel
theorem dX2_plusOf_51 : decode cX2_plusOf 51 = .ok (.aload_n 0, 1) := by decide +kernel
theorem dX2_plusOf_52 : decode cX2_plusOf 52 = .ok (.getfield 25, 3) := by decide +kernel
theorem dX2_plusOf_55 : decode cX2_plusOf 55 = .ok (.iload 4, 2) := by decide +kernel
theorem dX2_plusOf_57 : decode cX2_plusOf 57 = .ok (.iaload, 1) := by decide +kernel
theorem dX2_plusOf_58 : decode cX2_plusOf 58 = .ok (.iconst (-1), 1) := by decide +kernel
theorem dX2_plusOf_59 : decode cX2_plusOf 59 = .ok (.ixor, 1) := by decide +kernel
theorem dX2_plusOf_60 : decode cX2_plusOf 60 = .ok (.iand, 1) := by decide +kernel
theorem dX2_plusOf_61 : decode cX2_plusOf 61 = .ok (.aload_n 0, 1) := by decide +kernel
theorem dX2_plusOf_62 : decode cX2_plusOf 62 = .ok (.getfield 22, 3) := by decide +kernel
theorem dX2_plusOf_65 : decode cX2_plusOf 65 = .ok (.iload 4, 2) := by decide +kernel
theorem dX2_plusOf_67 : decode cX2_plusOf 67 = .ok (.iaload, 1) := by decide +kernel
theorem dX2_plusOf_68 : decode cX2_plusOf 68 = .ok (.ior, 1) := by decide +kernel
theorem dX2_plusOf_69 : decode cX2_plusOf 69 = .ok (.istore_n 3, 1) := by decide +kernel
theorem dX2_plusOf_70 : decode cX2_plusOf 70 = .ok (.iinc 4 1, 3) := by decide +kernel
theorem dX2_plusOf_73 : decode cX2_plusOf 73 = .ok (.goto (-63), 3) := by decide +kernel
theorem dX2_plusOf_76 : decode cX2_plusOf 76 = .ok (.iload_n 3, 1) := by decide +kernel
theorem dX2_plusOf_77 : decode cX2_plusOf 77 = .ok (.ireturn, 1) := by decide +kernel
theorem dX2_goneWith_0 : decode cX2_goneWith 0 = .ok (.iconst 1, 1) := by decide +kernel
theorem dX2_goneWith_1 : decode cX2_goneWith 1 = .ok (.iload_n 1, 1) := by decide +kernel
theorem dX2_goneWith_2 : decode cX2_goneWith 2 = .ok (.ishl, 1) := by decide +kernel
theorem dX2_goneWith_3 : decode cX2_goneWith 3 = .ok (.istore_n 2, 1) := by decide +kernel
theorem dX2_goneWith_4 : decode cX2_goneWith 4 = .ok (.iload_n 1, 1) := by decide +kernel
theorem dX2_goneWith_5 : decode cX2_goneWith 5 = .ok (.iconst 1, 1) := by decide +kernel
theorem dX2_goneWith_6 : decode cX2_goneWith 6 = .ok (.iadd, 1) := by decide +kernel
theorem dX2_goneWith_7 : decode cX2_goneWith 7 = .ok (.istore_n 3, 1) := by decide +kernel
theorem dX2_goneWith_8 : decode cX2_goneWith 8 = .ok (.iload_n 3, 1) := by decide +kernel
theorem dX2_goneWith_9 : decode cX2_goneWith 9 = .ok (.aload_n 0, 1) := by decide +kernel
theorem dX2_goneWith_10 : decode cX2_goneWith 10 = .ok (.getfield 46, 3) := by decide +kernel
theorem dX2_goneWith_13 : decode cX2_goneWith 13 = .ok (.if_icmp .ge 38, 3) := by decide +kernel
theorem dX2_goneWith_16 : decode cX2_goneWith 16 = .ok (.aload_n 0, 1) := by decide +kernel
theorem dX2_goneWith_17 : decode cX2_goneWith 17 = .ok (.getfield 19, 3) := by decide +kernel
theorem dX2_goneWith_20 : decode cX2_goneWith 20 = .ok (.iload_n 3, 1) := by decide +kernel
theorem dX2_goneWith_21 : decode cX2_goneWith 21 = .ok (.iaload, 1) := by decide +kernel
theorem dX2_goneWith_22 : decode cX2_goneWith 22 = .ok (.iconst (-1), 1) := by decide +kernel
theorem dX2_goneWith_23 : decode cX2_goneWith 23 = .ok (.if_icmp .eq 22, 3) := by decide +kernel
theorem dX2_goneWith_26 : decode cX2_goneWith 26 = .ok (.aload_n 0, 1) := by decide +kernel
theorem dX2_goneWith_27 : decode cX2_goneWith 27 = .ok (.getfield 19, 3) := by decide +kernel
theorem dX2_goneWith_30 : decode cX2_goneWith 30 = .ok (.iload_n 3, 1) := by decide +kernel
theorem dX2_goneWith_31 : decode cX2_goneWith 31 = .ok (.iaload, 1) := by decide +kernel
theorem dX2_goneWith_32 : decode cX2_goneWith 32 = .ok (.iload_n 2, 1) := by decide +kernel
theorem dX2_goneWith_33 : decode cX2_goneWith 33 = .ok (.invokestatic 67, 3) := by decide +kernel
theorem dX2_goneWith_36 : decode cX2_goneWith 36 = .ok (.ifCond .eq 9, 3) := by decide +kernel
theorem dX2_goneWith_39 : decode cX2_goneWith 39 = .ok (.iload_n 2, 1) := by decide +kernel
theorem dX2_goneWith_40 : decode cX2_goneWith 40 = .ok (.iconst 1, 1) := by decide +kernel
theorem dX2_goneWith_41 : decode cX2_goneWith 41 = .ok (.iload_n 3, 1) := by decide +kernel
theorem dX2_goneWith_42 : decode cX2_goneWith 42 = .ok (.ishl, 1) := by decide +kernel
theorem dX2_goneWith_43 : decode cX2_goneWith 43 = .ok (.ior, 1) := by decide +kernel
theorem dX2_goneWith_44 : decode cX2_goneWith 44 = .ok (.istore_n 2, 1) := by decide +kernel
theorem dX2_goneWith_45 : decode cX2_goneWith 45 = .ok (.iinc 3 1, 3) := by decide +kernel
theorem dX2_goneWith_48 : decode cX2_goneWith 48 = .ok (.goto (-40), 3) := by decide +kernel
theorem dX2_goneWith_51 : decode cX2_goneWith 51 = .ok (.iload_n 2, 1) := by decide +kernel
theorem dX2_goneWith_52 : decode cX2_goneWith 52 = .ok (.ireturn, 1) := by decide +kernel
theorem dX4_init_0 : decode cX4_init 0 = .ok (.aload_n 0, 1) := by decide +kernel
theorem dX4_init_1 : decode cX4_init 1 = .ok (.invokespecial 3, 3) := by decide +kernel
theorem dX4_init_4 : decode cX4_init 4 = .ok (.aload_n 0, 1) := by decide +kernel
theorem dX4_init_5 : decode cX4_init 5 = .ok (.aload_n 1, 1) := by decide +kernel
theorem dX4_init_6 : decode cX4_init 6 = .ok (.putfield 9, 3) := by decide +kernel
theorem dX4_init_9 : decode cX4_init 9 = .ok (.aload_n 0, 1) := by decide +kernel
theorem dX4_init_10 : decode cX4_init 10 = .ok (.aload_n 2, 1) := by decide +kernel
theorem dX4_init_11 : decode cX4_init 11 = .ok (.putfield 15, 3) := by decide +kernel
theorem dX4_init_14 : decode cX4_init 14 = .ok (.aload_n 0, 1) := by decide +kernel
theorem dX4_init_15 : decode cX4_init 15 = .ok (.aload_n 3, 1) := by decide +kernel
theorem dX4_init_16 : decode cX4_init 16 = .ok (.putfield 19, 3) := by decide +kernel
theorem dX4_init_19 : decode cX4_init 19 = .ok (.aload_n 0, 1) := by decide +kernel
theorem dX4_init_20 : decode cX4_init 20 = .ok (.aload_n 3, 1) := by decide +kernel
theorem dX4_init_21 : decode cX4_init 21 = .ok (.getfield 23, 3) := by decide +kernel
theorem dX4_init_24 : decode cX4_init 24 = .ok (.putfield 29, 3) := by decide +kernel
theorem dX4_init_27 : decode cX4_init 27 = .ok (.return_, 1) := by decide +kernel
theorem dX4_tryAll_0 : decode cX4_tryAll 0 = .ok (.aload_n 0, 1) := by decide +kernel
theorem dX4_tryAll_1 : decode cX4_tryAll 1 = .ok (.iload_n 1, 1) := by decide +kernel
theorem dX4_tryAll_2 : decode cX4_tryAll 2 = .ok (.putfield 30, 3) := by decide +kernel
theorem dX4_tryAll_5 : decode cX4_tryAll 5 = .ok (.aload_n 0, 1) := by decide +kernel
theorem dX4_tryAll_6 : decode cX4_tryAll 6 = .ok (.iconst 0, 1) := by decide +kernel
theorem dX4_tryAll_7 : decode cX4_tryAll 7 = .ok (.putfield 34, 3) := by decide +kernel
theorem dX4_tryAll_10 : decode cX4_tryAll 10 = .ok (.aload_n 0, 1) := by decide +kernel
theorem dX4_tryAll_11 : decode cX4_tryAll 11 = .ok (.iconst 0, 1) := by decide +kernel
theorem dX4_tryAll_12 : decode cX4_tryAll 12 = .ok (.putfield 37, 3) := by decide +kernel
theorem dX4_tryAll_15 : decode cX4_tryAll 15 = .ok (.aload_n 0, 1) := by decide +kernel
theorem dX4_tryAll_16 : decode cX4_tryAll 16 = .ok (.iconst 0, 1) := by decide +kernel
theorem dX4_tryAll_17 : decode cX4_tryAll 17 = .ok (.putfield 40, 3) := by decide +kernel
theorem dX4_tryAll_20 : decode cX4_tryAll 20 = .ok (.iconst 1, 1) := by decide +kernel
theorem dX4_tryAll_21 : decode cX4_tryAll 21 = .ok (.aload_n 0, 1) := by decide +kernel
theorem dX4_tryAll_22 : decode cX4_tryAll 22 = .ok (.getfield 9, 3) := by decide +kernel
theorem dX4_tryAll_25 : decode cX4_tryAll 25 = .ok (.getfield 43, 3) := by decide +kernel
theorem dX4_tryAll_28 : decode cX4_tryAll 28 = .ok (.ishl, 1) := by decide +kernel
theorem dX4_tryAll_29 : decode cX4_tryAll 29 = .ok (.iconst 1, 1) := by decide +kernel
theorem dX4_tryAll_30 : decode cX4_tryAll 30 = .ok (.isub, 1) := by decide +kernel
theorem dX4_tryAll_31 : decode cX4_tryAll 31 = .ok (.istore_n 3, 1) := by decide +kernel
theorem dX4_tryAll_32 : decode cX4_tryAll 32 = .ok (.aload_n 0, 1) := by decide +kernel
theorem dX4_tryAll_33 : decode cX4_tryAll 33 = .ok (.getfield 19, 3) := by decide +kernel
theorem dX4_tryAll_36 : decode cX4_tryAll 36 = .ok (.iload_n 2, 1) := by decide +kernel
theorem dX4_tryAll_37 : decode cX4_tryAll 37 = .ok (.aload_n 0, 1) := by decide +kernel
theorem dX4_tryAll_38 : decode cX4_tryAll 38 = .ok (.getfield 9, 3) := by decide +kernel
theorem dX4_tryAll_41 : decode cX4_tryAll 41 = .ok (.getfield 43, 3) := by decide +kernel
theorem dX4_tryAll_44 : decode cX4_tryAll 44 = .ok (.iload_n 3, 1) := by decide +kernel
theorem dX4_tryAll_45 : decode cX4_tryAll 45 = .ok (.invokevirtual 48, 3) := by decide +kernel
theorem dX4_tryAll_48 : decode cX4_tryAll 48 = .ok (.aload_n 0, 1) := by decide +kernel
theorem dX4_tryAll_49 : decode cX4_tryAll 49 = .ok (.aload_n 0, 1) := by decide +kernel
theorem dX4_tryAll_50 : decode cX4_tryAll 50 = .ok (.getfield 9, 3) := by decide +kernel
theorem dX4_tryAll_53 : decode cX4_tryAll 53 = .ok (.getfield 43, 3) := by decide +kernel
theorem dX4_tryAll_56 : decode cX4_tryAll 56 = .ok (.iconst 1, 1) := by decide +kernel
theorem dX4_tryAll_57 : decode cX4_tryAll 57 = .ok (.isub, 1) := by decide +kernel
theorem dX4_tryAll_58 : decode cX4_tryAll 58 = .ok (.iload_n 3, 1) := by decide +kernel
theorem dX4_tryAll_59 : decode cX4_tryAll 59 = .ok (.iconst 0, 1) := by decide +kernel
theorem dX4_tryAll_60 : decode cX4_tryAll 60 = .ok (.invokevirtual 52, 3) := by decide +kernel
theorem dX4_tryAll_63 : decode cX4_tryAll 63 = .ok (.return_, 1) := by decide +kernel
theorem dX4_tryLast_0 : decode cX4_tryLast 0 = .ok (.iload_n 1, 1) := by decide +kernel
theorem dX4_tryLast_1 : decode cX4_tryLast 1 = .ok (.ifCond .ge 18, 3) := by decide +kernel
theorem dX4_tryLast_4 : decode cX4_tryLast 4 = .ok (.aload_n 0, 1) := by decide +kernel
theorem dX4_tryLast_5 : decode cX4_tryLast 5 = .ok (.aload_n 0, 1) := by decide +kernel
theorem dX4_tryLast_6 : decode cX4_tryLast 6 = .ok (.getfield 19, 3) := by decide +kernel
theorem dX4_tryLast_9 : decode cX4_tryLast 9 = .ok (.getfield 55, 3) := by decide +kernel
theorem dX4_tryLast_12 : decode cX4_tryLast 12 = .ok (.iconst 0, 1) := by decide +kernel
theorem dX4_tryLast_13 : decode cX4_tryLast 13 = .ok (.iaload, 1) := by decide +kernel
theorem dX4_tryLast_14 : decode cX4_tryLast 14 = .ok (.iload_n 3, 1) := by decide +kernel
theorem dX4_tryLast_15 : decode cX4_tryLast 15 = .ok (.invokevirtual 59, 3) := by decide +kernel
theorem dX4_tryLast_18 : decode cX4_tryLast 18 = .ok (.return_, 1) := by decide +kernel
theorem dX4_tryLast_19 : decode cX4_tryLast 19 = .ok (.iconst 0, 1) := by decide +kernel
theorem dX4_tryLast_20 : decode cX4_tryLast 20 = .ok (.istore 4, 2) := by decide +kernel
theorem dX4_tryLast_22 : decode cX4_tryLast 22 = .ok (.iload 4, 2) := by decide +kernel
theorem dX4_tryLast_24 : decode cX4_tryLast 24 = .ok (.aload_n 0, 1) := by decide +kernel
theorem dX4_tryLast_25 : decode cX4_tryLast 25 = .ok (.getfield 9, 3) := by decide +kernel
theorem dX4_tryLast_28 : decode cX4_tryLast 28 = .ok (.getfield 43, 3) := by decide +kernel
theorem dX4_tryLast_31 : decode cX4_tryLast 31 = .ok (.if_icmp .ge 62, 3) := by decide +kernel
theorem dX4_tryLast_34 : decode cX4_tryLast 34 = .ok (.aload_n 0, 1) := by decide +kernel
theorem dX4_tryLast_35 : decode cX4_tryLast 35 = .ok (.getfield 29, 3) := by decide +kernel
theorem dX4_tryLast_38 : decode cX4_tryLast 38 = .ok (.iload 4, 2) := by decide +kernel
theorem dX4_tryLast_40 : decode cX4_tryLast 40 = .ok (.iload_n 2, 1) := by decide +kernel
theorem dX4_tryLast_41 : decode cX4_tryLast 41 = .ok (.invokevirtual 63, 3) := by decide +kernel
theorem dX4_tryLast_44 : decode cX4_tryLast 44 = .ok (.ifCond .eq 43, 3) := by decide +kernel
theorem dX4_tryLast_47 : decode cX4_tryLast 47 = .ok (.iload_n 2, 1) := by decide +kernel
theorem dX4_tryLast_48 : decode cX4_tryLast 48 = .ok (.iconst 1, 1) := by decide +kernel
theorem dX4_tryLast_49 : decode cX4_tryLast 49 = .ok (.iload 4, 2) := by decide +kernel
theorem dX4_tryLast_51 : decode cX4_tryLast 51 = .ok (.ishl, 1) := by decide +kernel
theorem dX4_tryLast_52 : decode cX4_tryLast 52 = .ok (.iconst (-1), 1) := by decide +kernel
theorem dX4_tryLast_53 : decode cX4_tryLast 53 = .ok (.ixor, 1) := by decide +kernel
theorem dX4_tryLast_54 : decode cX4_tryLast 54 = .ok (.iand, 1) := by decide +kernel
theorem dX4_tryLast_55 : decode cX4_tryLast 55 = .ok (.istore 5, 2) := by decide +kernel
theorem dX4_tryLast_57 : decode cX4_tryLast 57 = .ok (.aload_n 0, 1) := by decide +kernel
theorem dX4_tryLast_58 : decode cX4_tryLast 58 = .ok (.getfield 19, 3) := by decide +kernel
theorem dX4_tryLast_61 : decode cX4_tryLast 61 = .ok (.iload_n 1, 1) := by decide +kernel
theorem dX4_tryLast_62 : decode cX4_tryLast 62 = .ok (.iload 4, 2) := by decide +kernel
theorem dX4_tryLast_64 : decode cX4_tryLast 64 = .ok (.iload 5, 2) := by decide +kernel
theorem dX4_tryLast_66 : decode cX4_tryLast 66 = .ok (.invokevirtual 69, 3) := by decide +kernel
theorem dX4_tryLast_69 : decode cX4_tryLast 69 = .ok (.aload_n 0, 1) := by decide +kernel
theorem dX4_tryLast_70 : decode cX4_tryLast 70 = .ok (.iload_n 1, 1) := by decide +kernel
theorem dX4_tryLast_71 : decode cX4_tryLast 71 = .ok (.iconst 1, 1) := by decide +kernel
theorem dX4_tryLast_72 : decode cX4_tryLast 72 = .ok (.isub, 1) := by decide +kernel
theorem dX4_tryLast_73 : decode cX4_tryLast 73 = .ok (.iload 5, 2) := by decide +kernel
theorem dX4_tryLast_75 : decode cX4_tryLast 75 = .ok (.iload_n 3, 1) := by decide +kernel
theorem dX4_tryLast_76 : decode cX4_tryLast 76 = .ok (.iload 4, 2) := by decide +kernel
theorem dX4_tryLast_78 : decode cX4_tryLast 78 = .ok (.iload_n 1, 1) := by decide +kernel
theorem dX4_tryLast_79 : decode cX4_tryLast 79 = .ok (.invokestatic 72, 3) := by decide +kernel
theorem dX4_tryLast_82 : decode cX4_tryLast 82 = .ok (.ishl, 1) := by decide +kernel
theorem dX4_tryLast_83 : decode cX4_tryLast 83 = .ok (.ior, 1) := by decide +kernel
theorem dX4_tryLast_84 : decode cX4_tryLast 84 = .ok (.invokevirtual 52, 3) := by decide +kernel
theorem dX4_tryLast_87 : decode cX4_tryLast 87 = .ok (.iinc 4 1, 3) := by decide +kernel
theorem dX4_tryLast_90 : decode cX4_tryLast 90 = .ok (.goto (-68), 3) := by decide +kernel
theorem dX4_tryLast_93 : decode cX4_tryLast 93 = .ok (.return_, 1) := by decide +kernel
theorem dX4_judge_0 : decode cX4_judge 0 = .ok (.aload_n 0, 1) := by decide +kernel
theorem dX4_judge_1 : decode cX4_judge 1 = .ok (.getfield 15, 3) := by decide +kernel
theorem dX4_judge_4 : decode cX4_judge 4 = .ok (.aload_n 0, 1) := by decide +kernel
theorem dX4_judge_5 : decode cX4_judge 5 = .ok (.getfield 30, 3) := by decide +kernel
theorem dX4_judge_8 : decode cX4_judge 8 = .ok (.iload_n 1, 1) := by decide +kernel
theorem dX4_judge_9 : decode cX4_judge 9 = .ok (.invokevirtual 76, 3) := by decide +kernel
theorem dX4_judge_12 : decode cX4_judge 12 = .ok (.aload_n 0, 1) := by decide +kernel
theorem dX4_judge_13 : decode cX4_judge 13 = .ok (.getfield 15, 3) := by decide +kernel
theorem dX4_judge_16 : decode cX4_judge 16 = .ok (.aload_n 0, 1) := by decide +kernel
theorem dX4_judge_17 : decode cX4_judge 17 = .ok (.getfield 30, 3) := by decide +kernel
theorem dX4_judge_20 : decode cX4_judge 20 = .ok (.aload_n 0, 1) := by decide +kernel
theorem dX4_judge_21 : decode cX4_judge 21 = .ok (.getfield 34, 3) := by decide +kernel
theorem dX4_judge_24 : decode cX4_judge 24 = .ok (.invokevirtual 76, 3) := by decide +kernel
theorem dX4_judge_27 : decode cX4_judge 27 = .ok (.isub, 1) := by decide +kernel
theorem dX4_judge_28 : decode cX4_judge 28 = .ok (.istore_n 3, 1) := by decide +kernel
theorem dX4_judge_29 : decode cX4_judge 29 = .ok (.aload_n 0, 1) := by decide +kernel
theorem dX4_judge_30 : decode cX4_judge 30 = .ok (.getfield 37, 3) := by decide +kernel
theorem dX4_judge_33 : decode cX4_judge 33 = .ok (.ifCond .eq 7, 3) := by decide +kernel
theorem dX4_judge_36 : decode cX4_judge 36 = .ok (.iload_n 3, 1) := by decide +kernel
theorem dX4_judge_37 : decode cX4_judge 37 = .ok (.ifCond .le 11, 3) := by decide +kernel
theorem dX4_judge_40 : decode cX4_judge 40 = .ok (.aload_n 0, 1) := by decide +kernel
theorem dX4_judge_41 : decode cX4_judge 41 = .ok (.iconst 0, 1) := by decide +kernel
theorem dX4_judge_42 : decode cX4_judge 42 = .ok (.putfield 37, 3) := by decide +kernel
theorem dX4_judge_45 : decode cX4_judge 45 = .ok (.goto 8, 3) := by decide +kernel
theorem dX4_judge_48 : decode cX4_judge 48 = .ok (.iload_n 3, 1) := by decide +kernel
theorem dX4_judge_49 : decode cX4_judge 49 = .ok (.ifCond .ge 4, 3) := by decide +kernel
theorem dX4_judge_52 : decode cX4_judge 52 = .ok (.return_, 1) := by decide +kernel
theorem dX4_judge_53 : decode cX4_judge 53 = .ok (.aload_n 0, 1) := by decide +kernel
theorem dX4_judge_54 : decode cX4_judge 54 = .ok (.getfield 37, 3) := by decide +kernel
theorem dX4_judge_57 : decode cX4_judge 57 = .ok (.ifCond .eq 11, 3) := by decide +kernel
theorem dX4_judge_60 : decode cX4_judge 60 = .ok (.iload_n 2, 1) := by decide +kernel
theorem dX4_judge_61 : decode cX4_judge 61 = .ok (.aload_n 0, 1) := by decide +kernel
theorem dX4_judge_62 : decode cX4_judge 62 = .ok (.getfield 40, 3) := by decide +kernel
theorem dX4_judge_65 : decode cX4_judge 65 = .ok (.if_icmp .ge 13, 3) := by decide +kernel
theorem dX4_judge_68 : decode cX4_judge 68 = .ok (.aload_n 0, 1) := by decide +kernel
theorem dX4_judge_69 : decode cX4_judge 69 = .ok (.iload_n 1, 1) := by decide +kernel
theorem dX4_judge_70 : decode cX4_judge 70 = .ok (.putfield 34, 3) := by decide +kernel
theorem dX4_judge_73 : decode cX4_judge 73 = .ok (.aload_n 0, 1) := by decide +kernel
theorem dX4_judge_74 : decode cX4_judge 74 = .ok (.iload_n 2, 1) := by decide +kernel
theorem dX4_judge_75 : decode cX4_judge 75 = .ok (.putfield 40, 3) := by decide +kernel
theorem dX4_judge_78 : decode cX4_judge 78 = .ok (.aload_n 0, 1) := by decide +kernel
theorem dX4_judge_79 : decode cX4_judge 79 = .ok (.dup, 1) := by decide +kernel
theorem dX4_judge_80 : decode cX4_judge 80 = .ok (.getfield 37, 3) := by decide +kernel
theorem dX4_judge_83 : decode cX4_judge 83 = .ok (.iconst 1, 1) := by decide +kernel
theorem dX4_judge_84 : decode cX4_judge 84 = .ok (.iadd, 1) := by decide +kernel
theorem dX4_judge_85 : decode cX4_judge 85 = .ok (.putfield 37, 3) := by decide +kernel
theorem dX4_judge_88 : decode cX4_judge 88 = .ok (.return_, 1) := by decide +kernel
theorem dX4_bestRow_0 : decode cX4_bestRow 0 = .ok (.iconst 0, 1) := by decide +kernel
theorem dX4_bestRow_1 : decode cX4_bestRow 1 = .ok (.istore_n 1, 1) := by decide +kernel
theorem dX4_bestRow_2 : decode cX4_bestRow 2 = .ok (.iconst 0, 1) := by decide +kernel
theorem dX4_bestRow_3 : decode cX4_bestRow 3 = .ok (.istore_n 2, 1) := by decide +kernel
theorem dX4_bestRow_4 : decode cX4_bestRow 4 = .ok (.iload_n 2, 1) := by decide +kernel
theorem dX4_bestRow_5 : decode cX4_bestRow 5 = .ok (.aload_n 0, 1) := by decide +kernel
theorem dX4_bestRow_6 : decode cX4_bestRow 6 = .ok (.getfield 9, 3) := by decide +kernel
theorem dX4_bestRow_9 : decode cX4_bestRow 9 = .ok (.getfield 43, 3) := by decide +kernel
theorem dX4_bestRow_12 : decode cX4_bestRow 12 = .ok (.if_icmp .ge 28, 3) := by decide +kernel
theorem dX4_bestRow_15 : decode cX4_bestRow 15 = .ok (.iload_n 1, 1) := by decide +kernel
theorem dX4_bestRow_16 : decode cX4_bestRow 16 = .ok (.aload_n 0, 1) := by decide +kernel
theorem dX4_bestRow_17 : decode cX4_bestRow 17 = .ok (.getfield 40, 3) := by decide +kernel
theorem dX4_bestRow_20 : decode cX4_bestRow 20 = .ok (.iload_n 2, 1) := by decide +kernel
theorem dX4_bestRow_21 : decode cX4_bestRow 21 = .ok (.invokestatic 72, 3) := by decide +kernel
theorem dX4_bestRow_24 : decode cX4_bestRow 24 = .ok (.ishr, 1) := by decide +kernel
theorem dX4_bestRow_25 : decode cX4_bestRow 25 = .ok (.bipush 15, 2) := by decide +kernel
theorem dX4_bestRow_27 : decode cX4_bestRow 27 = .ok (.iand, 1) := by decide +kernel
theorem dX4_bestRow_28 : decode cX4_bestRow 28 = .ok (.iconst 4, 1) := by decide +kernel
theorem dX4_bestRow_29 : decode cX4_bestRow 29 = .ok (.iload_n 2, 1) := by decide +kernel
theorem dX4_bestRow_30 : decode cX4_bestRow 30 = .ok (.imul, 1) := by decide +kernel
theorem dX4_bestRow_31 : decode cX4_bestRow 31 = .ok (.ishl, 1) := by decide +kernel
theorem dX4_bestRow_32 : decode cX4_bestRow 32 = .ok (.ior, 1) := by decide +kernel
theorem dX4_bestRow_33 : decode cX4_bestRow 33 = .ok (.istore_n 1, 1) := by decide +kernel
theorem dX4_bestRow_34 : decode cX4_bestRow 34 = .ok (.iinc 2 1, 3) := by decide +kernel
theorem dX4_bestRow_37 : decode cX4_bestRow 37 = .ok (.goto (-33), 3) := by decide +kernel
theorem dX4_bestRow_40 : decode cX4_bestRow 40 = .ok (.iload_n 1, 1) := by decide +kernel
theorem dX4_bestRow_41 : decode cX4_bestRow 41 = .ok (.ireturn, 1) := by decide +kernel
theorem dX4_shiftOf_0 : decode cX4_shiftOf 0 = .ok (.iconst 4, 1) := by decide +kernel
theorem dX4_shiftOf_1 : decode cX4_shiftOf 1 = .ok (.iconst 5, 1) := by decide +kernel
theorem dX4_shiftOf_2 : decode cX4_shiftOf 2 = .ok (.iload_n 0, 1) := by decide +kernel
theorem dX4_shiftOf_3 : decode cX4_shiftOf 3 = .ok (.isub, 1) := by decide +kernel
theorem dX4_shiftOf_4 : decode cX4_shiftOf 4 = .ok (.imul, 1) := by decide +kernel
theorem dX4_shiftOf_5 : decode cX4_shiftOf 5 = .ok (.ireturn, 1) := by decide +kernel
theorem dX5_init_0 : decode cX5_init 0 = .ok (.aload_n 0, 1) := by decide +kernel
theorem dX5_init_1 : decode cX5_init 1 = .ok (.invokespecial 3, 3) := by decide +kernel
theorem dX5_init_4 : decode cX5_init 4 = .ok (.aload_n 0, 1) := by decide +kernel
theorem dX5_init_5 : decode cX5_init 5 = .ok (.sipush 2304, 3) := by decide +kernel
theorem dX5_init_8 : decode cX5_init 8 = .ok (.newarray .int, 2) := by decide +kernel
theorem dX5_init_10 : decode cX5_init 10 = .ok (.putfield 9, 3) := by decide +kernel
theorem dX5_init_13 : decode cX5_init 13 = .ok (.aload_n 0, 1) := by decide +kernel
theorem dX5_init_14 : decode cX5_init 14 = .ok (.aload_n 1, 1) := by decide +kernel
theorem dX5_init_15 : decode cX5_init 15 = .ok (.putfield 15, 3) := by decide +kernel
theorem dX5_init_18 : decode cX5_init 18 = .ok (.return_, 1) := by decide +kernel
theorem dX5_takeAll_0 : decode cX5_takeAll 0 = .ok (.iconst 0, 1) := by decide +kernel
theorem dX5_takeAll_1 : decode cX5_takeAll 1 = .ok (.istore_n 1, 1) := by decide +kernel
theorem dX5_takeAll_2 : decode cX5_takeAll 2 = .ok (.iload_n 1, 1) := by decide +kernel
theorem dX5_takeAll_3 : decode cX5_takeAll 3 = .ok (.aload_n 0, 1) := by decide +kernel
theorem dX5_takeAll_4 : decode cX5_takeAll 4 = .ok (.getfield 15, 3) := by decide +kernel
theorem dX5_takeAll_7 : decode cX5_takeAll 7 = .ok (.getfield 19, 3) := by decide +kernel
theorem dX5_takeAll_10 : decode cX5_takeAll 10 = .ok (.if_icmp .ge 14, 3) := by decide +kernel
theorem dX5_takeAll_13 : decode cX5_takeAll 13 = .ok (.aload_n 0, 1) := by decide +kernel
theorem dX5_takeAll_14 : decode cX5_takeAll 14 = .ok (.iload_n 1, 1) := by decide +kernel
theorem dX5_takeAll_15 : decode cX5_takeAll 15 = .ok (.invokevirtual 25, 3) := by decide +kernel
theorem dX5_takeAll_18 : decode cX5_takeAll 18 = .ok (.iinc 1 1, 3) := by decide +kernel
theorem dX5_takeAll_21 : decode cX5_takeAll 21 = .ok (.goto (-19), 3) := by decide +kernel
theorem dX5_takeAll_24 : decode cX5_takeAll 24 = .ok (.return_, 1) := by decide +kernel
theorem dX5_takeVoter_0 : decode cX5_takeVoter 0 = .ok (.iload_n 1, 1) := by decide +kernel
theorem dX5_takeVoter_1 : decode cX5_takeVoter 1 = .ok (.sipush 256, 3) := by decide +kernel
theorem dX5_takeVoter_4 : decode cX5_takeVoter 4 = .ok (.imul, 1) := by decide +kernel
theorem dX5_takeVoter_5 : decode cX5_takeVoter 5 = .ok (.istore_n 2, 1) := by decide +kernel
theorem dX5_takeVoter_6 : decode cX5_takeVoter 6 = .ok (.aload_n 0, 1) := by decide +kernel
theorem dX5_takeVoter_7 : decode cX5_takeVoter 7 = .ok (.getfield 9, 3) := by decide +kernel
theorem dX5_takeVoter_10 : decode cX5_takeVoter 10 = .ok (.iload_n 2, 1) := by decide +kernel
theorem dX5_takeVoter_11 : decode cX5_takeVoter 11 = .ok (.iconst 0, 1) := by decide +kernel
theorem dX5_takeVoter_12 : decode cX5_takeVoter 12 = .ok (.iastore, 1) := by decide +kernel
theorem dX5_takeVoter_13 : decode cX5_takeVoter 13 = .ok (.iconst 0, 1) := by decide +kernel
theorem dX5_takeVoter_14 : decode cX5_takeVoter 14 = .ok (.istore_n 3, 1) := by decide +kernel
theorem dX5_takeVoter_15 : decode cX5_takeVoter 15 = .ok (.iload_n 3, 1) := by decide +kernel
theorem dX5_takeVoter_16 : decode cX5_takeVoter 16 = .ok (.bipush 8, 2) := by decide +kernel
theorem dX5_takeVoter_18 : decode cX5_takeVoter 18 = .ok (.if_icmp .ge 70, 3) := by decide +kernel
theorem dX5_takeVoter_21 : decode cX5_takeVoter 21 = .ok (.iconst 1, 1) := by decide +kernel
theorem dX5_takeVoter_22 : decode cX5_takeVoter 22 = .ok (.iload_n 3, 1) := by decide +kernel
theorem dX5_takeVoter_23 : decode cX5_takeVoter 23 = .ok (.ishl, 1) := by decide +kernel
theorem dX5_takeVoter_24 : decode cX5_takeVoter 24 = .ok (.istore 4, 2) := by decide +kernel
theorem dX5_takeVoter_26 : decode cX5_takeVoter 26 = .ok (.aload_n 0, 1) := by decide +kernel
theorem dX5_takeVoter_27 : decode cX5_takeVoter 27 = .ok (.getfield 15, 3) := by decide +kernel
theorem dX5_takeVoter_30 : decode cX5_takeVoter 30 = .ok (.getfield 29, 3) := by decide +kernel
theorem dX5_takeVoter_33 : decode cX5_takeVoter 33 = .ok (.iload_n 1, 1) := by decide +kernel
theorem dX5_takeVoter_34 : decode cX5_takeVoter 34 = .ok (.bipush 8, 2) := by decide +kernel
theorem dX5_takeVoter_36 : decode cX5_takeVoter 36 = .ok (.imul, 1) := by decide +kernel
theorem dX5_takeVoter_37 : decode cX5_takeVoter 37 = .ok (.iload_n 3, 1) := by decide +kernel
theorem dX5_takeVoter_38 : decode cX5_takeVoter 38 = .ok (.iadd, 1) := by decide +kernel
theorem dX5_takeVoter_39 : decode cX5_takeVoter 39 = .ok (.iaload, 1) := by decide +kernel
theorem dX5_takeVoter_40 : decode cX5_takeVoter 40 = .ok (.istore 5, 2) := by decide +kernel
theorem dX5_takeVoter_42 : decode cX5_takeVoter 42 = .ok (.iconst 0, 1) := by decide +kernel
theorem dX5_takeVoter_43 : decode cX5_takeVoter 43 = .ok (.istore 6, 2) := by decide +kernel
theorem dX5_takeVoter_45 : decode cX5_takeVoter 45 = .ok (.iload 6, 2) := by decide +kernel
theorem dX5_takeVoter_47 : decode cX5_takeVoter 47 = .ok (.iload 4, 2) := by decide +kernel
theorem dX5_takeVoter_49 : decode cX5_takeVoter 49 = .ok (.if_icmp .ge 33, 3) := by decide +kernel
theorem dX5_takeVoter_52 : decode cX5_takeVoter 52 = .ok (.aload_n 0, 1) := by decide +kernel
theorem dX5_takeVoter_53 : decode cX5_takeVoter 53 = .ok (.getfield 9, 3) := by decide +kernel
theorem dX5_takeVoter_56 : decode cX5_takeVoter 56 = .ok (.iload_n 2, 1) := by decide +kernel
theorem dX5_takeVoter_57 : decode cX5_takeVoter 57 = .ok (.iload 4, 2) := by decide +kernel
theorem dX5_takeVoter_59 : decode cX5_takeVoter 59 = .ok (.iadd, 1) := by decide +kernel
theorem dX5_takeVoter_60 : decode cX5_takeVoter 60 = .ok (.iload 6, 2) := by decide +kernel
theorem dX5_takeVoter_62 : decode cX5_takeVoter 62 = .ok (.iadd, 1) := by decide +kernel
theorem dX5_takeVoter_63 : decode cX5_takeVoter 63 = .ok (.aload_n 0, 1) := by decide +kernel
theorem dX5_takeVoter_64 : decode cX5_takeVoter 64 = .ok (.getfield 9, 3) := by decide +kernel
theorem dX5_takeVoter_67 : decode cX5_takeVoter 67 = .ok (.iload_n 2, 1) := by decide +kernel
theorem dX5_takeVoter_68 : decode cX5_takeVoter 68 = .ok (.iload 6, 2) := by decide +kernel
theorem dX5_takeVoter_70 : decode cX5_takeVoter 70 = .ok (.iadd, 1) := by decide +kernel
theorem dX5_takeVoter_71 : decode cX5_takeVoter 71 = .ok (.iaload, 1) := by decide +kernel
theorem dX5_takeVoter_72 : decode cX5_takeVoter 72 = .ok (.iload 5, 2) := by decide +kernel
theorem dX5_takeVoter_74 : decode cX5_takeVoter 74 = .ok (.iadd, 1) := by decide +kernel
theorem dX5_takeVoter_75 : decode cX5_takeVoter 75 = .ok (.iastore, 1) := by decide +kernel
theorem dX5_takeVoter_76 : decode cX5_takeVoter 76 = .ok (.iinc 6 1, 3) := by decide +kernel
theorem dX5_takeVoter_79 : decode cX5_takeVoter 79 = .ok (.goto (-34), 3) := by decide +kernel
theorem dX5_takeVoter_82 : decode cX5_takeVoter 82 = .ok (.iinc 3 1, 3) := by decide +kernel
theorem dX5_takeVoter_85 : decode cX5_takeVoter 85 = .ok (.goto (-70), 3) := by decide +kernel
theorem dX5_takeVoter_88 : decode cX5_takeVoter 88 = .ok (.iconst 0, 1) := by decide +kernel
theorem dX5_takeVoter_89 : decode cX5_takeVoter 89 = .ok (.istore_n 3, 1) := by decide +kernel
theorem dX5_takeVoter_90 : decode cX5_takeVoter 90 = .ok (.iload_n 3, 1) := by decide +kernel
theorem dX5_takeVoter_91 : decode cX5_takeVoter 91 = .ok (.aload_n 0, 1) := by decide +kernel
theorem dX5_takeVoter_92 : decode cX5_takeVoter 92 = .ok (.getfield 15, 3) := by decide +kernel
theorem dX5_takeVoter_95 : decode cX5_takeVoter 95 = .ok (.getfield 32, 3) := by decide +kernel
theorem dX5_takeVoter_98 : decode cX5_takeVoter 98 = .ok (.if_icmp .ge 45, 3) := by decide +kernel
theorem dX5_takeVoter_101 : decode cX5_takeVoter 101 = .ok (.aload_n 0, 1) := by decide +kernel
theorem dX5_takeVoter_102 : decode cX5_takeVoter 102 = .ok (.getfield 15, 3) := by decide +kernel
theorem dX5_takeVoter_105 : decode cX5_takeVoter 105 = .ok (.getfield 35, 3) := by decide +kernel
theorem dX5_takeVoter_108 : decode cX5_takeVoter 108 = .ok (.iload_n 3, 1) := by decide +kernel
theorem dX5_takeVoter_109 : decode cX5_takeVoter 109 = .ok (.iaload, 1) := by decide +kernel
theorem dX5_takeVoter_110 : decode cX5_takeVoter 110 = .ok (.iload_n 1, 1) := by decide +kernel
theorem dX5_takeVoter_111 : decode cX5_takeVoter 111 = .ok (.if_icmp .ne 26, 3) := by decide +kernel
theorem dX5_takeVoter_114 : decode cX5_takeVoter 114 = .ok (.aload_n 0, 1) := by decide +kernel
theorem dX5_takeVoter_115 : decode cX5_takeVoter 115 = .ok (.iload_n 2, 1) := by decide +kernel
theorem dX5_takeVoter_116 : decode cX5_takeVoter 116 = .ok (.aload_n 0, 1) := by decide +kernel
theorem dX5_takeVoter_117 : decode cX5_takeVoter 117 = .ok (.getfield 15, 3) := by decide +kernel
theorem dX5_takeVoter_120 : decode cX5_takeVoter 120 = .ok (.getfield 38, 3) := by decide +kernel
theorem dX5_takeVoter_123 : decode cX5_takeVoter 123 = .ok (.iload_n 3, 1) := by decide +kernel
theorem dX5_takeVoter_124 : decode cX5_takeVoter 124 = .ok (.iaload, 1) := by decide +kernel
theorem dX5_takeVoter_125 : decode cX5_takeVoter 125 = .ok (.aload_n 0, 1) := by decide +kernel
theorem dX5_takeVoter_126 : decode cX5_takeVoter 126 = .ok (.getfield 15, 3) := by decide +kernel
theorem dX5_takeVoter_129 : decode cX5_takeVoter 129 = .ok (.getfield 41, 3) := by decide +kernel
theorem dX5_takeVoter_132 : decode cX5_takeVoter 132 = .ok (.iload_n 3, 1) := by decide +kernel
theorem dX5_takeVoter_133 : decode cX5_takeVoter 133 = .ok (.iaload, 1) := by decide +kernel
theorem dX5_takeVoter_134 : decode cX5_takeVoter 134 = .ok (.invokevirtual 44, 3) := by decide +kernel
theorem dX5_takeVoter_137 : decode cX5_takeVoter 137 = .ok (.iinc 3 1, 3) := by decide +kernel
theorem dX5_takeVoter_140 : decode cX5_takeVoter 140 = .ok (.goto (-50), 3) := by decide +kernel
theorem dX5_takeVoter_143 : decode cX5_takeVoter 143 = .ok (.return_, 1) := by decide +kernel
theorem dX5_takeJoint_0 : decode cX5_takeJoint 0 = .ok (.iload_n 2, 1) := by decide +kernel
theorem dX5_takeJoint_1 : decode cX5_takeJoint 1 = .ok (.istore 4, 2) := by decide +kernel
theorem dX5_takeJoint_3 : decode cX5_takeJoint 3 = .ok (.iload 4, 2) := by decide +kernel
theorem dX5_takeJoint_5 : decode cX5_takeJoint 5 = .ok (.sipush 256, 3) := by decide +kernel
theorem dX5_takeJoint_8 : decode cX5_takeJoint 8 = .ok (.if_icmp .ge 30, 3) := by decide +kernel
theorem dX5_takeJoint_11 : decode cX5_takeJoint 11 = .ok (.iload 4, 2) := by decide +kernel
theorem dX5_takeJoint_13 : decode cX5_takeJoint 13 = .ok (.iload_n 2, 1) := by decide +kernel
theorem dX5_takeJoint_14 : decode cX5_takeJoint 14 = .ok (.iand, 1) := by decide +kernel
theorem dX5_takeJoint_15 : decode cX5_takeJoint 15 = .ok (.iload_n 2, 1) := by decide +kernel
theorem dX5_takeJoint_16 : decode cX5_takeJoint 16 = .ok (.if_icmp .ne 16, 3) := by decide +kernel
theorem dX5_takeJoint_19 : decode cX5_takeJoint 19 = .ok (.aload_n 0, 1) := by decide +kernel
theorem dX5_takeJoint_20 : decode cX5_takeJoint 20 = .ok (.getfield 9, 3) := by decide +kernel
theorem dX5_takeJoint_23 : decode cX5_takeJoint 23 = .ok (.iload_n 1, 1) := by decide +kernel
theorem dX5_takeJoint_24 : decode cX5_takeJoint 24 = .ok (.iload 4, 2) := by decide +kernel
theorem dX5_takeJoint_26 : decode cX5_takeJoint 26 = .ok (.iadd, 1) := by decide +kernel
theorem dX5_takeJoint_27 : decode cX5_takeJoint 27 = .ok (.dup2, 1) := by decide +kernel
theorem dX5_takeJoint_28 : decode cX5_takeJoint 28 = .ok (.iaload, 1) := by decide +kernel
theorem dX5_takeJoint_29 : decode cX5_takeJoint 29 = .ok (.iload_n 3, 1) := by decide +kernel
theorem dX5_takeJoint_30 : decode cX5_takeJoint 30 = .ok (.iadd, 1) := by decide +kernel
theorem dX5_takeJoint_31 : decode cX5_takeJoint 31 = .ok (.iastore, 1) := by decide +kernel
theorem dX5_takeJoint_32 : decode cX5_takeJoint 32 = .ok (.iinc 4 1, 3) := by decide +kernel
theorem dX5_takeJoint_35 : decode cX5_takeJoint 35 = .ok (.goto (-32), 3) := by decide +kernel
theorem dX5_takeJoint_38 : decode cX5_takeJoint 38 = .ok (.return_, 1) := by decide +kernel
theorem dX5_likingOf_0 : decode cX5_likingOf 0 = .ok (.aload_n 0, 1) := by decide +kernel
theorem dX5_likingOf_1 : decode cX5_likingOf 1 = .ok (.getfield 9, 3) := by decide +kernel
theorem dX5_likingOf_4 : decode cX5_likingOf 4 = .ok (.iload_n 1, 1) := by decide +kernel
theorem dX5_likingOf_5 : decode cX5_likingOf 5 = .ok (.sipush 256, 3) := by decide +kernel
theorem dX5_likingOf_8 : decode cX5_likingOf 8 = .ok (.imul, 1) := by decide +kernel
theorem dX5_likingOf_9 : decode cX5_likingOf 9 = .ok (.iload_n 2, 1) := by decide +kernel
theorem dX5_likingOf_10 : decode cX5_likingOf 10 = .ok (.iadd, 1) := by decide +kernel
theorem dX5_likingOf_11 : decode cX5_likingOf 11 = .ok (.iaload, 1) := by decide +kernel
theorem dX5_likingOf_12 : decode cX5_likingOf 12 = .ok (.ireturn, 1) := by decide +kernel
theorem dX5_isPreferred_0 : decode cX5_isPreferred 0 = .ok (.iload_n 1, 1) := by decide +kernel
theorem dX5_isPreferred_1 : decode cX5_isPreferred 1 = .ok (.sipush 256, 3) := by decide +kernel
theorem dX5_isPreferred_4 : decode cX5_isPreferred 4 = .ok (.imul, 1) := by decide +kernel
theorem dX5_isPreferred_5 : decode cX5_isPreferred 5 = .ok (.istore 4, 2) := by decide +kernel
theorem dX5_isPreferred_7 : decode cX5_isPreferred 7 = .ok (.aload_n 0, 1) := by decide +kernel
theorem dX5_isPreferred_8 : decode cX5_isPreferred 8 = .ok (.getfield 9, 3) := by decide +kernel
theorem dX5_isPreferred_11 : decode cX5_isPreferred 11 = .ok (.iload 4, 2) := by decide +kernel
theorem dX5_isPreferred_13 : decode cX5_isPreferred 13 = .ok (.iload_n 2, 1) := by decide +kernel
theorem dX5_isPreferred_14 : decode cX5_isPreferred 14 = .ok (.iadd, 1) := by decide +kernel
theorem dX5_isPreferred_15 : decode cX5_isPreferred 15 = .ok (.iaload, 1) := by decide +kernel
theorem dX5_isPreferred_16 : decode cX5_isPreferred 16 = .ok (.aload_n 0, 1) := by decide +kernel
theorem dX5_isPreferred_17 : decode cX5_isPreferred 17 = .ok (.getfield 9, 3) := by decide +kernel
theorem dX5_isPreferred_20 : decode cX5_isPreferred 20 = .ok (.iload 4, 2) := by decide +kernel
theorem dX5_isPreferred_22 : decode cX5_isPreferred 22 = .ok (.iload_n 3, 1) := by decide +kernel
theorem dX5_isPreferred_23 : decode cX5_isPreferred 23 = .ok (.iadd, 1) := by decide +kernel
theorem dX5_isPreferred_24 : decode cX5_isPreferred 24 = .ok (.iaload, 1) := by decide +kernel
theorem dX5_isPreferred_25 : decode cX5_isPreferred 25 = .ok (.if_icmp .le 7, 3) := by decide +kernel
theorem dX5_isPreferred_28 : decode cX5_isPreferred 28 = .ok (.iconst 1, 1) := by decide +kernel
theorem dX5_isPreferred_29 : decode cX5_isPreferred 29 = .ok (.goto 4, 3) := by decide +kernel
theorem dX5_isPreferred_32 : decode cX5_isPreferred 32 = .ok (.iconst 0, 1) := by decide +kernel
theorem dX5_isPreferred_33 : decode cX5_isPreferred 33 = .ok (.ireturn, 1) := by decide +kernel
theorem dX5_countPreferring_0 : decode cX5_countPreferring 0 = .ok (.iconst 0, 1) := by decide +kernel
theorem dX5_countPreferring_1 : decode cX5_countPreferring 1 = .ok (.istore_n 3, 1) := by decide +kernel
theorem dX5_countPreferring_2 : decode cX5_countPreferring 2 = .ok (.iconst 0, 1) := by decide +kernel
theorem dX5_countPreferring_3 : decode cX5_countPreferring 3 = .ok (.istore 4, 2) := by decide +kernel
theorem dX5_countPreferring_5 : decode cX5_countPreferring 5 = .ok (.iload_n 1, 1) := by decide +kernel
theorem dX5_countPreferring_6 : decode cX5_countPreferring 6 = .ok (.iload_n 2, 1) := by decide +kernel
theorem dX5_countPreferring_7 : decode cX5_countPreferring 7 = .ok (.if_icmp .eq 35, 3) := by decide +kernel
theorem dX5_countPreferring_10 : decode cX5_countPreferring 10 = .ok (.iload 4, 2) := by decide +kernel
theorem dX5_countPreferring_12 : decode cX5_countPreferring 12 = .ok (.aload_n 0, 1) := by decide +kernel
theorem dX5_countPreferring_13 : decode cX5_countPreferring 13 = .ok (.getfield 15, 3) := by decide +kernel
theorem dX5_countPreferring_16 : decode cX5_countPreferring 16 = .ok (.getfield 19, 3) := by decide +kernel
theorem dX5_countPreferring_19 : decode cX5_countPreferring 19 = .ok (.if_icmp .ge 23, 3) := by decide +kernel
theorem dX5_countPreferring_22 : decode cX5_countPreferring 22 = .ok (.aload_n 0, 1) := by decide +kernel
theorem dX5_countPreferring_23 : decode cX5_countPreferring 23 = .ok (.iload 4, 2) := by decide +kernel
theorem dX5_countPreferring_25 : decode cX5_countPreferring 25 = .ok (.iload_n 1, 1) := by decide +kernel
theorem dX5_countPreferring_26 : decode cX5_countPreferring 26 = .ok (.iload_n 2, 1) := by decide +kernel
theorem dX5_countPreferring_27 : decode cX5_countPreferring 27 = .ok (.invokevirtual 48, 3) := by decide +kernel
theorem dX5_countPreferring_30 : decode cX5_countPreferring 30 = .ok (.ifCond .eq 6, 3) := by decide +kernel
theorem dX5_countPreferring_33 : decode cX5_countPreferring 33 = .ok (.iinc 3 1, 3) := by decide +kernel
theorem dX5_countPreferring_36 : decode cX5_countPreferring 36 = .ok (.iinc 4 1, 3) := by decide +kernel
theorem dX5_countPreferring_39 : decode cX5_countPreferring 39 = .ok (.goto (-34), 3) := by decide +kernel
theorem dX5_countPreferring_42 : decode cX5_countPreferring 42 = .ok (.iload_n 3, 1) := by decide +kernel
theorem dX5_countPreferring_43 : decode cX5_countPreferring 43 = .ok (.ireturn, 1) := by decide +kernel
theorem dX6_init_0 : decode cX6_init 0 = .ok (.aload_n 0, 1) := by decide +kernel
theorem dX6_init_1 : decode cX6_init 1 = .ok (.invokespecial 3, 3) := by decide +kernel
theorem dX6_init_4 : decode cX6_init 4 = .ok (.aload_n 0, 1) := by decide +kernel
theorem dX6_init_5 : decode cX6_init 5 = .ok (.bipush 64, 2) := by decide +kernel
theorem dX6_init_7 : decode cX6_init 7 = .ok (.newarray .int, 2) := by decide +kernel
theorem dX6_init_9 : decode cX6_init 9 = .ok (.putfield 9, 3) := by decide +kernel
theorem dX6_init_12 : decode cX6_init 12 = .ok (.aload_n 0, 1) := by decide +kernel
theorem dX6_init_13 : decode cX6_init 13 = .ok (.sipush 448, 3) := by decide +kernel
theorem dX6_init_16 : decode cX6_init 16 = .ok (.newarray .int, 2) := by decide +kernel
theorem dX6_init_18 : decode cX6_init 18 = .ok (.putfield 15, 3) := by decide +kernel
theorem dX6_init_21 : decode cX6_init 21 = .ok (.aload_n 0, 1) := by decide +kernel
theorem dX6_init_22 : decode cX6_init 22 = .ok (.bipush 6, 2) := by decide +kernel
theorem dX6_init_24 : decode cX6_init 24 = .ok (.newarray .int, 2) := by decide +kernel
theorem dX6_init_26 : decode cX6_init 26 = .ok (.putfield 18, 3) := by decide +kernel
theorem dX6_init_29 : decode cX6_init 29 = .ok (.aload_n 0, 1) := by decide +kernel
theorem dX6_init_30 : decode cX6_init 30 = .ok (.bipush 7, 2) := by decide +kernel
theorem dX6_init_32 : decode cX6_init 32 = .ok (.newarray .int, 2) := by decide +kernel
theorem dX6_init_34 : decode cX6_init 34 = .ok (.putfield 21, 3) := by decide +kernel
theorem dX6_init_37 : decode cX6_init 37 = .ok (.aload_n 0, 1) := by decide +kernel
theorem dX6_init_38 : decode cX6_init 38 = .ok (.aload_n 1, 1) := by decide +kernel
theorem dX6_init_39 : decode cX6_init 39 = .ok (.putfield 24, 3) := by decide +kernel
theorem dX6_init_42 : decode cX6_init 42 = .ok (.aload_n 0, 1) := by decide +kernel
theorem dX6_init_43 : decode cX6_init 43 = .ok (.aload_n 2, 1) := by decide +kernel
theorem dX6_init_44 : decode cX6_init 44 = .ok (.putfield 28, 3) := by decide +kernel
theorem dX6_init_47 : decode cX6_init 47 = .ok (.aload_n 0, 1) := by decide +kernel
theorem dX6_init_48 : decode cX6_init 48 = .ok (.aload_n 3, 1) := by decide +kernel
theorem dX6_init_49 : decode cX6_init 49 = .ok (.putfield 32, 3) := by decide +kernel
theorem dX6_init_52 : decode cX6_init 52 = .ok (.return_, 1) := by decide +kernel
theorem dX6_takeForms_0 : decode cX6_takeForms 0 = .ok (.iconst 1, 1) := by decide +kernel
theorem dX6_takeForms_1 : decode cX6_takeForms 1 = .ok (.aload_n 0, 1) := by decide +kernel
theorem dX6_takeForms_2 : decode cX6_takeForms 2 = .ok (.getfield 24, 3) := by decide +kernel
theorem dX6_takeForms_5 : decode cX6_takeForms 5 = .ok (.getfield 36, 3) := by decide +kernel
theorem dX6_takeForms_8 : decode cX6_takeForms 8 = .ok (.ishl, 1) := by decide +kernel
theorem dX6_takeForms_9 : decode cX6_takeForms 9 = .ok (.istore_n 1, 1) := by decide +kernel
theorem dX6_takeForms_10 : decode cX6_takeForms 10 = .ok (.iconst 0, 1) := by decide +kernel
theorem dX6_takeForms_11 : decode cX6_takeForms 11 = .ok (.istore_n 2, 1) := by decide +kernel
theorem dX6_takeForms_12 : decode cX6_takeForms 12 = .ok (.iload_n 2, 1) := by decide +kernel
theorem dX6_takeForms_13 : decode cX6_takeForms 13 = .ok (.iload_n 1, 1) := by decide +kernel
theorem dX6_takeForms_14 : decode cX6_takeForms 14 = .ok (.if_icmp .ge 23, 3) := by decide +kernel
theorem dX6_takeForms_17 : decode cX6_takeForms 17 = .ok (.aload_n 0, 1) := by decide +kernel
theorem dX6_takeForms_18 : decode cX6_takeForms 18 = .ok (.getfield 9, 3) := by decide +kernel
theorem dX6_takeForms_21 : decode cX6_takeForms 21 = .ok (.iload_n 2, 1) := by decide +kernel
theorem dX6_takeForms_22 : decode cX6_takeForms 22 = .ok (.aload_n 0, 1) := by decide +kernel
theorem dX6_takeForms_23 : decode cX6_takeForms 23 = .ok (.getfield 24, 3) := by decide +kernel
theorem dX6_takeForms_26 : decode cX6_takeForms 26 = .ok (.iload_n 2, 1) := by decide +kernel
theorem dX6_takeForms_27 : decode cX6_takeForms 27 = .ok (.invokevirtual 42, 3) := by decide +kernel
theorem dX6_takeForms_30 : decode cX6_takeForms 30 = .ok (.iastore, 1) := by decide +kernel
theorem dX6_takeForms_31 : decode cX6_takeForms 31 = .ok (.iinc 2 1, 3) := by decide +kernel
theorem dX6_takeForms_34 : decode cX6_takeForms 34 = .ok (.goto (-22), 3) := by decide +kernel
theorem dX6_takeForms_37 : decode cX6_takeForms 37 = .ok (.return_, 1) := by decide +kernel
theorem dX6_outcome_0 : decode cX6_outcome 0 = .ok (.iconst 0, 1) := by decide +kernel
theorem dX6_outcome_1 : decode cX6_outcome 1 = .ok (.istore_n 3, 1) := by decide +kernel
theorem dX6_outcome_2 : decode cX6_outcome 2 = .ok (.iconst 0, 1) := by decide +kernel
theorem dX6_outcome_3 : decode cX6_outcome 3 = .ok (.istore 4, 2) := by decide +kernel
theorem dX6_outcome_5 : decode cX6_outcome 5 = .ok (.iconst 0, 1) := by decide +kernel
theorem dX6_outcome_6 : decode cX6_outcome 6 = .ok (.istore 5, 2) := by decide +kernel
theorem dX6_outcome_8 : decode cX6_outcome 8 = .ok (.iload 5, 2) := by decide +kernel
theorem dX6_outcome_10 : decode cX6_outcome 10 = .ok (.aload_n 0, 1) := by decide +kernel
theorem dX6_outcome_11 : decode cX6_outcome 11 = .ok (.getfield 24, 3) := by decide +kernel
theorem dX6_outcome_14 : decode cX6_outcome 14 = .ok (.getfield 36, 3) := by decide +kernel
theorem dX6_outcome_17 : decode cX6_outcome 17 = .ok (.if_icmp .ge 50, 3) := by decide +kernel
theorem dX6_outcome_20 : decode cX6_outcome 20 = .ok (.aload_n 0, 1) := by decide +kernel
theorem dX6_outcome_21 : decode cX6_outcome 21 = .ok (.getfield 28, 3) := by decide +kernel
theorem dX6_outcome_24 : decode cX6_outcome 24 = .ok (.getfield 46, 3) := by decide +kernel
theorem dX6_outcome_27 : decode cX6_outcome 27 = .ok (.iload 5, 2) := by decide +kernel
theorem dX6_outcome_29 : decode cX6_outcome 29 = .ok (.iaload, 1) := by decide +kernel
theorem dX6_outcome_30 : decode cX6_outcome 30 = .ok (.istore 6, 2) := by decide +kernel
theorem dX6_outcome_32 : decode cX6_outcome 32 = .ok (.iload 6, 2) := by decide +kernel
theorem dX6_outcome_34 : decode cX6_outcome 34 = .ok (.iload_n 2, 1) := by decide +kernel
theorem dX6_outcome_35 : decode cX6_outcome 35 = .ok (.invokestatic 51, 3) := by decide +kernel
theorem dX6_outcome_38 : decode cX6_outcome 38 = .ok (.ifCond .ne 23, 3) := by decide +kernel
theorem dX6_outcome_41 : decode cX6_outcome 41 = .ok (.aload_n 0, 1) := by decide +kernel
theorem dX6_outcome_42 : decode cX6_outcome 42 = .ok (.getfield 18, 3) := by decide +kernel
theorem dX6_outcome_45 : decode cX6_outcome 45 = .ok (.iload_n 3, 1) := by decide +kernel
theorem dX6_outcome_46 : decode cX6_outcome 46 = .ok (.iload 6, 2) := by decide +kernel
theorem dX6_outcome_48 : decode cX6_outcome 48 = .ok (.iastore, 1) := by decide +kernel
theorem dX6_outcome_49 : decode cX6_outcome 49 = .ok (.iinc 3 1, 3) := by decide +kernel
theorem dX6_outcome_52 : decode cX6_outcome 52 = .ok (.iload 4, 2) := by decide +kernel
theorem dX6_outcome_54 : decode cX6_outcome 54 = .ok (.iconst 1, 1) := by decide +kernel
theorem dX6_outcome_55 : decode cX6_outcome 55 = .ok (.iload 6, 2) := by decide +kernel
theorem dX6_outcome_57 : decode cX6_outcome 57 = .ok (.ishl, 1) := by decide +kernel
theorem dX6_outcome_58 : decode cX6_outcome 58 = .ok (.ior, 1) := by decide +kernel
theorem dX6_outcome_59 : decode cX6_outcome 59 = .ok (.istore 4, 2) := by decide +kernel
theorem dX6_outcome_61 : decode cX6_outcome 61 = .ok (.iinc 5 1, 3) := by decide +kernel
theorem dX6_outcome_64 : decode cX6_outcome 64 = .ok (.goto (-56), 3) := by decide +kernel
theorem dX6_outcome_67 : decode cX6_outcome 67 = .ok (.aload_n 0, 1) := by decide +kernel
theorem dX6_outcome_68 : decode cX6_outcome 68 = .ok (.iload_n 1, 1) := by decide +kernel
theorem dX6_outcome_69 : decode cX6_outcome 69 = .ok (.iload_n 3, 1) := by decide +kernel
theorem dX6_outcome_70 : decode cX6_outcome 70 = .ok (.iload 4, 2) := by decide +kernel
theorem dX6_outcome_72 : decode cX6_outcome 72 = .ok (.invokevirtual 55, 3) := by decide +kernel
theorem dX6_outcome_75 : decode cX6_outcome 75 = .ok (.iload_n 3, 1) := by decide +kernel
theorem dX6_outcome_76 : decode cX6_outcome 76 = .ok (.iconst 1, 1) := by decide +kernel
theorem dX6_outcome_77 : decode cX6_outcome 77 = .ok (.isub, 1) := by decide +kernel
theorem dX6_outcome_78 : decode cX6_outcome 78 = .ok (.istore 5, 2) := by decide +kernel
theorem dX6_outcome_80 : decode cX6_outcome 80 = .ok (.iload 5, 2) := by decide +kernel
theorem dX6_outcome_82 : decode cX6_outcome 82 = .ok (.ifCond .lt 40, 3) := by decide +kernel
theorem dX6_outcome_85 : decode cX6_outcome 85 = .ok (.iload 4, 2) := by decide +kernel
theorem dX6_outcome_87 : decode cX6_outcome 87 = .ok (.iconst 1, 1) := by decide +kernel
theorem dX6_outcome_88 : decode cX6_outcome 88 = .ok (.aload_n 0, 1) := by decide +kernel
theorem dX6_outcome_89 : decode cX6_outcome 89 = .ok (.getfield 18, 3) := by decide +kernel
theorem dX6_outcome_92 : decode cX6_outcome 92 = .ok (.iload 5, 2) := by decide +kernel
theorem dX6_outcome_94 : decode cX6_outcome 94 = .ok (.iaload, 1) := by decide +kernel
theorem dX6_outcome_95 : decode cX6_outcome 95 = .ok (.ishl, 1) := by decide +kernel
theorem dX6_outcome_96 : decode cX6_outcome 96 = .ok (.iconst (-1), 1) := by decide +kernel
theorem dX6_outcome_97 : decode cX6_outcome 97 = .ok (.ixor, 1) := by decide +kernel
theorem dX6_outcome_98 : decode cX6_outcome 98 = .ok (.iand, 1) := by decide +kernel
theorem dX6_outcome_99 : decode cX6_outcome 99 = .ok (.istore 4, 2) := by decide +kernel
theorem dX6_outcome_101 : decode cX6_outcome 101 = .ok (.aload_n 0, 1) := by decide +kernel
theorem dX6_outcome_102 : decode cX6_outcome 102 = .ok (.iload 5, 2) := by decide +kernel
theorem dX6_outcome_104 : decode cX6_outcome 104 = .ok (.aload_n 0, 1) := by decide +kernel
theorem dX6_outcome_105 : decode cX6_outcome 105 = .ok (.getfield 18, 3) := by decide +kernel
theorem dX6_outcome_108 : decode cX6_outcome 108 = .ok (.iload 5, 2) := by decide +kernel
theorem dX6_outcome_110 : decode cX6_outcome 110 = .ok (.iaload, 1) := by decide +kernel
theorem dX6_outcome_111 : decode cX6_outcome 111 = .ok (.iload 4, 2) := by decide +kernel
theorem dX6_outcome_113 : decode cX6_outcome 113 = .ok (.invokevirtual 59, 3) := by decide +kernel
theorem dX6_outcome_116 : decode cX6_outcome 116 = .ok (.iinc 5 (-1), 3) := by decide +kernel
theorem dX6_outcome_119 : decode cX6_outcome 119 = .ok (.goto (-39), 3) := by decide +kernel
theorem dX6_outcome_122 : decode cX6_outcome 122 = .ok (.aload_n 0, 1) := by decide +kernel
theorem dX6_outcome_123 : decode cX6_outcome 123 = .ok (.getfield 15, 3) := by decide +kernel
theorem dX6_outcome_126 : decode cX6_outcome 126 = .ok (.iconst 0, 1) := by decide +kernel
theorem dX6_outcome_127 : decode cX6_outcome 127 = .ok (.iaload, 1) := by decide +kernel
theorem dX6_outcome_128 : decode cX6_outcome 128 = .ok (.ireturn, 1) := by decide +kernel
theorem dX6_startBack_0 : decode cX6_startBack 0 = .ok (.aload_n 0, 1) := by decide +kernel
theorem dX6_startBack_1 : decode cX6_startBack 1 = .ok (.iload_n 1, 1) := by decide +kernel
theorem dX6_startBack_2 : decode cX6_startBack 2 = .ok (.putfield 62, 3) := by decide +kernel
theorem dX6_startBack_5 : decode cX6_startBack 5 = .ok (.iload_n 2, 1) := by decide +kernel
theorem dX6_startBack_6 : decode cX6_startBack 6 = .ok (.bipush 64, 2) := by decide +kernel
theorem dX6_startBack_8 : decode cX6_startBack 8 = .ok (.imul, 1) := by decide +kernel
theorem dX6_startBack_9 : decode cX6_startBack 9 = .ok (.istore 4, 2) := by decide +kernel
theorem dX6_startBack_11 : decode cX6_startBack 11 = .ok (.iconst 0, 1) := by decide +kernel
theorem dX6_startBack_12 : decode cX6_startBack 12 = .ok (.istore 5, 2) := by decide +kernel
theorem dX6_startBack_14 : decode cX6_startBack 14 = .ok (.iload 5, 2) := by decide +kernel
theorem dX6_startBack_16 : decode cX6_startBack 16 = .ok (.iload_n 3, 1) := by decide +kernel
theorem dX6_startBack_17 : decode cX6_startBack 17 = .ok (.if_icmp .gt 52, 3) := by decide +kernel
theorem dX6_startBack_20 : decode cX6_startBack 20 = .ok (.iload 5, 2) := by decide +kernel
theorem dX6_startBack_22 : decode cX6_startBack 22 = .ok (.iload_n 3, 1) := by decide +kernel
theorem dX6_startBack_23 : decode cX6_startBack 23 = .ok (.iconst (-1), 1) := by decide +kernel
theorem dX6_startBack_24 : decode cX6_startBack 24 = .ok (.ixor, 1) := by decide +kernel
theorem dX6_startBack_25 : decode cX6_startBack 25 = .ok (.iand, 1) := by decide +kernel
theorem dX6_startBack_26 : decode cX6_startBack 26 = .ok (.ifCond .ne 37, 3) := by decide +kernel
theorem dX6_startBack_29 : decode cX6_startBack 29 = .ok (.aload_n 0, 1) := by decide +kernel
theorem dX6_startBack_30 : decode cX6_startBack 30 = .ok (.getfield 15, 3) := by decide +kernel
theorem dX6_startBack_33 : decode cX6_startBack 33 = .ok (.iload 4, 2) := by decide +kernel
theorem dX6_startBack_35 : decode cX6_startBack 35 = .ok (.iload 5, 2) := by decide +kernel
theorem dX6_startBack_37 : decode cX6_startBack 37 = .ok (.iadd, 1) := by decide +kernel
theorem dX6_startBack_38 : decode cX6_startBack 38 = .ok (.aload_n 0, 1) := by decide +kernel
theorem dX6_startBack_39 : decode cX6_startBack 39 = .ok (.aload_n 0, 1) := by decide +kernel
theorem dX6_startBack_40 : decode cX6_startBack 40 = .ok (.iload 5, 2) := by decide +kernel
theorem dX6_startBack_42 : decode cX6_startBack 42 = .ok (.invokevirtual 65, 3) := by decide +kernel
theorem dX6_startBack_45 : decode cX6_startBack 45 = .ok (.invokevirtual 68, 3) := by decide +kernel
theorem dX6_startBack_48 : decode cX6_startBack 48 = .ok (.ifCond .eq 13, 3) := by decide +kernel
theorem dX6_startBack_51 : decode cX6_startBack 51 = .ok (.aload_n 0, 1) := by decide +kernel
theorem dX6_startBack_52 : decode cX6_startBack 52 = .ok (.getfield 9, 3) := by decide +kernel
theorem dX6_startBack_55 : decode cX6_startBack 55 = .ok (.iload 5, 2) := by decide +kernel
theorem dX6_startBack_57 : decode cX6_startBack 57 = .ok (.iaload, 1) := by decide +kernel
theorem dX6_startBack_58 : decode cX6_startBack 58 = .ok (.goto 4, 3) := by decide +kernel
theorem dX6_startBack_61 : decode cX6_startBack 61 = .ok (.iconst 0, 1) := by decide +kernel
theorem dX6_startBack_62 : decode cX6_startBack 62 = .ok (.iastore, 1) := by decide +kernel
theorem dX6_startBack_63 : decode cX6_startBack 63 = .ok (.iinc 5 1, 3) := by decide +kernel
theorem dX6_startBack_66 : decode cX6_startBack 66 = .ok (.goto (-52), 3) := by decide +kernel
theorem dX6_startBack_69 : decode cX6_startBack 69 = .ok (.return_, 1) := by decide +kernel
theorem dX6_stepBack_0 : decode cX6_stepBack 0 = .ok (.iload_n 1, 1) := by decide +kernel
theorem dX6_stepBack_1 : decode cX6_stepBack 1 = .ok (.bipush 64, 2) := by decide +kernel
theorem dX6_stepBack_3 : decode cX6_stepBack 3 = .ok (.imul, 1) := by decide +kernel
theorem dX6_stepBack_4 : decode cX6_stepBack 4 = .ok (.istore 4, 2) := by decide +kernel
theorem dX6_stepBack_6 : decode cX6_stepBack 6 = .ok (.iload_n 3, 1) := by decide +kernel
theorem dX6_stepBack_7 : decode cX6_stepBack 7 = .ok (.istore 5, 2) := by decide +kernel
theorem dX6_stepBack_9 : decode cX6_stepBack 9 = .ok (.iconst 1, 1) := by decide +kernel
theorem dX6_stepBack_10 : decode cX6_stepBack 10 = .ok (.iload_n 3, 1) := by decide +kernel
theorem dX6_stepBack_11 : decode cX6_stepBack 11 = .ok (.invokestatic 72, 3) := by decide +kernel
theorem dX6_stepBack_14 : decode cX6_stepBack 14 = .ok (.ishl, 1) := by decide +kernel
theorem dX6_stepBack_15 : decode cX6_stepBack 15 = .ok (.istore 6, 2) := by decide +kernel
theorem dX6_stepBack_17 : decode cX6_stepBack 17 = .ok (.iload 6, 2) := by decide +kernel
theorem dX6_stepBack_19 : decode cX6_stepBack 19 = .ok (.ifCond .le 72, 3) := by decide +kernel
theorem dX6_stepBack_22 : decode cX6_stepBack 22 = .ok (.aload_n 0, 1) := by decide +kernel
theorem dX6_stepBack_23 : decode cX6_stepBack 23 = .ok (.aload_n 0, 1) := by decide +kernel
theorem dX6_stepBack_24 : decode cX6_stepBack 24 = .ok (.iload_n 1, 1) := by decide +kernel
theorem dX6_stepBack_25 : decode cX6_stepBack 25 = .ok (.iload_n 2, 1) := by decide +kernel
theorem dX6_stepBack_26 : decode cX6_stepBack 26 = .ok (.iload 5, 2) := by decide +kernel
theorem dX6_stepBack_28 : decode cX6_stepBack 28 = .ok (.invokevirtual 77, 3) := by decide +kernel
theorem dX6_stepBack_31 : decode cX6_stepBack 31 = .ok (.invokevirtual 81, 3) := by decide +kernel
theorem dX6_stepBack_34 : decode cX6_stepBack 34 = .ok (.istore 7, 2) := by decide +kernel
theorem dX6_stepBack_36 : decode cX6_stepBack 36 = .ok (.iload 7, 2) := by decide +kernel
theorem dX6_stepBack_38 : decode cX6_stepBack 38 = .ok (.ifCond .eq 12, 3) := by decide +kernel
theorem dX6_stepBack_41 : decode cX6_stepBack 41 = .ok (.iload 5, 2) := by decide +kernel
theorem dX6_stepBack_43 : decode cX6_stepBack 43 = .ok (.iconst 1, 1) := by decide +kernel
theorem dX6_stepBack_44 : decode cX6_stepBack 44 = .ok (.iload_n 2, 1) := by decide +kernel
theorem dX6_stepBack_45 : decode cX6_stepBack 45 = .ok (.ishl, 1) := by decide +kernel
theorem dX6_stepBack_46 : decode cX6_stepBack 46 = .ok (.ior, 1) := by decide +kernel
theorem dX6_stepBack_47 : decode cX6_stepBack 47 = .ok (.goto 5, 3) := by decide +kernel
theorem dX6_stepBack_50 : decode cX6_stepBack 50 = .ok (.iload 5, 2) := by decide +kernel
theorem dX6_stepBack_52 : decode cX6_stepBack 52 = .ok (.istore 8, 2) := by decide +kernel
theorem dX6_stepBack_54 : decode cX6_stepBack 54 = .ok (.aload_n 0, 1) := by decide +kernel
theorem dX6_stepBack_55 : decode cX6_stepBack 55 = .ok (.getfield 15, 3) := by decide +kernel
theorem dX6_stepBack_58 : decode cX6_stepBack 58 = .ok (.iload 4, 2) := by decide +kernel
theorem dX6_stepBack_60 : decode cX6_stepBack 60 = .ok (.iload 5, 2) := by decide +kernel
theorem dX6_stepBack_62 : decode cX6_stepBack 62 = .ok (.iadd, 1) := by decide +kernel
theorem dX6_stepBack_63 : decode cX6_stepBack 63 = .ok (.aload_n 0, 1) := by decide +kernel
theorem dX6_stepBack_64 : decode cX6_stepBack 64 = .ok (.getfield 15, 3) := by decide +kernel
theorem dX6_stepBack_67 : decode cX6_stepBack 67 = .ok (.iload 4, 2) := by decide +kernel
theorem dX6_stepBack_69 : decode cX6_stepBack 69 = .ok (.bipush 64, 2) := by decide +kernel
theorem dX6_stepBack_71 : decode cX6_stepBack 71 = .ok (.iadd, 1) := by decide +kernel
theorem dX6_stepBack_72 : decode cX6_stepBack 72 = .ok (.iload 8, 2) := by decide +kernel
theorem dX6_stepBack_74 : decode cX6_stepBack 74 = .ok (.iadd, 1) := by decide +kernel
theorem dX6_stepBack_75 : decode cX6_stepBack 75 = .ok (.iaload, 1) := by decide +kernel
theorem dX6_stepBack_76 : decode cX6_stepBack 76 = .ok (.iastore, 1) := by decide +kernel
theorem dX6_stepBack_77 : decode cX6_stepBack 77 = .ok (.iload 5, 2) := by decide +kernel
theorem dX6_stepBack_79 : decode cX6_stepBack 79 = .ok (.iconst 1, 1) := by decide +kernel
theorem dX6_stepBack_80 : decode cX6_stepBack 80 = .ok (.isub, 1) := by decide +kernel
theorem dX6_stepBack_81 : decode cX6_stepBack 81 = .ok (.iload_n 3, 1) := by decide +kernel
theorem dX6_stepBack_82 : decode cX6_stepBack 82 = .ok (.iand, 1) := by decide +kernel
theorem dX6_stepBack_83 : decode cX6_stepBack 83 = .ok (.istore 5, 2) := by decide +kernel
theorem dX6_stepBack_85 : decode cX6_stepBack 85 = .ok (.iinc 6 (-1), 3) := by decide +kernel
theorem dX6_stepBack_88 : decode cX6_stepBack 88 = .ok (.goto (-71), 3) := by decide +kernel
theorem dX6_stepBack_91 : decode cX6_stepBack 91 = .ok (.return_, 1) := by decide +kernel
theorem dX6_yesOnMotion_0 : decode cX6_yesOnMotion 0 = .ok (.iload_n 3, 1) := by decide +kernel
theorem dX6_yesOnMotion_1 : decode cX6_yesOnMotion 1 = .ok (.iconst 1, 1) := by decide +kernel
theorem dX6_yesOnMotion_2 : decode cX6_yesOnMotion 2 = .ok (.iload_n 2, 1) := by decide +kernel
theorem dX6_yesOnMotion_3 : decode cX6_yesOnMotion 3 = .ok (.ishl, 1) := by decide +kernel
theorem dX6_yesOnMotion_4 : decode cX6_yesOnMotion 4 = .ok (.ior, 1) := by decide +kernel
theorem dX6_yesOnMotion_5 : decode cX6_yesOnMotion 5 = .ok (.istore 4, 2) := by decide +kernel
theorem dX6_yesOnMotion_7 : decode cX6_yesOnMotion 7 = .ok (.iload_n 1, 1) := by decide +kernel
theorem dX6_yesOnMotion_8 : decode cX6_yesOnMotion 8 = .ok (.iconst 1, 1) := by decide +kernel
theorem dX6_yesOnMotion_9 : decode cX6_yesOnMotion 9 = .ok (.iadd, 1) := by decide +kernel
theorem dX6_yesOnMotion_10 : decode cX6_yesOnMotion 10 = .ok (.bipush 64, 2) := by decide +kernel
theorem dX6_yesOnMotion_12 : decode cX6_yesOnMotion 12 = .ok (.imul, 1) := by decide +kernel
theorem dX6_yesOnMotion_13 : decode cX6_yesOnMotion 13 = .ok (.istore 5, 2) := by decide +kernel
theorem dX6_yesOnMotion_15 : decode cX6_yesOnMotion 15 = .ok (.aload_n 0, 1) := by decide +kernel
theorem dX6_yesOnMotion_16 : decode cX6_yesOnMotion 16 = .ok (.getfield 9, 3) := by decide +kernel
theorem dX6_yesOnMotion_19 : decode cX6_yesOnMotion 19 = .ok (.iload 4, 2) := by decide +kernel
theorem dX6_yesOnMotion_21 : decode cX6_yesOnMotion 21 = .ok (.iaload, 1) := by decide +kernel
theorem dX6_yesOnMotion_22 : decode cX6_yesOnMotion 22 = .ok (.istore 6, 2) := by decide +kernel
theorem dX6_yesOnMotion_24 : decode cX6_yesOnMotion 24 = .ok (.aload_n 0, 1) := by decide +kernel
theorem dX6_yesOnMotion_25 : decode cX6_yesOnMotion 25 = .ok (.getfield 9, 3) := by decide +kernel
theorem dX6_yesOnMotion_28 : decode cX6_yesOnMotion 28 = .ok (.iload_n 3, 1) := by decide +kernel
theorem dX6_yesOnMotion_29 : decode cX6_yesOnMotion 29 = .ok (.iaload, 1) := by decide +kernel
theorem dX6_yesOnMotion_30 : decode cX6_yesOnMotion 30 = .ok (.istore 7, 2) := by decide +kernel
theorem dX6_yesOnMotion_32 : decode cX6_yesOnMotion 32 = .ok (.aload_n 0, 1) := by decide +kernel
theorem dX6_yesOnMotion_33 : decode cX6_yesOnMotion 33 = .ok (.getfield 15, 3) := by decide +kernel
theorem dX6_yesOnMotion_36 : decode cX6_yesOnMotion 36 = .ok (.iload 5, 2) := by decide +kernel
theorem dX6_yesOnMotion_38 : decode cX6_yesOnMotion 38 = .ok (.iload 4, 2) := by decide +kernel
theorem dX6_yesOnMotion_40 : decode cX6_yesOnMotion 40 = .ok (.iadd, 1) := by decide +kernel
theorem dX6_yesOnMotion_41 : decode cX6_yesOnMotion 41 = .ok (.iaload, 1) := by decide +kernel
theorem dX6_yesOnMotion_42 : decode cX6_yesOnMotion 42 = .ok (.istore 8, 2) := by decide +kernel
theorem dX6_yesOnMotion_44 : decode cX6_yesOnMotion 44 = .ok (.aload_n 0, 1) := by decide +kernel
theorem dX6_yesOnMotion_45 : decode cX6_yesOnMotion 45 = .ok (.getfield 15, 3) := by decide +kernel
theorem dX6_yesOnMotion_48 : decode cX6_yesOnMotion 48 = .ok (.iload 5, 2) := by decide +kernel
theorem dX6_yesOnMotion_50 : decode cX6_yesOnMotion 50 = .ok (.iload_n 3, 1) := by decide +kernel
theorem dX6_yesOnMotion_51 : decode cX6_yesOnMotion 51 = .ok (.iadd, 1) := by decide +kernel
theorem dX6_yesOnMotion_52 : decode cX6_yesOnMotion 52 = .ok (.iaload, 1) := by decide +kernel
theorem dX6_yesOnMotion_53 : decode cX6_yesOnMotion 53 = .ok (.istore 9, 2) := by decide +kernel
theorem dX6_yesOnMotion_55 : decode cX6_yesOnMotion 55 = .ok (.iload 6, 2) := by decide +kernel
theorem dX6_yesOnMotion_57 : decode cX6_yesOnMotion 57 = .ok (.iload 7, 2) := by decide +kernel
theorem dX6_yesOnMotion_59 : decode cX6_yesOnMotion 59 = .ok (.if_icmp .ne 12, 3) := by decide +kernel
theorem dX6_yesOnMotion_62 : decode cX6_yesOnMotion 62 = .ok (.iload 8, 2) := by decide +kernel
theorem dX6_yesOnMotion_64 : decode cX6_yesOnMotion 64 = .ok (.iload 9, 2) := by decide +kernel
theorem dX6_yesOnMotion_66 : decode cX6_yesOnMotion 66 = .ok (.if_icmp .ne 5, 3) := by decide +kernel
theorem dX6_yesOnMotion_69 : decode cX6_yesOnMotion 69 = .ok (.iconst 0, 1) := by decide +kernel
theorem dX6_yesOnMotion_70 : decode cX6_yesOnMotion 70 = .ok (.ireturn, 1) := by decide +kernel
theorem dX6_yesOnMotion_71 : decode cX6_yesOnMotion 71 = .ok (.iconst 0, 1) := by decide +kernel
theorem dX6_yesOnMotion_72 : decode cX6_yesOnMotion 72 = .ok (.istore 10, 2) := by decide +kernel
theorem dX6_yesOnMotion_74 : decode cX6_yesOnMotion 74 = .ok (.iconst 0, 1) := by decide +kernel
theorem dX6_yesOnMotion_75 : decode cX6_yesOnMotion 75 = .ok (.istore 11, 2) := by decide +kernel
theorem dX6_yesOnMotion_77 : decode cX6_yesOnMotion 77 = .ok (.iload 11, 2) := by decide +kernel
theorem dX6_yesOnMotion_79 : decode cX6_yesOnMotion 79 = .ok (.aload_n 0, 1) := by decide +kernel
theorem dX6_yesOnMotion_80 : decode cX6_yesOnMotion 80 = .ok (.getfield 24, 3) := by decide +kernel
theorem dX6_yesOnMotion_83 : decode cX6_yesOnMotion 83 = .ok (.getfield 84, 3) := by decide +kernel
theorem dX6_yesOnMotion_86 : decode cX6_yesOnMotion 86 = .ok (.if_icmp .ge 60, 3) := by decide +kernel
theorem dX6_yesOnMotion_89 : decode cX6_yesOnMotion 89 = .ok (.iload 11, 2) := by decide +kernel
theorem dX6_yesOnMotion_91 : decode cX6_yesOnMotion 91 = .ok (.aload_n 0, 1) := by decide +kernel
theorem dX6_yesOnMotion_92 : decode cX6_yesOnMotion 92 = .ok (.getfield 62, 3) := by decide +kernel
theorem dX6_yesOnMotion_95 : decode cX6_yesOnMotion 95 = .ok (.invokestatic 51, 3) := by decide +kernel
theorem dX6_yesOnMotion_98 : decode cX6_yesOnMotion 98 = .ok (.ifCond .eq 19, 3) := by decide +kernel
theorem dX6_yesOnMotion_101 : decode cX6_yesOnMotion 101 = .ok (.aload_n 0, 1) := by decide +kernel
theorem dX6_yesOnMotion_102 : decode cX6_yesOnMotion 102 = .ok (.getfield 32, 3) := by decide +kernel
theorem dX6_yesOnMotion_105 : decode cX6_yesOnMotion 105 = .ok (.iload 11, 2) := by decide +kernel
theorem dX6_yesOnMotion_107 : decode cX6_yesOnMotion 107 = .ok (.iload 6, 2) := by decide +kernel
theorem dX6_yesOnMotion_109 : decode cX6_yesOnMotion 109 = .ok (.iload 7, 2) := by decide +kernel
theorem dX6_yesOnMotion_111 : decode cX6_yesOnMotion 111 = .ok (.invokevirtual 87, 3) := by decide +kernel
theorem dX6_yesOnMotion_114 : decode cX6_yesOnMotion 114 = .ok (.goto 16, 3) := by decide +kernel
theorem dX6_yesOnMotion_117 : decode cX6_yesOnMotion 117 = .ok (.aload_n 0, 1) := by decide +kernel
theorem dX6_yesOnMotion_118 : decode cX6_yesOnMotion 118 = .ok (.getfield 32, 3) := by decide +kernel
theorem dX6_yesOnMotion_121 : decode cX6_yesOnMotion 121 = .ok (.iload 11, 2) := by decide +kernel
theorem dX6_yesOnMotion_123 : decode cX6_yesOnMotion 123 = .ok (.iload 8, 2) := by decide +kernel
theorem dX6_yesOnMotion_125 : decode cX6_yesOnMotion 125 = .ok (.iload 9, 2) := by decide +kernel
theorem dX6_yesOnMotion_127 : decode cX6_yesOnMotion 127 = .ok (.invokevirtual 87, 3) := by decide +kernel
theorem dX6_yesOnMotion_130 : decode cX6_yesOnMotion 130 = .ok (.istore 12, 2) := by decide +kernel
theorem dX6_yesOnMotion_132 : decode cX6_yesOnMotion 132 = .ok (.iload 12, 2) := by decide +kernel
theorem dX6_yesOnMotion_134 : decode cX6_yesOnMotion 134 = .ok (.ifCond .eq 6, 3) := by decide +kernel
theorem dX6_yesOnMotion_137 : decode cX6_yesOnMotion 137 = .ok (.iinc 10 1, 3) := by decide +kernel
theorem dX6_yesOnMotion_140 : decode cX6_yesOnMotion 140 = .ok (.iinc 11 1, 3) := by decide +kernel
theorem dX6_yesOnMotion_143 : decode cX6_yesOnMotion 143 = .ok (.goto (-66), 3) := by decide +kernel
theorem dX6_yesOnMotion_146 : decode cX6_yesOnMotion 146 = .ok (.iload 10, 2) := by decide +kernel
theorem dX6_yesOnMotion_148 : decode cX6_yesOnMotion 148 = .ok (.ireturn, 1) := by decide +kernel
theorem dX6_yesOnPassage_0 : decode cX6_yesOnPassage 0 = .ok (.aload_n 0, 1) := by decide +kernel
theorem dX6_yesOnPassage_1 : decode cX6_yesOnPassage 1 = .ok (.getfield 32, 3) := by decide +kernel
theorem dX6_yesOnPassage_4 : decode cX6_yesOnPassage 4 = .ok (.aload_n 0, 1) := by decide +kernel
theorem dX6_yesOnPassage_5 : decode cX6_yesOnPassage 5 = .ok (.getfield 9, 3) := by decide +kernel
theorem dX6_yesOnPassage_8 : decode cX6_yesOnPassage 8 = .ok (.iload_n 1, 1) := by decide +kernel
theorem dX6_yesOnPassage_9 : decode cX6_yesOnPassage 9 = .ok (.iaload, 1) := by decide +kernel
theorem dX6_yesOnPassage_10 : decode cX6_yesOnPassage 10 = .ok (.iconst 0, 1) := by decide +kernel
theorem dX6_yesOnPassage_11 : decode cX6_yesOnPassage 11 = .ok (.invokevirtual 93, 3) := by decide +kernel
theorem dX6_yesOnPassage_14 : decode cX6_yesOnPassage 14 = .ok (.ireturn, 1) := by decide +kernel
theorem dX6_carries_0 : decode cX6_carries 0 = .ok (.iconst 2, 1) := by decide +kernel
theorem dX6_carries_1 : decode cX6_carries 1 = .ok (.iload_n 1, 1) := by decide +kernel
theorem dX6_carries_2 : decode cX6_carries 2 = .ok (.imul, 1) := by decide +kernel
theorem dX6_carries_3 : decode cX6_carries 3 = .ok (.aload_n 0, 1) := by decide +kernel
theorem dX6_carries_4 : decode cX6_carries 4 = .ok (.getfield 24, 3) := by decide +kernel
theorem dX6_carries_7 : decode cX6_carries 7 = .ok (.getfield 84, 3) := by decide +kernel
theorem dX6_carries_10 : decode cX6_carries 10 = .ok (.if_icmp .le 7, 3) := by decide +kernel
theorem dX6_carries_13 : decode cX6_carries 13 = .ok (.iconst 1, 1) := by decide +kernel
theorem dX6_carries_14 : decode cX6_carries 14 = .ok (.goto 4, 3) := by decide +kernel
theorem dX6_carries_17 : decode cX6_carries 17 = .ok (.iconst 0, 1) := by decide +kernel
theorem dX6_carries_18 : decode cX6_carries 18 = .ok (.ireturn, 1) := by decide +kernel
theorem dX6_passes_0 : decode cX6_passes 0 = .ok (.iload_n 1, 1) := by decide +kernel
theorem dX6_passes_1 : decode cX6_passes 1 = .ok (.aload_n 0, 1) := by decide +kernel
theorem dX6_passes_2 : decode cX6_passes 2 = .ok (.getfield 24, 3) := by decide +kernel
theorem dX6_passes_5 : decode cX6_passes 5 = .ok (.invokevirtual 97, 3) := by decide +kernel
theorem dX6_passes_8 : decode cX6_passes 8 = .ok (.if_icmp .lt 7, 3) := by decide +kernel
theorem dX6_passes_11 : decode cX6_passes 11 = .ok (.iconst 1, 1) := by decide +kernel
theorem dX6_passes_12 : decode cX6_passes 12 = .ok (.goto 4, 3) := by decide +kernel
theorem dX6_passes_15 : decode cX6_passes 15 = .ok (.iconst 0, 1) := by decide +kernel
theorem dX6_passes_16 : decode cX6_passes 16 = .ok (.ireturn, 1) := by decide +kernel
theorem dX6_walk_0 : decode cX6_walk 0 = .ok (.aload_n 0, 1) := by decide +kernel
theorem dX6_walk_1 : decode cX6_walk 1 = .ok (.iload_n 1, 1) := by decide +kernel
theorem dX6_walk_2 : decode cX6_walk 2 = .ok (.iconst 0, 1) := by decide +kernel
theorem dX6_walk_3 : decode cX6_walk 3 = .ok (.invokevirtual 101, 3) := by decide +kernel
theorem dX6_walk_6 : decode cX6_walk 6 = .ok (.pop, 1) := by decide +kernel
theorem dX6_walk_7 : decode cX6_walk 7 = .ok (.aload_n 0, 1) := by decide +kernel
theorem dX6_walk_8 : decode cX6_walk 8 = .ok (.iconst 0, 1) := by decide +kernel
theorem dX6_walk_9 : decode cX6_walk 9 = .ok (.putfield 104, 3) := by decide +kernel
theorem dX6_walk_12 : decode cX6_walk 12 = .ok (.iconst 0, 1) := by decide +kernel
theorem dX6_walk_13 : decode cX6_walk 13 = .ok (.istore_n 2, 1) := by decide +kernel
theorem dX6_walk_14 : decode cX6_walk 14 = .ok (.iload_n 2, 1) := by decide +kernel
theorem dX6_walk_15 : decode cX6_walk 15 = .ok (.aload_n 0, 1) := by decide +kernel
theorem dX6_walk_16 : decode cX6_walk 16 = .ok (.getfield 24, 3) := by decide +kernel
theorem dX6_walk_19 : decode cX6_walk 19 = .ok (.getfield 36, 3) := by decide +kernel
theorem dX6_walk_22 : decode cX6_walk 22 = .ok (.if_icmp .ge 57, 3) := by decide +kernel
theorem dX6_walk_25 : decode cX6_walk 25 = .ok (.aload_n 0, 1) := by decide +kernel
theorem dX6_walk_26 : decode cX6_walk 26 = .ok (.getfield 18, 3) := by decide +kernel
theorem dX6_walk_29 : decode cX6_walk 29 = .ok (.iload_n 2, 1) := by decide +kernel
theorem dX6_walk_30 : decode cX6_walk 30 = .ok (.iaload, 1) := by decide +kernel
theorem dX6_walk_31 : decode cX6_walk 31 = .ok (.istore_n 3, 1) := by decide +kernel
theorem dX6_walk_32 : decode cX6_walk 32 = .ok (.aload_n 0, 1) := by decide +kernel
theorem dX6_walk_33 : decode cX6_walk 33 = .ok (.getfield 21, 3) := by decide +kernel
theorem dX6_walk_36 : decode cX6_walk 36 = .ok (.iload_n 2, 1) := by decide +kernel
theorem dX6_walk_37 : decode cX6_walk 37 = .ok (.aload_n 0, 1) := by decide +kernel
theorem dX6_walk_38 : decode cX6_walk 38 = .ok (.iload_n 2, 1) := by decide +kernel
theorem dX6_walk_39 : decode cX6_walk 39 = .ok (.iload_n 3, 1) := by decide +kernel
theorem dX6_walk_40 : decode cX6_walk 40 = .ok (.aload_n 0, 1) := by decide +kernel
theorem dX6_walk_41 : decode cX6_walk 41 = .ok (.getfield 104, 3) := by decide +kernel
theorem dX6_walk_44 : decode cX6_walk 44 = .ok (.invokevirtual 77, 3) := by decide +kernel
theorem dX6_walk_47 : decode cX6_walk 47 = .ok (.iastore, 1) := by decide +kernel
theorem dX6_walk_48 : decode cX6_walk 48 = .ok (.aload_n 0, 1) := by decide +kernel
theorem dX6_walk_49 : decode cX6_walk 49 = .ok (.aload_n 0, 1) := by decide +kernel
theorem dX6_walk_50 : decode cX6_walk 50 = .ok (.getfield 21, 3) := by decide +kernel
theorem dX6_walk_53 : decode cX6_walk 53 = .ok (.iload_n 2, 1) := by decide +kernel
theorem dX6_walk_54 : decode cX6_walk 54 = .ok (.iaload, 1) := by decide +kernel
theorem dX6_walk_55 : decode cX6_walk 55 = .ok (.invokevirtual 81, 3) := by decide +kernel
theorem dX6_walk_58 : decode cX6_walk 58 = .ok (.ifCond .eq 15, 3) := by decide +kernel
theorem dX6_walk_61 : decode cX6_walk 61 = .ok (.aload_n 0, 1) := by decide +kernel
theorem dX6_walk_62 : decode cX6_walk 62 = .ok (.dup, 1) := by decide +kernel
theorem dX6_walk_63 : decode cX6_walk 63 = .ok (.getfield 104, 3) := by decide +kernel
theorem dX6_walk_66 : decode cX6_walk 66 = .ok (.iconst 1, 1) := by decide +kernel
theorem dX6_walk_67 : decode cX6_walk 67 = .ok (.iload_n 3, 1) := by decide +kernel
theorem dX6_walk_68 : decode cX6_walk 68 = .ok (.ishl, 1) := by decide +kernel
theorem dX6_walk_69 : decode cX6_walk 69 = .ok (.ior, 1) := by decide +kernel
theorem dX6_walk_70 : decode cX6_walk 70 = .ok (.putfield 104, 3) := by decide +kernel
theorem dX6_walk_73 : decode cX6_walk 73 = .ok (.iinc 2 1, 3) := by decide +kernel
theorem dX6_walk_76 : decode cX6_walk 76 = .ok (.goto (-62), 3) := by decide +kernel
theorem dX6_walk_79 : decode cX6_walk 79 = .ok (.aload_n 0, 1) := by decide +kernel
theorem dX6_walk_80 : decode cX6_walk 80 = .ok (.getfield 21, 3) := by decide +kernel
theorem dX6_walk_83 : decode cX6_walk 83 = .ok (.aload_n 0, 1) := by decide +kernel
theorem dX6_walk_84 : decode cX6_walk 84 = .ok (.getfield 24, 3) := by decide +kernel
theorem dX6_walk_87 : decode cX6_walk 87 = .ok (.getfield 36, 3) := by decide +kernel
theorem dX6_walk_90 : decode cX6_walk 90 = .ok (.aload_n 0, 1) := by decide +kernel
theorem dX6_walk_91 : decode cX6_walk 91 = .ok (.aload_n 0, 1) := by decide +kernel
theorem dX6_walk_92 : decode cX6_walk 92 = .ok (.getfield 104, 3) := by decide +kernel
theorem dX6_walk_95 : decode cX6_walk 95 = .ok (.invokevirtual 65, 3) := by decide +kernel
theorem dX6_walk_98 : decode cX6_walk 98 = .ok (.iastore, 1) := by decide +kernel
theorem dX6_walk_99 : decode cX6_walk 99 = .ok (.return_, 1) := by decide +kernel
theorem dX6_minuteByte_0 : decode cX6_minuteByte 0 = .ok (.iload_n 1, 1) := by decide +kernel
theorem dX6_minuteByte_1 : decode cX6_minuteByte 1 = .ok (.aload_n 0, 1) := by decide +kernel
theorem dX6_minuteByte_2 : decode cX6_minuteByte 2 = .ok (.getfield 24, 3) := by decide +kernel
theorem dX6_minuteByte_5 : decode cX6_minuteByte 5 = .ok (.getfield 36, 3) := by decide +kernel
theorem dX6_minuteByte_8 : decode cX6_minuteByte 8 = .ok (.if_icmp .ne 7, 3) := by decide +kernel
theorem dX6_minuteByte_11 : decode cX6_minuteByte 11 = .ok (.iconst 1, 1) := by decide +kernel
theorem dX6_minuteByte_12 : decode cX6_minuteByte 12 = .ok (.goto 4, 3) := by decide +kernel
theorem dX6_minuteByte_15 : decode cX6_minuteByte 15 = .ok (.iconst 0, 1) := by decide +kernel
theorem dX6_minuteByte_16 : decode cX6_minuteByte 16 = .ok (.istore_n 3, 1) := by decide +kernel
theorem dX6_minuteByte_17 : decode cX6_minuteByte 17 = .ok (.aload_n 0, 1) := by decide +kernel
theorem dX6_minuteByte_18 : decode cX6_minuteByte 18 = .ok (.getfield 21, 3) := by decide +kernel
theorem dX6_minuteByte_21 : decode cX6_minuteByte 21 = .ok (.iload_n 1, 1) := by decide +kernel
theorem dX6_minuteByte_22 : decode cX6_minuteByte 22 = .ok (.iaload, 1) := by decide +kernel
theorem dX6_minuteByte_23 : decode cX6_minuteByte 23 = .ok (.istore 4, 2) := by decide +kernel
theorem dX6_minuteByte_25 : decode cX6_minuteByte 25 = .ok (.iload_n 2, 1) := by decide +kernel
theorem dX6_minuteByte_26 : decode cX6_minuteByte 26 = .ok (.tableswitch 116 0 5 #[38, 57, 60, 66, 69, 83], 38) := by decide +kernel
theorem dX6_minuteByte_64 : decode cX6_minuteByte 64 = .ok (.iload_n 3, 1) := by decide +kernel
theorem dX6_minuteByte_65 : decode cX6_minuteByte 65 = .ok (.ifCond .eq 8, 3) := by decide +kernel
theorem dX6_minuteByte_68 : decode cX6_minuteByte 68 = .ok (.bipush 112, 2) := by decide +kernel
theorem dX6_minuteByte_70 : decode cX6_minuteByte 70 = .ok (.goto 12, 3) := by decide +kernel
theorem dX6_minuteByte_73 : decode cX6_minuteByte 73 = .ok (.bipush 48, 2) := by decide +kernel
theorem dX6_minuteByte_75 : decode cX6_minuteByte 75 = .ok (.aload_n 0, 1) := by decide +kernel
theorem dX6_minuteByte_76 : decode cX6_minuteByte 76 = .ok (.getfield 18, 3) := by decide +kernel
theorem dX6_minuteByte_79 : decode cX6_minuteByte 79 = .ok (.iload_n 1, 1) := by decide +kernel
theorem dX6_minuteByte_80 : decode cX6_minuteByte 80 = .ok (.iaload, 1) := by decide +kernel
theorem dX6_minuteByte_81 : decode cX6_minuteByte 81 = .ok (.iadd, 1) := by decide +kernel
theorem dX6_minuteByte_82 : decode cX6_minuteByte 82 = .ok (.ireturn, 1) := by decide +kernel
theorem dX6_minuteByte_83 : decode cX6_minuteByte 83 = .ok (.bipush 58, 2) := by decide +kernel
theorem dX6_minuteByte_85 : decode cX6_minuteByte 85 = .ok (.ireturn, 1) := by decide +kernel
theorem dX6_minuteByte_86 : decode cX6_minuteByte 86 = .ok (.bipush 48, 2) := by decide +kernel
theorem dX6_minuteByte_88 : decode cX6_minuteByte 88 = .ok (.iload 4, 2) := by decide +kernel
theorem dX6_minuteByte_90 : decode cX6_minuteByte 90 = .ok (.iadd, 1) := by decide +kernel
theorem dX6_minuteByte_91 : decode cX6_minuteByte 91 = .ok (.ireturn, 1) := by decide +kernel
theorem dX6_minuteByte_92 : decode cX6_minuteByte 92 = .ok (.bipush 45, 2) := by decide +kernel
theorem dX6_minuteByte_94 : decode cX6_minuteByte 94 = .ok (.ireturn, 1) := by decide +kernel
theorem dX6_minuteByte_95 : decode cX6_minuteByte 95 = .ok (.bipush 48, 2) := by decide +kernel
theorem dX6_minuteByte_97 : decode cX6_minuteByte 97 = .ok (.aload_n 0, 1) := by decide +kernel
theorem dX6_minuteByte_98 : decode cX6_minuteByte 98 = .ok (.getfield 24, 3) := by decide +kernel
theorem dX6_minuteByte_101 : decode cX6_minuteByte 101 = .ok (.getfield 84, 3) := by decide +kernel
theorem dX6_minuteByte_104 : decode cX6_minuteByte 104 = .ok (.iadd, 1) := by decide +kernel
theorem dX6_minuteByte_105 : decode cX6_minuteByte 105 = .ok (.iload 4, 2) := by decide +kernel
theorem dX6_minuteByte_107 : decode cX6_minuteByte 107 = .ok (.isub, 1) := by decide +kernel
theorem dX6_minuteByte_108 : decode cX6_minuteByte 108 = .ok (.ireturn, 1) := by decide +kernel
theorem dX6_minuteByte_109 : decode cX6_minuteByte 109 = .ok (.iload_n 3, 1) := by decide +kernel
theorem dX6_minuteByte_110 : decode cX6_minuteByte 110 = .ok (.ifCond .eq 15, 3) := by decide +kernel
theorem dX6_minuteByte_113 : decode cX6_minuteByte 113 = .ok (.aload_n 0, 1) := by decide +kernel
theorem dX6_minuteByte_114 : decode cX6_minuteByte 114 = .ok (.iload 4, 2) := by decide +kernel
theorem dX6_minuteByte_116 : decode cX6_minuteByte 116 = .ok (.invokevirtual 68, 3) := by decide +kernel
theorem dX6_minuteByte_119 : decode cX6_minuteByte 119 = .ok (.ifCond .eq 20, 3) := by decide +kernel
theorem dX6_minuteByte_122 : decode cX6_minuteByte 122 = .ok (.goto 12, 3) := by decide +kernel
theorem dX6_minuteByte_125 : decode cX6_minuteByte 125 = .ok (.aload_n 0, 1) := by decide +kernel
theorem dX6_minuteByte_126 : decode cX6_minuteByte 126 = .ok (.iload 4, 2) := by decide +kernel
theorem dX6_minuteByte_128 : decode cX6_minuteByte 128 = .ok (.invokevirtual 81, 3) := by decide +kernel
theorem dX6_minuteByte_131 : decode cX6_minuteByte 131 = .ok (.ifCond .eq 8, 3) := by decide +kernel
theorem dX6_minuteByte_134 : decode cX6_minuteByte 134 = .ok (.bipush 43, 2) := by decide +kernel
theorem dX6_minuteByte_136 : decode cX6_minuteByte 136 = .ok (.goto 5, 3) := by decide +kernel
theorem dX6_minuteByte_139 : decode cX6_minuteByte 139 = .ok (.bipush 46, 2) := by decide +kernel
theorem dX6_minuteByte_141 : decode cX6_minuteByte 141 = .ok (.ireturn, 1) := by decide +kernel
theorem dX6_minuteByte_142 : decode cX6_minuteByte 142 = .ok (.bipush 59, 2) := by decide +kernel
theorem dX6_minuteByte_144 : decode cX6_minuteByte 144 = .ok (.ireturn, 1) := by decide +kernel
theorem dX7_init_0 : decode cX7_init 0 = .ok (.aload_n 0, 1) := by decide +kernel
theorem dX7_init_1 : decode cX7_init 1 = .ok (.invokespecial 3, 3) := by decide +kernel
theorem dX7_init_4 : decode cX7_init 4 = .ok (.aload_n 0, 1) := by decide +kernel
theorem dX7_init_5 : decode cX7_init 5 = .ok (.sipush 400, 3) := by decide +kernel
theorem dX7_init_8 : decode cX7_init 8 = .ok (.newarray .int, 2) := by decide +kernel
theorem dX7_init_10 : decode cX7_init 10 = .ok (.putfield 9, 3) := by decide +kernel
theorem dX7_init_13 : decode cX7_init 13 = .ok (.aload_n 0, 1) := by decide +kernel
theorem dX7_init_14 : decode cX7_init 14 = .ok (.new 13, 3) := by decide +kernel
theorem dX7_init_17 : decode cX7_init 17 = .ok (.dup, 1) := by decide +kernel
theorem dX7_init_18 : decode cX7_init 18 = .ok (.invokespecial 15, 3) := by decide +kernel
theorem dX7_init_21 : decode cX7_init 21 = .ok (.putfield 16, 3) := by decide +kernel
theorem dX7_init_24 : decode cX7_init 24 = .ok (.aload_n 0, 1) := by decide +kernel
theorem dX7_init_25 : decode cX7_init 25 = .ok (.new 13, 3) := by decide +kernel
theorem dX7_init_28 : decode cX7_init 28 = .ok (.dup, 1) := by decide +kernel
theorem dX7_init_29 : decode cX7_init 29 = .ok (.invokespecial 15, 3) := by decide +kernel
theorem dX7_init_32 : decode cX7_init 32 = .ok (.putfield 20, 3) := by decide +kernel
theorem dX7_init_35 : decode cX7_init 35 = .ok (.aload_n 0, 1) := by decide +kernel
theorem dX7_init_36 : decode cX7_init 36 = .ok (.new 23, 3) := by decide +kernel
theorem dX7_init_39 : decode cX7_init 39 = .ok (.dup, 1) := by decide +kernel
theorem dX7_init_40 : decode cX7_init 40 = .ok (.aload_n 0, 1) := by decide +kernel
theorem dX7_init_41 : decode cX7_init 41 = .ok (.getfield 9, 3) := by decide +kernel
theorem dX7_init_44 : decode cX7_init 44 = .ok (.aload_n 0, 1) := by decide +kernel
theorem dX7_init_45 : decode cX7_init 45 = .ok (.getfield 20, 3) := by decide +kernel
theorem dX7_init_48 : decode cX7_init 48 = .ok (.invokespecial 25, 3) := by decide +kernel
theorem dX7_init_51 : decode cX7_init 51 = .ok (.putfield 28, 3) := by decide +kernel
theorem dX7_init_54 : decode cX7_init 54 = .ok (.aload_n 0, 1) := by decide +kernel
theorem dX7_init_55 : decode cX7_init 55 = .ok (.new 32, 3) := by decide +kernel
theorem dX7_init_58 : decode cX7_init 58 = .ok (.dup, 1) := by decide +kernel
theorem dX7_init_59 : decode cX7_init 59 = .ok (.aload_n 0, 1) := by decide +kernel
theorem dX7_init_60 : decode cX7_init 60 = .ok (.getfield 16, 3) := by decide +kernel
theorem dX7_init_63 : decode cX7_init 63 = .ok (.invokespecial 34, 3) := by decide +kernel
theorem dX7_init_66 : decode cX7_init 66 = .ok (.putfield 37, 3) := by decide +kernel
theorem dX7_init_69 : decode cX7_init 69 = .ok (.aload_n 0, 1) := by decide +kernel
theorem dX7_init_70 : decode cX7_init 70 = .ok (.new 41, 3) := by decide +kernel
theorem dX7_init_73 : decode cX7_init 73 = .ok (.dup, 1) := by decide +kernel
theorem dX7_init_74 : decode cX7_init 74 = .ok (.aload_n 0, 1) := by decide +kernel
theorem dX7_init_75 : decode cX7_init 75 = .ok (.getfield 16, 3) := by decide +kernel
theorem dX7_init_78 : decode cX7_init 78 = .ok (.invokespecial 43, 3) := by decide +kernel
theorem dX7_init_81 : decode cX7_init 81 = .ok (.putfield 44, 3) := by decide +kernel
theorem dX7_init_84 : decode cX7_init 84 = .ok (.aload_n 0, 1) := by decide +kernel
theorem dX7_init_85 : decode cX7_init 85 = .ok (.new 48, 3) := by decide +kernel
theorem dX7_init_88 : decode cX7_init 88 = .ok (.dup, 1) := by decide +kernel
theorem dX7_init_89 : decode cX7_init 89 = .ok (.aload_n 0, 1) := by decide +kernel
theorem dX7_init_90 : decode cX7_init 90 = .ok (.getfield 16, 3) := by decide +kernel
theorem dX7_init_93 : decode cX7_init 93 = .ok (.aload_n 0, 1) := by decide +kernel
theorem dX7_init_94 : decode cX7_init 94 = .ok (.getfield 37, 3) := by decide +kernel
theorem dX7_init_97 : decode cX7_init 97 = .ok (.aload_n 0, 1) := by decide +kernel
theorem dX7_init_98 : decode cX7_init 98 = .ok (.getfield 44, 3) := by decide +kernel
theorem dX7_init_101 : decode cX7_init 101 = .ok (.invokespecial 50, 3) := by decide +kernel
theorem dX7_init_104 : decode cX7_init 104 = .ok (.putfield 53, 3) := by decide +kernel
theorem dX7_init_107 : decode cX7_init 107 = .ok (.aload_n 0, 1) := by decide +kernel
theorem dX7_init_108 : decode cX7_init 108 = .ok (.new 57, 3) := by decide +kernel
theorem dX7_init_111 : decode cX7_init 111 = .ok (.dup, 1) := by decide +kernel
theorem dX7_init_112 : decode cX7_init 112 = .ok (.aload_n 0, 1) := by decide +kernel
theorem dX7_init_113 : decode cX7_init 113 = .ok (.getfield 16, 3) := by decide +kernel
theorem dX7_init_116 : decode cX7_init 116 = .ok (.aload_n 0, 1) := by decide +kernel
theorem dX7_init_117 : decode cX7_init 117 = .ok (.getfield 44, 3) := by decide +kernel
theorem dX7_init_120 : decode cX7_init 120 = .ok (.aload_n 0, 1) := by decide +kernel
theorem dX7_init_121 : decode cX7_init 121 = .ok (.getfield 53, 3) := by decide +kernel
theorem dX7_init_124 : decode cX7_init 124 = .ok (.invokespecial 59, 3) := by decide +kernel
theorem dX7_init_127 : decode cX7_init 127 = .ok (.putfield 62, 3) := by decide +kernel
theorem dX7_init_130 : decode cX7_init 130 = .ok (.aload_n 0, 1) := by decide +kernel
theorem dX7_init_131 : decode cX7_init 131 = .ok (.new 66, 3) := by decide +kernel
theorem dX7_init_134 : decode cX7_init 134 = .ok (.dup, 1) := by decide +kernel
theorem dX7_init_135 : decode cX7_init 135 = .ok (.aload_n 0, 1) := by decide +kernel
theorem dX7_init_136 : decode cX7_init 136 = .ok (.getfield 16, 3) := by decide +kernel
