theorem dX8_order_37 : decode cX8_order 37 = .ok (.aload_n 0, 1) := by decide +kernel
theorem dX8_order_38 : decode cX8_order 38 = .ok (.getfield 70, 3) := by decide +kernel
theorem dX8_order_41 : decode cX8_order 41 = .ok (.iload_n 3, 1) := by decide +kernel
theorem dX8_order_42 : decode cX8_order 42 = .ok (.iaload, 1) := by decide +kernel
theorem dX8_order_43 : decode cX8_order 43 = .ok (.aload_n 0, 1) := by decide +kernel
theorem dX8_order_44 : decode cX8_order 44 = .ok (.getfield 64, 3) := by decide +kernel
theorem dX8_order_47 : decode cX8_order 47 = .ok (.iload_n 3, 1) := by decide +kernel
theorem dX8_order_48 : decode cX8_order 48 = .ok (.iaload, 1) := by decide +kernel
theorem dX8_order_49 : decode cX8_order 49 = .ok (.if_icmp .eq 7, 3) := by decide +kernel
theorem dX8_order_52 : decode cX8_order 52 = .ok (.iconst 1, 1) := by decide +kernel
theorem dX8_order_53 : decode cX8_order 53 = .ok (.goto 4, 3) := by decide +kernel
theorem dX8_order_56 : decode cX8_order 56 = .ok (.iconst 0, 1) := by decide +kernel
theorem dX8_order_57 : decode cX8_order 57 = .ok (.istore_n 2, 1) := by decide +kernel
theorem dX8_order_58 : decode cX8_order 58 = .ok (.iinc 3 1, 3) := by decide +kernel
theorem dX8_order_61 : decode cX8_order 61 = .ok (.goto (-52), 3) := by decide +kernel
theorem dX8_order_64 : decode cX8_order 64 = .ok (.iload_n 1, 1) := by decide +kernel
theorem dX8_order_65 : decode cX8_order 65 = .ok (.ifCond .lt 27, 3) := by decide +kernel
theorem dX8_order_68 : decode cX8_order 68 = .ok (.iload_n 1, 1) := by decide +kernel
theorem dX8_order_69 : decode cX8_order 69 = .ok (.iconst 4, 1) := by decide +kernel
theorem dX8_order_70 : decode cX8_order 70 = .ok (.aload_n 0, 1) := by decide +kernel
theorem dX8_order_71 : decode cX8_order 71 = .ok (.getfield 7, 3) := by decide +kernel
theorem dX8_order_74 : decode cX8_order 74 = .ok (.iconst 1, 1) := by decide +kernel
theorem dX8_order_75 : decode cX8_order 75 = .ok (.iaload, 1) := by decide +kernel
theorem dX8_order_76 : decode cX8_order 76 = .ok (.imul, 1) := by decide +kernel
theorem dX8_order_77 : decode cX8_order 77 = .ok (.ishr, 1) := by decide +kernel
theorem dX8_order_78 : decode cX8_order 78 = .ok (.ifCond .ne 14, 3) := by decide +kernel
theorem dX8_order_81 : decode cX8_order 81 = .ok (.iload_n 2, 1) := by decide +kernel
theorem dX8_order_82 : decode cX8_order 82 = .ok (.ifCond .eq 10, 3) := by decide +kernel
theorem dX8_order_85 : decode cX8_order 85 = .ok (.aload_n 0, 1) := by decide +kernel
theorem dX8_order_86 : decode cX8_order 86 = .ok (.invokevirtual 233, 3) := by decide +kernel
theorem dX8_order_89 : decode cX8_order 89 = .ok (.ifCond .ne 5, 3) := by decide +kernel
theorem dX8_order_92 : decode cX8_order 92 = .ok (.iconst 0, 1) := by decide +kernel
theorem dX8_order_93 : decode cX8_order 93 = .ok (.ireturn, 1) := by decide +kernel
theorem dX8_order_94 : decode cX8_order 94 = .ok (.iconst 0, 1) := by decide +kernel
theorem dX8_order_95 : decode cX8_order 95 = .ok (.istore_n 3, 1) := by decide +kernel
theorem dX8_order_96 : decode cX8_order 96 = .ok (.iload_n 3, 1) := by decide +kernel
theorem dX8_order_97 : decode cX8_order 97 = .ok (.aload_n 0, 1) := by decide +kernel
theorem dX8_order_98 : decode cX8_order 98 = .ok (.getfield 7, 3) := by decide +kernel
theorem dX8_order_101 : decode cX8_order 101 = .ok (.iconst 1, 1) := by decide +kernel
theorem dX8_order_102 : decode cX8_order 102 = .ok (.iaload, 1) := by decide +kernel
theorem dX8_order_103 : decode cX8_order 103 = .ok (.if_icmp .ge 21, 3) := by decide +kernel
theorem dX8_order_106 : decode cX8_order 106 = .ok (.aload_n 0, 1) := by decide +kernel
theorem dX8_order_107 : decode cX8_order 107 = .ok (.getfield 64, 3) := by decide +kernel
theorem dX8_order_110 : decode cX8_order 110 = .ok (.iload_n 3, 1) := by decide +kernel
theorem dX8_order_111 : decode cX8_order 111 = .ok (.aload_n 0, 1) := by decide +kernel
theorem dX8_order_112 : decode cX8_order 112 = .ok (.getfield 70, 3) := by decide +kernel
theorem dX8_order_115 : decode cX8_order 115 = .ok (.iload_n 3, 1) := by decide +kernel
theorem dX8_order_116 : decode cX8_order 116 = .ok (.iaload, 1) := by decide +kernel
theorem dX8_order_117 : decode cX8_order 117 = .ok (.iastore, 1) := by decide +kernel
theorem dX8_order_118 : decode cX8_order 118 = .ok (.iinc 3 1, 3) := by decide +kernel
theorem dX8_order_121 : decode cX8_order 121 = .ok (.goto (-25), 3) := by decide +kernel
theorem dX8_order_124 : decode cX8_order 124 = .ok (.iconst 1, 1) := by decide +kernel
theorem dX8_order_125 : decode cX8_order 125 = .ok (.ireturn, 1) := by decide +kernel
theorem dX8_plusOf_0 : decode cX8_plusOf 0 = .ok (.aload_n 0, 1) := by decide +kernel
theorem dX8_plusOf_1 : decode cX8_plusOf 1 = .ok (.getfield 22, 3) := by decide +kernel
theorem dX8_plusOf_4 : decode cX8_plusOf 4 = .ok (.iload_n 1, 1) := by decide +kernel
theorem dX8_plusOf_5 : decode cX8_plusOf 5 = .ok (.iaload, 1) := by decide +kernel
theorem dX8_plusOf_6 : decode cX8_plusOf 6 = .ok (.istore_n 3, 1) := by decide +kernel
theorem dX8_plusOf_7 : decode cX8_plusOf 7 = .ok (.iconst 0, 1) := by decide +kernel
theorem dX8_plusOf_8 : decode cX8_plusOf 8 = .ok (.istore 4, 2) := by decide +kernel
theorem dX8_plusOf_10 : decode cX8_plusOf 10 = .ok (.iload 4, 2) := by decide +kernel
theorem dX8_plusOf_12 : decode cX8_plusOf 12 = .ok (.aload_n 0, 1) := by decide +kernel
theorem dX8_plusOf_13 : decode cX8_plusOf 13 = .ok (.getfield 7, 3) := by decide +kernel
theorem dX8_plusOf_16 : decode cX8_plusOf 16 = .ok (.iconst 1, 1) := by decide +kernel
theorem dX8_plusOf_17 : decode cX8_plusOf 17 = .ok (.iaload, 1) := by decide +kernel
theorem dX8_plusOf_18 : decode cX8_plusOf 18 = .ok (.if_icmp .ge 60, 3) := by decide +kernel
theorem dX8_plusOf_21 : decode cX8_plusOf 21 = .ok (.aload_n 0, 1) := by decide +kernel
theorem dX8_plusOf_22 : decode cX8_plusOf 22 = .ok (.getfield 16, 3) := by decide +kernel
theorem dX8_plusOf_25 : decode cX8_plusOf 25 = .ok (.iload 4, 2) := by decide +kernel
theorem dX8_plusOf_27 : decode cX8_plusOf 27 = .ok (.iaload, 1) := by decide +kernel
theorem dX8_plusOf_28 : decode cX8_plusOf 28 = .ok (.iconst 3, 1) := by decide +kernel
theorem dX8_plusOf_29 : decode cX8_plusOf 29 = .ok (.if_icmp .ne 43, 3) := by decide +kernel
theorem dX8_plusOf_32 : decode cX8_plusOf 32 = .ok (.aload_n 0, 1) := by decide +kernel
theorem dX8_plusOf_33 : decode cX8_plusOf 33 = .ok (.getfield 19, 3) := by decide +kernel
theorem dX8_plusOf_36 : decode cX8_plusOf 36 = .ok (.iload 4, 2) := by decide +kernel
theorem dX8_plusOf_38 : decode cX8_plusOf 38 = .ok (.iaload, 1) := by decide +kernel
theorem dX8_plusOf_39 : decode cX8_plusOf 39 = .ok (.iload_n 1, 1) := by decide +kernel
theorem dX8_plusOf_40 : decode cX8_plusOf 40 = .ok (.if_icmp .ne 32, 3) := by decide +kernel
theorem dX8_plusOf_43 : decode cX8_plusOf 43 = .ok (.iload_n 2, 1) := by decide +kernel
theorem dX8_plusOf_44 : decode cX8_plusOf 44 = .ok (.iload 4, 2) := by decide +kernel
theorem dX8_plusOf_46 : decode cX8_plusOf 46 = .ok (.invokestatic 133, 3) := by decide +kernel
theorem dX8_plusOf_49 : decode cX8_plusOf 49 = .ok (.ifCond .eq 23, 3) := by decide +kernel
theorem dX8_plusOf_52 : decode cX8_plusOf 52 = .ok (.iload_n 3, 1) := by decide +kernel
theorem dX8_plusOf_53 : decode cX8_plusOf 53 = .ok (.aload_n 0, 1) := by decide +kernel
theorem dX8_plusOf_54 : decode cX8_plusOf 54 = .ok (.getfield 25, 3) := by decide +kernel
theorem dX8_plusOf_57 : decode cX8_plusOf 57 = .ok (.iload 4, 2) := by decide +kernel
theorem dX8_plusOf_59 : decode cX8_plusOf 59 = .ok (.iaload, 1) := by decide +kernel
theorem dX8_plusOf_60 : decode cX8_plusOf 60 = .ok (.iconst (-1), 1) := by decide +kernel
theorem dX8_plusOf_61 : decode cX8_plusOf 61 = .ok (.ixor, 1) := by decide +kernel
theorem dX8_plusOf_62 : decode cX8_plusOf 62 = .ok (.iand, 1) := by decide +kernel
theorem dX8_plusOf_63 : decode cX8_plusOf 63 = .ok (.aload_n 0, 1) := by decide +kernel
theorem dX8_plusOf_64 : decode cX8_plusOf 64 = .ok (.getfield 22, 3) := by decide +kernel
theorem dX8_plusOf_67 : decode cX8_plusOf 67 = .ok (.iload 4, 2) := by decide +kernel
theorem dX8_plusOf_69 : decode cX8_plusOf 69 = .ok (.iaload, 1) := by decide +kernel
theorem dX8_plusOf_70 : decode cX8_plusOf 70 = .ok (.ior, 1) := by decide +kernel
theorem dX8_plusOf_71 : decode cX8_plusOf 71 = .ok (.istore_n 3, 1) := by decide +kernel
theorem dX8_plusOf_72 : decode cX8_plusOf 72 = .ok (.iinc 4 1, 3) := by decide +kernel
theorem dX8_plusOf_75 : decode cX8_plusOf 75 = .ok (.goto (-65), 3) := by decide +kernel
theorem dX8_plusOf_78 : decode cX8_plusOf 78 = .ok (.iload_n 3, 1) := by decide +kernel
theorem dX8_plusOf_79 : decode cX8_plusOf 79 = .ok (.ireturn, 1) := by decide +kernel
theorem dX8_formOf_0 : decode cX8_formOf 0 = .ok (.aload_n 0, 1) := by decide +kernel
theorem dX8_formOf_1 : decode cX8_formOf 1 = .ok (.getfield 7, 3) := by decide +kernel
theorem dX8_formOf_4 : decode cX8_formOf 4 = .ok (.iconst 2, 1) := by decide +kernel
theorem dX8_formOf_5 : decode cX8_formOf 5 = .ok (.iaload, 1) := by decide +kernel
theorem dX8_formOf_6 : decode cX8_formOf 6 = .ok (.iconst (-1), 1) := by decide +kernel
theorem dX8_formOf_7 : decode cX8_formOf 7 = .ok (.if_icmp .eq 20, 3) := by decide +kernel
theorem dX8_formOf_10 : decode cX8_formOf 10 = .ok (.iload_n 1, 1) := by decide +kernel
theorem dX8_formOf_11 : decode cX8_formOf 11 = .ok (.aload_n 0, 1) := by decide +kernel
theorem dX8_formOf_12 : decode cX8_formOf 12 = .ok (.getfield 7, 3) := by decide +kernel
theorem dX8_formOf_15 : decode cX8_formOf 15 = .ok (.iconst 2, 1) := by decide +kernel
theorem dX8_formOf_16 : decode cX8_formOf 16 = .ok (.iaload, 1) := by decide +kernel
theorem dX8_formOf_17 : decode cX8_formOf 17 = .ok (.invokestatic 133, 3) := by decide +kernel
theorem dX8_formOf_20 : decode cX8_formOf 20 = .ok (.ifCond .eq 7, 3) := by decide +kernel
theorem dX8_formOf_23 : decode cX8_formOf 23 = .ok (.iconst 1, 1) := by decide +kernel
theorem dX8_formOf_24 : decode cX8_formOf 24 = .ok (.goto 4, 3) := by decide +kernel
theorem dX8_formOf_27 : decode cX8_formOf 27 = .ok (.iconst 0, 1) := by decide +kernel
theorem dX8_formOf_28 : decode cX8_formOf 28 = .ok (.istore_n 2, 1) := by decide +kernel
theorem dX8_formOf_29 : decode cX8_formOf 29 = .ok (.iload_n 2, 1) := by decide +kernel
theorem dX8_formOf_30 : decode cX8_formOf 30 = .ok (.ifCond .eq 17, 3) := by decide +kernel
theorem dX8_formOf_33 : decode cX8_formOf 33 = .ok (.aload_n 0, 1) := by decide +kernel
theorem dX8_formOf_34 : decode cX8_formOf 34 = .ok (.getfield 22, 3) := by decide +kernel
theorem dX8_formOf_37 : decode cX8_formOf 37 = .ok (.aload_n 0, 1) := by decide +kernel
theorem dX8_formOf_38 : decode cX8_formOf 38 = .ok (.getfield 7, 3) := by decide +kernel
theorem dX8_formOf_41 : decode cX8_formOf 41 = .ok (.iconst 2, 1) := by decide +kernel
theorem dX8_formOf_42 : decode cX8_formOf 42 = .ok (.iaload, 1) := by decide +kernel
theorem dX8_formOf_43 : decode cX8_formOf 43 = .ok (.iaload, 1) := by decide +kernel
theorem dX8_formOf_44 : decode cX8_formOf 44 = .ok (.goto 9, 3) := by decide +kernel
theorem dX8_formOf_47 : decode cX8_formOf 47 = .ok (.aload_n 0, 1) := by decide +kernel
theorem dX8_formOf_48 : decode cX8_formOf 48 = .ok (.getfield 7, 3) := by decide +kernel
theorem dX8_formOf_51 : decode cX8_formOf 51 = .ok (.iconst 0, 1) := by decide +kernel
theorem dX8_formOf_52 : decode cX8_formOf 52 = .ok (.iaload, 1) := by decide +kernel
theorem dX8_formOf_53 : decode cX8_formOf 53 = .ok (.istore_n 3, 1) := by decide +kernel
theorem dX8_formOf_54 : decode cX8_formOf 54 = .ok (.iconst 0, 1) := by decide +kernel
theorem dX8_formOf_55 : decode cX8_formOf 55 = .ok (.istore 4, 2) := by decide +kernel
theorem dX8_formOf_57 : decode cX8_formOf 57 = .ok (.iload 4, 2) := by decide +kernel
theorem dX8_formOf_59 : decode cX8_formOf 59 = .ok (.aload_n 0, 1) := by decide +kernel
theorem dX8_formOf_60 : decode cX8_formOf 60 = .ok (.getfield 7, 3) := by decide +kernel
theorem dX8_formOf_63 : decode cX8_formOf 63 = .ok (.iconst 1, 1) := by decide +kernel
theorem dX8_formOf_64 : decode cX8_formOf 64 = .ok (.iaload, 1) := by decide +kernel
theorem dX8_formOf_65 : decode cX8_formOf 65 = .ok (.if_icmp .ge 57, 3) := by decide +kernel
theorem dX8_formOf_68 : decode cX8_formOf 68 = .ok (.iload_n 1, 1) := by decide +kernel
theorem dX8_formOf_69 : decode cX8_formOf 69 = .ok (.iload 4, 2) := by decide +kernel
theorem dX8_formOf_71 : decode cX8_formOf 71 = .ok (.invokestatic 133, 3) := by decide +kernel
theorem dX8_formOf_74 : decode cX8_formOf 74 = .ok (.ifCond .eq 42, 3) := by decide +kernel
theorem dX8_formOf_77 : decode cX8_formOf 77 = .ok (.aload_n 0, 1) := by decide +kernel
theorem dX8_formOf_78 : decode cX8_formOf 78 = .ok (.getfield 16, 3) := by decide +kernel
theorem dX8_formOf_81 : decode cX8_formOf 81 = .ok (.iload 4, 2) := by decide +kernel
theorem dX8_formOf_83 : decode cX8_formOf 83 = .ok (.iaload, 1) := by decide +kernel
theorem dX8_formOf_84 : decode cX8_formOf 84 = .ok (.iload_n 2, 1) := by decide +kernel
theorem dX8_formOf_85 : decode cX8_formOf 85 = .ok (.ifCond .eq 7, 3) := by decide +kernel
theorem dX8_formOf_88 : decode cX8_formOf 88 = .ok (.iconst 2, 1) := by decide +kernel
theorem dX8_formOf_89 : decode cX8_formOf 89 = .ok (.goto 4, 3) := by decide +kernel
theorem dX8_formOf_92 : decode cX8_formOf 92 = .ok (.iconst 0, 1) := by decide +kernel
theorem dX8_formOf_93 : decode cX8_formOf 93 = .ok (.if_icmp .ne 23, 3) := by decide +kernel
theorem dX8_formOf_96 : decode cX8_formOf 96 = .ok (.iload_n 3, 1) := by decide +kernel
theorem dX8_formOf_97 : decode cX8_formOf 97 = .ok (.aload_n 0, 1) := by decide +kernel
theorem dX8_formOf_98 : decode cX8_formOf 98 = .ok (.getfield 25, 3) := by decide +kernel
theorem dX8_formOf_101 : decode cX8_formOf 101 = .ok (.iload 4, 2) := by decide +kernel
theorem dX8_formOf_103 : decode cX8_formOf 103 = .ok (.iaload, 1) := by decide +kernel
theorem dX8_formOf_104 : decode cX8_formOf 104 = .ok (.iconst (-1), 1) := by decide +kernel
theorem dX8_formOf_105 : decode cX8_formOf 105 = .ok (.ixor, 1) := by decide +kernel
theorem dX8_formOf_106 : decode cX8_formOf 106 = .ok (.iand, 1) := by decide +kernel
theorem dX8_formOf_107 : decode cX8_formOf 107 = .ok (.aload_n 0, 1) := by decide +kernel
theorem dX8_formOf_108 : decode cX8_formOf 108 = .ok (.iload 4, 2) := by decide +kernel
theorem dX8_formOf_110 : decode cX8_formOf 110 = .ok (.iload_n 1, 1) := by decide +kernel
theorem dX8_formOf_111 : decode cX8_formOf 111 = .ok (.invokevirtual 239, 3) := by decide +kernel
theorem dX8_formOf_114 : decode cX8_formOf 114 = .ok (.ior, 1) := by decide +kernel
theorem dX8_formOf_115 : decode cX8_formOf 115 = .ok (.istore_n 3, 1) := by decide +kernel
theorem dX8_formOf_116 : decode cX8_formOf 116 = .ok (.iinc 4 1, 3) := by decide +kernel
theorem dX8_formOf_119 : decode cX8_formOf 119 = .ok (.goto (-62), 3) := by decide +kernel
theorem dX8_formOf_122 : decode cX8_formOf 122 = .ok (.iload_n 3, 1) := by decide +kernel
theorem dX8_formOf_123 : decode cX8_formOf 123 = .ok (.ireturn, 1) := by decide +kernel
theorem dX8_form_0 : decode cX8_form 0 = .ok (.aload_n 0, 1) := by decide +kernel
theorem dX8_form_1 : decode cX8_form 1 = .ok (.iconst 0, 1) := by decide +kernel
theorem dX8_form_2 : decode cX8_form 2 = .ok (.putfield 95, 3) := by decide +kernel
theorem dX8_form_5 : decode cX8_form 5 = .ok (.iload_n 1, 1) := by decide +kernel
theorem dX8_form_6 : decode cX8_form 6 = .ok (.iconst 0, 1) := by decide +kernel
theorem dX8_form_7 : decode cX8_form 7 = .ok (.iconst 1, 1) := by decide +kernel
theorem dX8_form_8 : decode cX8_form 8 = .ok (.aload_n 0, 1) := by decide +kernel
theorem dX8_form_9 : decode cX8_form 9 = .ok (.getfield 7, 3) := by decide +kernel
theorem dX8_form_12 : decode cX8_form 12 = .ok (.iconst 1, 1) := by decide +kernel
theorem dX8_form_13 : decode cX8_form 13 = .ok (.iaload, 1) := by decide +kernel
theorem dX8_form_14 : decode cX8_form 14 = .ok (.ishl, 1) := by decide +kernel
theorem dX8_form_15 : decode cX8_form 15 = .ok (.iconst 1, 1) := by decide +kernel
theorem dX8_form_16 : decode cX8_form 16 = .ok (.isub, 1) := by decide +kernel
theorem dX8_form_17 : decode cX8_form 17 = .ok (.invokestatic 106, 3) := by decide +kernel
theorem dX8_form_20 : decode cX8_form 20 = .ok (.ifCond .eq 11, 3) := by decide +kernel
theorem dX8_form_23 : decode cX8_form 23 = .ok (.aload_n 0, 1) := by decide +kernel
theorem dX8_form_24 : decode cX8_form 24 = .ok (.iload_n 1, 1) := by decide +kernel
theorem dX8_form_25 : decode cX8_form 25 = .ok (.invokevirtual 243, 3) := by decide +kernel
theorem dX8_form_28 : decode cX8_form 28 = .ok (.goto 4, 3) := by decide +kernel
theorem dX8_form_31 : decode cX8_form 31 = .ok (.iconst (-1), 1) := by decide +kernel
theorem dX8_form_32 : decode cX8_form 32 = .ok (.ireturn, 1) := by decide +kernel
theorem dX8_likesOf_0 : decode cX8_likesOf 0 = .ok (.iconst 0, 1) := by decide +kernel
theorem dX8_likesOf_1 : decode cX8_likesOf 1 = .ok (.istore_n 3, 1) := by decide +kernel
theorem dX8_likesOf_2 : decode cX8_likesOf 2 = .ok (.iconst 0, 1) := by decide +kernel
theorem dX8_likesOf_3 : decode cX8_likesOf 3 = .ok (.istore 4, 2) := by decide +kernel
theorem dX8_likesOf_5 : decode cX8_likesOf 5 = .ok (.iload 4, 2) := by decide +kernel
theorem dX8_likesOf_7 : decode cX8_likesOf 7 = .ok (.bipush 8, 2) := by decide +kernel
theorem dX8_likesOf_9 : decode cX8_likesOf 9 = .ok (.if_icmp .ge 37, 3) := by decide +kernel
theorem dX8_likesOf_12 : decode cX8_likesOf 12 = .ok (.iload_n 3, 1) := by decide +kernel
theorem dX8_likesOf_13 : decode cX8_likesOf 13 = .ok (.iload_n 2, 1) := by decide +kernel
theorem dX8_likesOf_14 : decode cX8_likesOf 14 = .ok (.iload 4, 2) := by decide +kernel
theorem dX8_likesOf_16 : decode cX8_likesOf 16 = .ok (.invokestatic 133, 3) := by decide +kernel
theorem dX8_likesOf_19 : decode cX8_likesOf 19 = .ok (.ifCond .eq 18, 3) := by decide +kernel
theorem dX8_likesOf_22 : decode cX8_likesOf 22 = .ok (.aload_n 0, 1) := by decide +kernel
theorem dX8_likesOf_23 : decode cX8_likesOf 23 = .ok (.getfield 40, 3) := by decide +kernel
theorem dX8_likesOf_26 : decode cX8_likesOf 26 = .ok (.bipush 8, 2) := by decide +kernel
theorem dX8_likesOf_28 : decode cX8_likesOf 28 = .ok (.iload_n 1, 1) := by decide +kernel
theorem dX8_likesOf_29 : decode cX8_likesOf 29 = .ok (.imul, 1) := by decide +kernel
theorem dX8_likesOf_30 : decode cX8_likesOf 30 = .ok (.iload 4, 2) := by decide +kernel
theorem dX8_likesOf_32 : decode cX8_likesOf 32 = .ok (.iadd, 1) := by decide +kernel
theorem dX8_likesOf_33 : decode cX8_likesOf 33 = .ok (.iaload, 1) := by decide +kernel
theorem dX8_likesOf_34 : decode cX8_likesOf 34 = .ok (.goto 4, 3) := by decide +kernel
theorem dX8_likesOf_37 : decode cX8_likesOf 37 = .ok (.iconst 0, 1) := by decide +kernel
theorem dX8_likesOf_38 : decode cX8_likesOf 38 = .ok (.iadd, 1) := by decide +kernel
theorem dX8_likesOf_39 : decode cX8_likesOf 39 = .ok (.istore_n 3, 1) := by decide +kernel
theorem dX8_likesOf_40 : decode cX8_likesOf 40 = .ok (.iinc 4 1, 3) := by decide +kernel
theorem dX8_likesOf_43 : decode cX8_likesOf 43 = .ok (.goto (-38), 3) := by decide +kernel
theorem dX8_likesOf_46 : decode cX8_likesOf 46 = .ok (.iconst 0, 1) := by decide +kernel
theorem dX8_likesOf_47 : decode cX8_likesOf 47 = .ok (.istore 4, 2) := by decide +kernel
theorem dX8_likesOf_49 : decode cX8_likesOf 49 = .ok (.iload 4, 2) := by decide +kernel
theorem dX8_likesOf_51 : decode cX8_likesOf 51 = .ok (.aload_n 0, 1) := by decide +kernel
theorem dX8_likesOf_52 : decode cX8_likesOf 52 = .ok (.getfield 7, 3) := by decide +kernel
theorem dX8_likesOf_55 : decode cX8_likesOf 55 = .ok (.iconst 4, 1) := by decide +kernel
theorem dX8_likesOf_56 : decode cX8_likesOf 56 = .ok (.iaload, 1) := by decide +kernel
theorem dX8_likesOf_57 : decode cX8_likesOf 57 = .ok (.if_icmp .ge 53, 3) := by decide +kernel
theorem dX8_likesOf_60 : decode cX8_likesOf 60 = .ok (.iload_n 3, 1) := by decide +kernel
theorem dX8_likesOf_61 : decode cX8_likesOf 61 = .ok (.aload_n 0, 1) := by decide +kernel
theorem dX8_likesOf_62 : decode cX8_likesOf 62 = .ok (.getfield 46, 3) := by decide +kernel
theorem dX8_likesOf_65 : decode cX8_likesOf 65 = .ok (.iload 4, 2) := by decide +kernel
theorem dX8_likesOf_67 : decode cX8_likesOf 67 = .ok (.iaload, 1) := by decide +kernel
theorem dX8_likesOf_68 : decode cX8_likesOf 68 = .ok (.iload_n 1, 1) := by decide +kernel
theorem dX8_likesOf_69 : decode cX8_likesOf 69 = .ok (.if_icmp .ne 32, 3) := by decide +kernel
theorem dX8_likesOf_72 : decode cX8_likesOf 72 = .ok (.aload_n 0, 1) := by decide +kernel
theorem dX8_likesOf_73 : decode cX8_likesOf 73 = .ok (.getfield 49, 3) := by decide +kernel
theorem dX8_likesOf_76 : decode cX8_likesOf 76 = .ok (.iload 4, 2) := by decide +kernel
theorem dX8_likesOf_78 : decode cX8_likesOf 78 = .ok (.iaload, 1) := by decide +kernel
theorem dX8_likesOf_79 : decode cX8_likesOf 79 = .ok (.iload_n 2, 1) := by decide +kernel
theorem dX8_likesOf_80 : decode cX8_likesOf 80 = .ok (.iand, 1) := by decide +kernel
theorem dX8_likesOf_81 : decode cX8_likesOf 81 = .ok (.aload_n 0, 1) := by decide +kernel
theorem dX8_likesOf_82 : decode cX8_likesOf 82 = .ok (.getfield 49, 3) := by decide +kernel
theorem dX8_likesOf_85 : decode cX8_likesOf 85 = .ok (.iload 4, 2) := by decide +kernel
theorem dX8_likesOf_87 : decode cX8_likesOf 87 = .ok (.iaload, 1) := by decide +kernel
theorem dX8_likesOf_88 : decode cX8_likesOf 88 = .ok (.if_icmp .ne 13, 3) := by decide +kernel
theorem dX8_likesOf_91 : decode cX8_likesOf 91 = .ok (.aload_n 0, 1) := by decide +kernel
theorem dX8_likesOf_92 : decode cX8_likesOf 92 = .ok (.getfield 52, 3) := by decide +kernel
theorem dX8_likesOf_95 : decode cX8_likesOf 95 = .ok (.iload 4, 2) := by decide +kernel
theorem dX8_likesOf_97 : decode cX8_likesOf 97 = .ok (.iaload, 1) := by decide +kernel
theorem dX8_likesOf_98 : decode cX8_likesOf 98 = .ok (.goto 4, 3) := by decide +kernel
theorem dX8_likesOf_101 : decode cX8_likesOf 101 = .ok (.iconst 0, 1) := by decide +kernel
theorem dX8_likesOf_102 : decode cX8_likesOf 102 = .ok (.iadd, 1) := by decide +kernel
theorem dX8_likesOf_103 : decode cX8_likesOf 103 = .ok (.istore_n 3, 1) := by decide +kernel
theorem dX8_likesOf_104 : decode cX8_likesOf 104 = .ok (.iinc 4 1, 3) := by decide +kernel
theorem dX8_likesOf_107 : decode cX8_likesOf 107 = .ok (.goto (-58), 3) := by decide +kernel
theorem dX8_likesOf_110 : decode cX8_likesOf 110 = .ok (.iload_n 3, 1) := by decide +kernel
theorem dX8_likesOf_111 : decode cX8_likesOf 111 = .ok (.ireturn, 1) := by decide +kernel
theorem dX8_laysLikes_0 : decode cX8_laysLikes 0 = .ok (.iconst 0, 1) := by decide +kernel
theorem dX8_laysLikes_1 : decode cX8_laysLikes 1 = .ok (.istore_n 1, 1) := by decide +kernel
theorem dX8_laysLikes_2 : decode cX8_laysLikes 2 = .ok (.iload_n 1, 1) := by decide +kernel
theorem dX8_laysLikes_3 : decode cX8_laysLikes 3 = .ok (.aload_n 0, 1) := by decide +kernel
theorem dX8_laysLikes_4 : decode cX8_laysLikes 4 = .ok (.getfield 7, 3) := by decide +kernel
theorem dX8_laysLikes_7 : decode cX8_laysLikes 7 = .ok (.iconst 3, 1) := by decide +kernel
theorem dX8_laysLikes_8 : decode cX8_laysLikes 8 = .ok (.iaload, 1) := by decide +kernel
theorem dX8_laysLikes_9 : decode cX8_laysLikes 9 = .ok (.if_icmp .ge 42, 3) := by decide +kernel
theorem dX8_laysLikes_12 : decode cX8_laysLikes 12 = .ok (.iconst 0, 1) := by decide +kernel
theorem dX8_laysLikes_13 : decode cX8_laysLikes 13 = .ok (.istore_n 2, 1) := by decide +kernel
theorem dX8_laysLikes_14 : decode cX8_laysLikes 14 = .ok (.iload_n 2, 1) := by decide +kernel
theorem dX8_laysLikes_15 : decode cX8_laysLikes 15 = .ok (.sipush 256, 3) := by decide +kernel
theorem dX8_laysLikes_18 : decode cX8_laysLikes 18 = .ok (.if_icmp .ge 27, 3) := by decide +kernel
theorem dX8_laysLikes_21 : decode cX8_laysLikes 21 = .ok (.aload_n 0, 1) := by decide +kernel
theorem dX8_laysLikes_22 : decode cX8_laysLikes 22 = .ok (.getfield 73, 3) := by decide +kernel
theorem dX8_laysLikes_25 : decode cX8_laysLikes 25 = .ok (.sipush 256, 3) := by decide +kernel
theorem dX8_laysLikes_28 : decode cX8_laysLikes 28 = .ok (.iload_n 1, 1) := by decide +kernel
theorem dX8_laysLikes_29 : decode cX8_laysLikes 29 = .ok (.imul, 1) := by decide +kernel
theorem dX8_laysLikes_30 : decode cX8_laysLikes 30 = .ok (.iload_n 2, 1) := by decide +kernel
theorem dX8_laysLikes_31 : decode cX8_laysLikes 31 = .ok (.iadd, 1) := by decide +kernel
theorem dX8_laysLikes_32 : decode cX8_laysLikes 32 = .ok (.aload_n 0, 1) := by decide +kernel
theorem dX8_laysLikes_33 : decode cX8_laysLikes 33 = .ok (.iload_n 1, 1) := by decide +kernel
theorem dX8_laysLikes_34 : decode cX8_laysLikes 34 = .ok (.iload_n 2, 1) := by decide +kernel
theorem dX8_laysLikes_35 : decode cX8_laysLikes 35 = .ok (.invokevirtual 247, 3) := by decide +kernel
theorem dX8_laysLikes_38 : decode cX8_laysLikes 38 = .ok (.iastore, 1) := by decide +kernel
theorem dX8_laysLikes_39 : decode cX8_laysLikes 39 = .ok (.iinc 2 1, 3) := by decide +kernel
theorem dX8_laysLikes_42 : decode cX8_laysLikes 42 = .ok (.goto (-28), 3) := by decide +kernel
theorem dX8_laysLikes_45 : decode cX8_laysLikes 45 = .ok (.iinc 1 1, 3) := by decide +kernel
theorem dX8_laysLikes_48 : decode cX8_laysLikes 48 = .ok (.goto (-46), 3) := by decide +kernel
theorem dX8_laysLikes_51 : decode cX8_laysLikes 51 = .ok (.return_, 1) := by decide +kernel
theorem dX8_isPreferred_0 : decode cX8_isPreferred 0 = .ok (.aload_n 0, 1) := by decide +kernel
theorem dX8_isPreferred_1 : decode cX8_isPreferred 1 = .ok (.getfield 73, 3) := by decide +kernel
theorem dX8_isPreferred_4 : decode cX8_isPreferred 4 = .ok (.sipush 256, 3) := by decide +kernel
theorem dX8_isPreferred_7 : decode cX8_isPreferred 7 = .ok (.iload_n 1, 1) := by decide +kernel
theorem dX8_isPreferred_8 : decode cX8_isPreferred 8 = .ok (.imul, 1) := by decide +kernel
theorem dX8_isPreferred_9 : decode cX8_isPreferred 9 = .ok (.iload_n 2, 1) := by decide +kernel
theorem dX8_isPreferred_10 : decode cX8_isPreferred 10 = .ok (.iadd, 1) := by decide +kernel
theorem dX8_isPreferred_11 : decode cX8_isPreferred 11 = .ok (.iaload, 1) := by decide +kernel
theorem dX8_isPreferred_12 : decode cX8_isPreferred 12 = .ok (.aload_n 0, 1) := by decide +kernel
theorem dX8_isPreferred_13 : decode cX8_isPreferred 13 = .ok (.getfield 73, 3) := by decide +kernel
theorem dX8_isPreferred_16 : decode cX8_isPreferred 16 = .ok (.sipush 256, 3) := by decide +kernel
theorem dX8_isPreferred_19 : decode cX8_isPreferred 19 = .ok (.iload_n 1, 1) := by decide +kernel
theorem dX8_isPreferred_20 : decode cX8_isPreferred 20 = .ok (.imul, 1) := by decide +kernel
theorem dX8_isPreferred_21 : decode cX8_isPreferred 21 = .ok (.iload_n 3, 1) := by decide +kernel
theorem dX8_isPreferred_22 : decode cX8_isPreferred 22 = .ok (.iadd, 1) := by decide +kernel
theorem dX8_isPreferred_23 : decode cX8_isPreferred 23 = .ok (.iaload, 1) := by decide +kernel
theorem dX8_isPreferred_24 : decode cX8_isPreferred 24 = .ok (.if_icmp .le 7, 3) := by decide +kernel
theorem dX8_isPreferred_27 : decode cX8_isPreferred 27 = .ok (.iconst 1, 1) := by decide +kernel
theorem dX8_isPreferred_28 : decode cX8_isPreferred 28 = .ok (.goto 4, 3) := by decide +kernel
theorem dX8_isPreferred_31 : decode cX8_isPreferred 31 = .ok (.iconst 0, 1) := by decide +kernel
theorem dX8_isPreferred_32 : decode cX8_isPreferred 32 = .ok (.ireturn, 1) := by decide +kernel
theorem dX8_preferring_0 : decode cX8_preferring 0 = .ok (.iconst 0, 1) := by decide +kernel
theorem dX8_preferring_1 : decode cX8_preferring 1 = .ok (.istore_n 3, 1) := by decide +kernel
theorem dX8_preferring_2 : decode cX8_preferring 2 = .ok (.iconst 0, 1) := by decide +kernel
theorem dX8_preferring_3 : decode cX8_preferring 3 = .ok (.istore 4, 2) := by decide +kernel
theorem dX8_preferring_5 : decode cX8_preferring 5 = .ok (.iload 4, 2) := by decide +kernel
theorem dX8_preferring_7 : decode cX8_preferring 7 = .ok (.aload_n 0, 1) := by decide +kernel
theorem dX8_preferring_8 : decode cX8_preferring 8 = .ok (.getfield 7, 3) := by decide +kernel
theorem dX8_preferring_11 : decode cX8_preferring 11 = .ok (.iconst 3, 1) := by decide +kernel
theorem dX8_preferring_12 : decode cX8_preferring 12 = .ok (.iaload, 1) := by decide +kernel
theorem dX8_preferring_13 : decode cX8_preferring 13 = .ok (.if_icmp .ge 28, 3) := by decide +kernel
theorem dX8_preferring_16 : decode cX8_preferring 16 = .ok (.iload_n 3, 1) := by decide +kernel
theorem dX8_preferring_17 : decode cX8_preferring 17 = .ok (.aload_n 0, 1) := by decide +kernel
theorem dX8_preferring_18 : decode cX8_preferring 18 = .ok (.iload 4, 2) := by decide +kernel
theorem dX8_preferring_20 : decode cX8_preferring 20 = .ok (.iload_n 1, 1) := by decide +kernel
theorem dX8_preferring_21 : decode cX8_preferring 21 = .ok (.iload_n 2, 1) := by decide +kernel
theorem dX8_preferring_22 : decode cX8_preferring 22 = .ok (.invokevirtual 250, 3) := by decide +kernel
theorem dX8_preferring_25 : decode cX8_preferring 25 = .ok (.ifCond .eq 7, 3) := by decide +kernel
theorem dX8_preferring_28 : decode cX8_preferring 28 = .ok (.iconst 1, 1) := by decide +kernel
theorem dX8_preferring_29 : decode cX8_preferring 29 = .ok (.goto 4, 3) := by decide +kernel
theorem dX8_preferring_32 : decode cX8_preferring 32 = .ok (.iconst 0, 1) := by decide +kernel
theorem dX8_preferring_33 : decode cX8_preferring 33 = .ok (.iadd, 1) := by decide +kernel
theorem dX8_preferring_34 : decode cX8_preferring 34 = .ok (.istore_n 3, 1) := by decide +kernel
theorem dX8_preferring_35 : decode cX8_preferring 35 = .ok (.iinc 4 1, 3) := by decide +kernel
theorem dX8_preferring_38 : decode cX8_preferring 38 = .ok (.goto (-33), 3) := by decide +kernel
theorem dX8_preferring_41 : decode cX8_preferring 41 = .ok (.iload_n 3, 1) := by decide +kernel
theorem dX8_preferring_42 : decode cX8_preferring 42 = .ok (.ireturn, 1) := by decide +kernel
theorem dX8_quota_0 : decode cX8_quota 0 = .ok (.aload_n 0, 1) := by decide +kernel
theorem dX8_quota_1 : decode cX8_quota 1 = .ok (.getfield 7, 3) := by decide +kernel
theorem dX8_quota_4 : decode cX8_quota 4 = .ok (.iconst 5, 1) := by decide +kernel
theorem dX8_quota_5 : decode cX8_quota 5 = .ok (.iaload, 1) := by decide +kernel
theorem dX8_quota_6 : decode cX8_quota 6 = .ok (.ifCond .le 12, 3) := by decide +kernel
theorem dX8_quota_9 : decode cX8_quota 9 = .ok (.aload_n 0, 1) := by decide +kernel
theorem dX8_quota_10 : decode cX8_quota 10 = .ok (.getfield 7, 3) := by decide +kernel
theorem dX8_quota_13 : decode cX8_quota 13 = .ok (.iconst 5, 1) := by decide +kernel
theorem dX8_quota_14 : decode cX8_quota 14 = .ok (.iaload, 1) := by decide +kernel
theorem dX8_quota_15 : decode cX8_quota 15 = .ok (.goto 13, 3) := by decide +kernel
theorem dX8_quota_18 : decode cX8_quota 18 = .ok (.aload_n 0, 1) := by decide +kernel
theorem dX8_quota_19 : decode cX8_quota 19 = .ok (.getfield 7, 3) := by decide +kernel
theorem dX8_quota_22 : decode cX8_quota 22 = .ok (.iconst 3, 1) := by decide +kernel
theorem dX8_quota_23 : decode cX8_quota 23 = .ok (.iaload, 1) := by decide +kernel
theorem dX8_quota_24 : decode cX8_quota 24 = .ok (.iconst 2, 1) := by decide +kernel
theorem dX8_quota_25 : decode cX8_quota 25 = .ok (.idiv, 1) := by decide +kernel
theorem dX8_quota_26 : decode cX8_quota 26 = .ok (.iconst 1, 1) := by decide +kernel
theorem dX8_quota_27 : decode cX8_quota 27 = .ok (.iadd, 1) := by decide +kernel
theorem dX8_quota_28 : decode cX8_quota 28 = .ok (.ireturn, 1) := by decide +kernel
theorem dX8_motionsOf_0 : decode cX8_motionsOf 0 = .ok (.iconst 0, 1) := by decide +kernel
theorem dX8_motionsOf_1 : decode cX8_motionsOf 1 = .ok (.istore_n 2, 1) := by decide +kernel
theorem dX8_motionsOf_2 : decode cX8_motionsOf 2 = .ok (.iconst 0, 1) := by decide +kernel
theorem dX8_motionsOf_3 : decode cX8_motionsOf 3 = .ok (.istore_n 3, 1) := by decide +kernel
theorem dX8_motionsOf_4 : decode cX8_motionsOf 4 = .ok (.iload_n 3, 1) := by decide +kernel
theorem dX8_motionsOf_5 : decode cX8_motionsOf 5 = .ok (.aload_n 0, 1) := by decide +kernel
theorem dX8_motionsOf_6 : decode cX8_motionsOf 6 = .ok (.getfield 253, 3) := by decide +kernel
theorem dX8_motionsOf_9 : decode cX8_motionsOf 9 = .ok (.if_icmp .ge 32, 3) := by decide +kernel
theorem dX8_motionsOf_12 : decode cX8_motionsOf 12 = .ok (.iload_n 2, 1) := by decide +kernel
theorem dX8_motionsOf_13 : decode cX8_motionsOf 13 = .ok (.iload_n 1, 1) := by decide +kernel
theorem dX8_motionsOf_14 : decode cX8_motionsOf 14 = .ok (.iload_n 3, 1) := by decide +kernel
theorem dX8_motionsOf_15 : decode cX8_motionsOf 15 = .ok (.invokestatic 133, 3) := by decide +kernel
theorem dX8_motionsOf_18 : decode cX8_motionsOf 18 = .ok (.ifCond .eq 14, 3) := by decide +kernel
theorem dX8_motionsOf_21 : decode cX8_motionsOf 21 = .ok (.iconst 1, 1) := by decide +kernel
theorem dX8_motionsOf_22 : decode cX8_motionsOf 22 = .ok (.aload_n 0, 1) := by decide +kernel
theorem dX8_motionsOf_23 : decode cX8_motionsOf 23 = .ok (.getfield 70, 3) := by decide +kernel
theorem dX8_motionsOf_26 : decode cX8_motionsOf 26 = .ok (.iload_n 3, 1) := by decide +kernel
theorem dX8_motionsOf_27 : decode cX8_motionsOf 27 = .ok (.iaload, 1) := by decide +kernel
theorem dX8_motionsOf_28 : decode cX8_motionsOf 28 = .ok (.ishl, 1) := by decide +kernel
theorem dX8_motionsOf_29 : decode cX8_motionsOf 29 = .ok (.goto 4, 3) := by decide +kernel
theorem dX8_motionsOf_32 : decode cX8_motionsOf 32 = .ok (.iconst 0, 1) := by decide +kernel
theorem dX8_motionsOf_33 : decode cX8_motionsOf 33 = .ok (.ior, 1) := by decide +kernel
theorem dX8_motionsOf_34 : decode cX8_motionsOf 34 = .ok (.istore_n 2, 1) := by decide +kernel
theorem dX8_motionsOf_35 : decode cX8_motionsOf 35 = .ok (.iinc 3 1, 3) := by decide +kernel
theorem dX8_motionsOf_38 : decode cX8_motionsOf 38 = .ok (.goto (-34), 3) := by decide +kernel
theorem dX8_motionsOf_41 : decode cX8_motionsOf 41 = .ok (.iload_n 2, 1) := by decide +kernel
theorem dX8_motionsOf_42 : decode cX8_motionsOf 42 = .ok (.ireturn, 1) := by decide +kernel
theorem dX8_passes_0 : decode cX8_passes 0 = .ok (.aload_n 0, 1) := by decide +kernel
theorem dX8_passes_1 : decode cX8_passes 1 = .ok (.aload_n 0, 1) := by decide +kernel
theorem dX8_passes_2 : decode cX8_passes 2 = .ok (.iload_n 1, 1) := by decide +kernel
theorem dX8_passes_3 : decode cX8_passes 3 = .ok (.invokevirtual 256, 3) := by decide +kernel
theorem dX8_passes_6 : decode cX8_passes 6 = .ok (.invokevirtual 243, 3) := by decide +kernel
theorem dX8_passes_9 : decode cX8_passes 9 = .ok (.istore_n 2, 1) := by decide +kernel
theorem dX8_passes_10 : decode cX8_passes 10 = .ok (.aload_n 0, 1) := by decide +kernel
theorem dX8_passes_11 : decode cX8_passes 11 = .ok (.iload_n 2, 1) := by decide +kernel
theorem dX8_passes_12 : decode cX8_passes 12 = .ok (.iconst 0, 1) := by decide +kernel
theorem dX8_passes_13 : decode cX8_passes 13 = .ok (.invokevirtual 259, 3) := by decide +kernel
theorem dX8_passes_16 : decode cX8_passes 16 = .ok (.istore_n 3, 1) := by decide +kernel
theorem dX8_passes_17 : decode cX8_passes 17 = .ok (.aload_n 0, 1) := by decide +kernel
theorem dX8_passes_18 : decode cX8_passes 18 = .ok (.getfield 79, 3) := by decide +kernel
theorem dX8_passes_21 : decode cX8_passes 21 = .ok (.bipush 64, 2) := by decide +kernel
theorem dX8_passes_23 : decode cX8_passes 23 = .ok (.aload_n 0, 1) := by decide +kernel
theorem dX8_passes_24 : decode cX8_passes 24 = .ok (.getfield 253, 3) := by decide +kernel
theorem dX8_passes_27 : decode cX8_passes 27 = .ok (.imul, 1) := by decide +kernel
theorem dX8_passes_28 : decode cX8_passes 28 = .ok (.iload_n 1, 1) := by decide +kernel
theorem dX8_passes_29 : decode cX8_passes 29 = .ok (.iadd, 1) := by decide +kernel
theorem dX8_passes_30 : decode cX8_passes 30 = .ok (.iload_n 3, 1) := by decide +kernel
theorem dX8_passes_31 : decode cX8_passes 31 = .ok (.iastore, 1) := by decide +kernel
theorem dX8_passes_32 : decode cX8_passes 32 = .ok (.aload_n 0, 1) := by decide +kernel
theorem dX8_passes_33 : decode cX8_passes 33 = .ok (.getfield 76, 3) := by decide +kernel
theorem dX8_passes_36 : decode cX8_passes 36 = .ok (.bipush 64, 2) := by decide +kernel
theorem dX8_passes_38 : decode cX8_passes 38 = .ok (.aload_n 0, 1) := by decide +kernel
theorem dX8_passes_39 : decode cX8_passes 39 = .ok (.getfield 253, 3) := by decide +kernel
theorem dX8_passes_42 : decode cX8_passes 42 = .ok (.imul, 1) := by decide +kernel
theorem dX8_passes_43 : decode cX8_passes 43 = .ok (.iload_n 1, 1) := by decide +kernel
theorem dX8_passes_44 : decode cX8_passes 44 = .ok (.iadd, 1) := by decide +kernel
theorem dX8_passes_45 : decode cX8_passes 45 = .ok (.iload_n 3, 1) := by decide +kernel
theorem dX8_passes_46 : decode cX8_passes 46 = .ok (.aload_n 0, 1) := by decide +kernel
theorem dX8_passes_47 : decode cX8_passes 47 = .ok (.invokevirtual 262, 3) := by decide +kernel
theorem dX8_passes_50 : decode cX8_passes 50 = .ok (.if_icmp .lt 7, 3) := by decide +kernel
theorem dX8_passes_53 : decode cX8_passes 53 = .ok (.iload_n 2, 1) := by decide +kernel
theorem dX8_passes_54 : decode cX8_passes 54 = .ok (.goto 4, 3) := by decide +kernel
theorem dX8_passes_57 : decode cX8_passes 57 = .ok (.iconst 0, 1) := by decide +kernel
theorem dX8_passes_58 : decode cX8_passes 58 = .ok (.iastore, 1) := by decide +kernel
theorem dX8_passes_59 : decode cX8_passes 59 = .ok (.return_, 1) := by decide +kernel
theorem dX8_votesOn_0 : decode cX8_votesOn 0 = .ok (.aload_n 0, 1) := by decide +kernel
theorem dX8_votesOn_1 : decode cX8_votesOn 1 = .ok (.getfield 76, 3) := by decide +kernel
theorem dX8_votesOn_4 : decode cX8_votesOn 4 = .ok (.bipush 64, 2) := by decide +kernel
theorem dX8_votesOn_6 : decode cX8_votesOn 6 = .ok (.iload_n 1, 1) := by decide +kernel
theorem dX8_votesOn_7 : decode cX8_votesOn 7 = .ok (.iconst 1, 1) := by decide +kernel
theorem dX8_votesOn_8 : decode cX8_votesOn 8 = .ok (.iadd, 1) := by decide +kernel
theorem dX8_votesOn_9 : decode cX8_votesOn 9 = .ok (.imul, 1) := by decide +kernel
theorem dX8_votesOn_10 : decode cX8_votesOn 10 = .ok (.iload_n 2, 1) := by decide +kernel
theorem dX8_votesOn_11 : decode cX8_votesOn 11 = .ok (.iconst 1, 1) := by decide +kernel
theorem dX8_votesOn_12 : decode cX8_votesOn 12 = .ok (.iload_n 1, 1) := by decide +kernel
theorem dX8_votesOn_13 : decode cX8_votesOn 13 = .ok (.ishl, 1) := by decide +kernel
theorem dX8_votesOn_14 : decode cX8_votesOn 14 = .ok (.ior, 1) := by decide +kernel
theorem dX8_votesOn_15 : decode cX8_votesOn 15 = .ok (.iadd, 1) := by decide +kernel
theorem dX8_votesOn_16 : decode cX8_votesOn 16 = .ok (.iaload, 1) := by decide +kernel
theorem dX8_votesOn_17 : decode cX8_votesOn 17 = .ok (.istore 4, 2) := by decide +kernel
theorem dX8_votesOn_19 : decode cX8_votesOn 19 = .ok (.aload_n 0, 1) := by decide +kernel
theorem dX8_votesOn_20 : decode cX8_votesOn 20 = .ok (.getfield 76, 3) := by decide +kernel
theorem dX8_votesOn_23 : decode cX8_votesOn 23 = .ok (.bipush 64, 2) := by decide +kernel
theorem dX8_votesOn_25 : decode cX8_votesOn 25 = .ok (.iload_n 1, 1) := by decide +kernel
theorem dX8_votesOn_26 : decode cX8_votesOn 26 = .ok (.iconst 1, 1) := by decide +kernel
theorem dX8_votesOn_27 : decode cX8_votesOn 27 = .ok (.iadd, 1) := by decide +kernel
theorem dX8_votesOn_28 : decode cX8_votesOn 28 = .ok (.imul, 1) := by decide +kernel
theorem dX8_votesOn_29 : decode cX8_votesOn 29 = .ok (.iload_n 2, 1) := by decide +kernel
theorem dX8_votesOn_30 : decode cX8_votesOn 30 = .ok (.iadd, 1) := by decide +kernel
theorem dX8_votesOn_31 : decode cX8_votesOn 31 = .ok (.iaload, 1) := by decide +kernel
theorem dX8_votesOn_32 : decode cX8_votesOn 32 = .ok (.istore 5, 2) := by decide +kernel
theorem dX8_votesOn_34 : decode cX8_votesOn 34 = .ok (.aload_n 0, 1) := by decide +kernel
theorem dX8_votesOn_35 : decode cX8_votesOn 35 = .ok (.aload_n 0, 1) := by decide +kernel
theorem dX8_votesOn_36 : decode cX8_votesOn 36 = .ok (.iload_n 2, 1) := by decide +kernel
theorem dX8_votesOn_37 : decode cX8_votesOn 37 = .ok (.invokevirtual 256, 3) := by decide +kernel
theorem dX8_votesOn_40 : decode cX8_votesOn 40 = .ok (.invokevirtual 243, 3) := by decide +kernel
theorem dX8_votesOn_43 : decode cX8_votesOn 43 = .ok (.istore 6, 2) := by decide +kernel
theorem dX8_votesOn_45 : decode cX8_votesOn 45 = .ok (.aload_n 0, 1) := by decide +kernel
theorem dX8_votesOn_46 : decode cX8_votesOn 46 = .ok (.aload_n 0, 1) := by decide +kernel
theorem dX8_votesOn_47 : decode cX8_votesOn 47 = .ok (.iload_n 2, 1) := by decide +kernel
theorem dX8_votesOn_48 : decode cX8_votesOn 48 = .ok (.iconst 1, 1) := by decide +kernel
theorem dX8_votesOn_49 : decode cX8_votesOn 49 = .ok (.iload_n 1, 1) := by decide +kernel
theorem dX8_votesOn_50 : decode cX8_votesOn 50 = .ok (.ishl, 1) := by decide +kernel
theorem dX8_votesOn_51 : decode cX8_votesOn 51 = .ok (.ior, 1) := by decide +kernel
theorem dX8_votesOn_52 : decode cX8_votesOn 52 = .ok (.invokevirtual 256, 3) := by decide +kernel
theorem dX8_votesOn_55 : decode cX8_votesOn 55 = .ok (.invokevirtual 243, 3) := by decide +kernel
theorem dX8_votesOn_58 : decode cX8_votesOn 58 = .ok (.istore 7, 2) := by decide +kernel
theorem dX8_votesOn_60 : decode cX8_votesOn 60 = .ok (.iconst 0, 1) := by decide +kernel
theorem dX8_votesOn_61 : decode cX8_votesOn 61 = .ok (.istore 8, 2) := by decide +kernel
theorem dX8_votesOn_63 : decode cX8_votesOn 63 = .ok (.iconst 0, 1) := by decide +kernel
theorem dX8_votesOn_64 : decode cX8_votesOn 64 = .ok (.istore 9, 2) := by decide +kernel
theorem dX8_votesOn_66 : decode cX8_votesOn 66 = .ok (.iload 9, 2) := by decide +kernel
theorem dX8_votesOn_68 : decode cX8_votesOn 68 = .ok (.aload_n 0, 1) := by decide +kernel
theorem dX8_votesOn_69 : decode cX8_votesOn 69 = .ok (.getfield 7, 3) := by decide +kernel
theorem dX8_votesOn_72 : decode cX8_votesOn 72 = .ok (.iconst 3, 1) := by decide +kernel
theorem dX8_votesOn_73 : decode cX8_votesOn 73 = .ok (.iaload, 1) := by decide +kernel
theorem dX8_votesOn_74 : decode cX8_votesOn 74 = .ok (.if_icmp .ge 57, 3) := by decide +kernel
theorem dX8_votesOn_77 : decode cX8_votesOn 77 = .ok (.iload 8, 2) := by decide +kernel
theorem dX8_votesOn_79 : decode cX8_votesOn 79 = .ok (.iload_n 3, 1) := by decide +kernel
theorem dX8_votesOn_80 : decode cX8_votesOn 80 = .ok (.iload 9, 2) := by decide +kernel
theorem dX8_votesOn_82 : decode cX8_votesOn 82 = .ok (.invokestatic 133, 3) := by decide +kernel
theorem dX8_votesOn_85 : decode cX8_votesOn 85 = .ok (.ifCond .eq 19, 3) := by decide +kernel
theorem dX8_votesOn_88 : decode cX8_votesOn 88 = .ok (.aload_n 0, 1) := by decide +kernel
theorem dX8_votesOn_89 : decode cX8_votesOn 89 = .ok (.iload 9, 2) := by decide +kernel
theorem dX8_votesOn_91 : decode cX8_votesOn 91 = .ok (.iload 7, 2) := by decide +kernel
theorem dX8_votesOn_93 : decode cX8_votesOn 93 = .ok (.iload 6, 2) := by decide +kernel
theorem dX8_votesOn_95 : decode cX8_votesOn 95 = .ok (.invokevirtual 250, 3) := by decide +kernel
theorem dX8_votesOn_98 : decode cX8_votesOn 98 = .ok (.ifCond .eq 23, 3) := by decide +kernel
theorem dX8_votesOn_101 : decode cX8_votesOn 101 = .ok (.goto 16, 3) := by decide +kernel
theorem dX8_votesOn_104 : decode cX8_votesOn 104 = .ok (.aload_n 0, 1) := by decide +kernel
theorem dX8_votesOn_105 : decode cX8_votesOn 105 = .ok (.iload 9, 2) := by decide +kernel
theorem dX8_votesOn_107 : decode cX8_votesOn 107 = .ok (.iload 4, 2) := by decide +kernel
theorem dX8_votesOn_109 : decode cX8_votesOn 109 = .ok (.iload 5, 2) := by decide +kernel
theorem dX8_votesOn_111 : decode cX8_votesOn 111 = .ok (.invokevirtual 250, 3) := by decide +kernel
theorem dX8_votesOn_114 : decode cX8_votesOn 114 = .ok (.ifCond .eq 7, 3) := by decide +kernel
theorem dX8_votesOn_117 : decode cX8_votesOn 117 = .ok (.iconst 1, 1) := by decide +kernel
theorem dX8_votesOn_118 : decode cX8_votesOn 118 = .ok (.goto 4, 3) := by decide +kernel
theorem dX8_votesOn_121 : decode cX8_votesOn 121 = .ok (.iconst 0, 1) := by decide +kernel
theorem dX8_votesOn_122 : decode cX8_votesOn 122 = .ok (.iadd, 1) := by decide +kernel
theorem dX8_votesOn_123 : decode cX8_votesOn 123 = .ok (.istore 8, 2) := by decide +kernel
theorem dX8_votesOn_125 : decode cX8_votesOn 125 = .ok (.iinc 9 1, 3) := by decide +kernel
theorem dX8_votesOn_128 : decode cX8_votesOn 128 = .ok (.goto (-62), 3) := by decide +kernel
theorem dX8_votesOn_131 : decode cX8_votesOn 131 = .ok (.aload_n 0, 1) := by decide +kernel
theorem dX8_votesOn_132 : decode cX8_votesOn 132 = .ok (.getfield 79, 3) := by decide +kernel
theorem dX8_votesOn_135 : decode cX8_votesOn 135 = .ok (.bipush 64, 2) := by decide +kernel
theorem dX8_votesOn_137 : decode cX8_votesOn 137 = .ok (.iload_n 1, 1) := by decide +kernel
theorem dX8_votesOn_138 : decode cX8_votesOn 138 = .ok (.imul, 1) := by decide +kernel
theorem dX8_votesOn_139 : decode cX8_votesOn 139 = .ok (.iload_n 2, 1) := by decide +kernel
theorem dX8_votesOn_140 : decode cX8_votesOn 140 = .ok (.iadd, 1) := by decide +kernel
theorem dX8_votesOn_141 : decode cX8_votesOn 141 = .ok (.iload 8, 2) := by decide +kernel
theorem dX8_votesOn_143 : decode cX8_votesOn 143 = .ok (.iastore, 1) := by decide +kernel
theorem dX8_votesOn_144 : decode cX8_votesOn 144 = .ok (.aload_n 0, 1) := by decide +kernel
theorem dX8_votesOn_145 : decode cX8_votesOn 145 = .ok (.getfield 76, 3) := by decide +kernel
theorem dX8_votesOn_148 : decode cX8_votesOn 148 = .ok (.bipush 64, 2) := by decide +kernel
theorem dX8_votesOn_150 : decode cX8_votesOn 150 = .ok (.iload_n 1, 1) := by decide +kernel
theorem dX8_votesOn_151 : decode cX8_votesOn 151 = .ok (.imul, 1) := by decide +kernel
theorem dX8_votesOn_152 : decode cX8_votesOn 152 = .ok (.iload_n 2, 1) := by decide +kernel
theorem dX8_votesOn_153 : decode cX8_votesOn 153 = .ok (.iadd, 1) := by decide +kernel
theorem dX8_votesOn_154 : decode cX8_votesOn 154 = .ok (.iconst 2, 1) := by decide +kernel
theorem dX8_votesOn_155 : decode cX8_votesOn 155 = .ok (.iload 8, 2) := by decide +kernel
theorem dX8_votesOn_157 : decode cX8_votesOn 157 = .ok (.imul, 1) := by decide +kernel
theorem dX8_votesOn_158 : decode cX8_votesOn 158 = .ok (.aload_n 0, 1) := by decide +kernel
theorem dX8_votesOn_159 : decode cX8_votesOn 159 = .ok (.getfield 7, 3) := by decide +kernel
theorem dX8_votesOn_162 : decode cX8_votesOn 162 = .ok (.iconst 3, 1) := by decide +kernel
theorem dX8_votesOn_163 : decode cX8_votesOn 163 = .ok (.iaload, 1) := by decide +kernel
theorem dX8_votesOn_164 : decode cX8_votesOn 164 = .ok (.if_icmp .le 8, 3) := by decide +kernel
theorem dX8_votesOn_167 : decode cX8_votesOn 167 = .ok (.iload 4, 2) := by decide +kernel
theorem dX8_votesOn_169 : decode cX8_votesOn 169 = .ok (.goto 5, 3) := by decide +kernel
theorem dX8_votesOn_172 : decode cX8_votesOn 172 = .ok (.iload 5, 2) := by decide +kernel
theorem dX8_votesOn_174 : decode cX8_votesOn 174 = .ok (.iastore, 1) := by decide +kernel
theorem dX8_votesOn_175 : decode cX8_votesOn 175 = .ok (.return_, 1) := by decide +kernel
theorem dX8_worksOut_0 : decode cX8_worksOut 0 = .ok (.aload_n 0, 1) := by decide +kernel
theorem dX8_worksOut_1 : decode cX8_worksOut 1 = .ok (.iload_n 1, 1) := by decide +kernel
theorem dX8_worksOut_2 : decode cX8_worksOut 2 = .ok (.putfield 253, 3) := by decide +kernel
theorem dX8_worksOut_5 : decode cX8_worksOut 5 = .ok (.iconst 0, 1) := by decide +kernel
theorem dX8_worksOut_6 : decode cX8_worksOut 6 = .ok (.istore_n 3, 1) := by decide +kernel
theorem dX8_worksOut_7 : decode cX8_worksOut 7 = .ok (.iload_n 3, 1) := by decide +kernel
theorem dX8_worksOut_8 : decode cX8_worksOut 8 = .ok (.iconst 1, 1) := by decide +kernel
theorem dX8_worksOut_9 : decode cX8_worksOut 9 = .ok (.iload_n 1, 1) := by decide +kernel
theorem dX8_worksOut_10 : decode cX8_worksOut 10 = .ok (.ishl, 1) := by decide +kernel
theorem dX8_worksOut_11 : decode cX8_worksOut 11 = .ok (.if_icmp .ge 14, 3) := by decide +kernel
theorem dX8_worksOut_14 : decode cX8_worksOut 14 = .ok (.aload_n 0, 1) := by decide +kernel
theorem dX8_worksOut_15 : decode cX8_worksOut 15 = .ok (.iload_n 3, 1) := by decide +kernel
theorem dX8_worksOut_16 : decode cX8_worksOut 16 = .ok (.invokevirtual 265, 3) := by decide +kernel
theorem dX8_worksOut_19 : decode cX8_worksOut 19 = .ok (.iinc 3 1, 3) := by decide +kernel
theorem dX8_worksOut_22 : decode cX8_worksOut 22 = .ok (.goto (-15), 3) := by decide +kernel
theorem dX8_worksOut_25 : decode cX8_worksOut 25 = .ok (.iload_n 1, 1) := by decide +kernel
theorem dX8_worksOut_26 : decode cX8_worksOut 26 = .ok (.iconst 1, 1) := by decide +kernel
theorem dX8_worksOut_27 : decode cX8_worksOut 27 = .ok (.isub, 1) := by decide +kernel
theorem dX8_worksOut_28 : decode cX8_worksOut 28 = .ok (.istore_n 3, 1) := by decide +kernel
theorem dX8_worksOut_29 : decode cX8_worksOut 29 = .ok (.iload_n 3, 1) := by decide +kernel
theorem dX8_worksOut_30 : decode cX8_worksOut 30 = .ok (.ifCond .lt 34, 3) := by decide +kernel
theorem dX8_worksOut_33 : decode cX8_worksOut 33 = .ok (.iconst 0, 1) := by decide +kernel
theorem dX8_worksOut_34 : decode cX8_worksOut 34 = .ok (.istore 4, 2) := by decide +kernel
theorem dX8_worksOut_36 : decode cX8_worksOut 36 = .ok (.iload 4, 2) := by decide +kernel
theorem dX8_worksOut_38 : decode cX8_worksOut 38 = .ok (.iconst 1, 1) := by decide +kernel
theorem dX8_worksOut_39 : decode cX8_worksOut 39 = .ok (.iload_n 3, 1) := by decide +kernel
theorem dX8_worksOut_40 : decode cX8_worksOut 40 = .ok (.ishl, 1) := by decide +kernel
theorem dX8_worksOut_41 : decode cX8_worksOut 41 = .ok (.if_icmp .ge 17, 3) := by decide +kernel
theorem dX8_worksOut_44 : decode cX8_worksOut 44 = .ok (.aload_n 0, 1) := by decide +kernel
theorem dX8_worksOut_45 : decode cX8_worksOut 45 = .ok (.iload_n 3, 1) := by decide +kernel
theorem dX8_worksOut_46 : decode cX8_worksOut 46 = .ok (.iload 4, 2) := by decide +kernel
theorem dX8_worksOut_48 : decode cX8_worksOut 48 = .ok (.iload_n 2, 1) := by decide +kernel
theorem dX8_worksOut_49 : decode cX8_worksOut 49 = .ok (.invokevirtual 268, 3) := by decide +kernel
theorem dX8_worksOut_52 : decode cX8_worksOut 52 = .ok (.iinc 4 1, 3) := by decide +kernel
theorem dX8_worksOut_55 : decode cX8_worksOut 55 = .ok (.goto (-19), 3) := by decide +kernel
theorem dX8_worksOut_58 : decode cX8_worksOut 58 = .ok (.iinc 3 (-1), 3) := by decide +kernel
theorem dX8_worksOut_61 : decode cX8_worksOut 61 = .ok (.goto (-32), 3) := by decide +kernel
theorem dX8_worksOut_64 : decode cX8_worksOut 64 = .ok (.return_, 1) := by decide +kernel
theorem dX8_laysOrder_0 : decode cX8_laysOrder 0 = .ok (.iconst 0, 1) := by decide +kernel
theorem dX8_laysOrder_1 : decode cX8_laysOrder 1 = .ok (.istore_n 1, 1) := by decide +kernel
theorem dX8_laysOrder_2 : decode cX8_laysOrder 2 = .ok (.iload_n 1, 1) := by decide +kernel
theorem dX8_laysOrder_3 : decode cX8_laysOrder 3 = .ok (.aload_n 0, 1) := by decide +kernel
theorem dX8_laysOrder_4 : decode cX8_laysOrder 4 = .ok (.getfield 7, 3) := by decide +kernel
theorem dX8_laysOrder_7 : decode cX8_laysOrder 7 = .ok (.iconst 1, 1) := by decide +kernel
theorem dX8_laysOrder_8 : decode cX8_laysOrder 8 = .ok (.iaload, 1) := by decide +kernel
theorem dX8_laysOrder_9 : decode cX8_laysOrder 9 = .ok (.if_icmp .ge 21, 3) := by decide +kernel
theorem dX8_laysOrder_12 : decode cX8_laysOrder 12 = .ok (.aload_n 0, 1) := by decide +kernel
theorem dX8_laysOrder_13 : decode cX8_laysOrder 13 = .ok (.getfield 70, 3) := by decide +kernel
theorem dX8_laysOrder_16 : decode cX8_laysOrder 16 = .ok (.iload_n 1, 1) := by decide +kernel
theorem dX8_laysOrder_17 : decode cX8_laysOrder 17 = .ok (.aload_n 0, 1) := by decide +kernel
theorem dX8_laysOrder_18 : decode cX8_laysOrder 18 = .ok (.getfield 64, 3) := by decide +kernel
theorem dX8_laysOrder_21 : decode cX8_laysOrder 21 = .ok (.iload_n 1, 1) := by decide +kernel
theorem dX8_laysOrder_22 : decode cX8_laysOrder 22 = .ok (.iaload, 1) := by decide +kernel
theorem dX8_laysOrder_23 : decode cX8_laysOrder 23 = .ok (.iastore, 1) := by decide +kernel
theorem dX8_laysOrder_24 : decode cX8_laysOrder 24 = .ok (.iinc 1 1, 3) := by decide +kernel
theorem dX8_laysOrder_27 : decode cX8_laysOrder 27 = .ok (.goto (-25), 3) := by decide +kernel
theorem dX8_laysOrder_30 : decode cX8_laysOrder 30 = .ok (.return_, 1) := by decide +kernel
theorem dX8_isSetOfVoters_0 : decode cX8_isSetOfVoters 0 = .ok (.iload_n 1, 1) := by decide +kernel
theorem dX8_isSetOfVoters_1 : decode cX8_isSetOfVoters 1 = .ok (.iconst 0, 1) := by decide +kernel
theorem dX8_isSetOfVoters_2 : decode cX8_isSetOfVoters 2 = .ok (.iconst 1, 1) := by decide +kernel
theorem dX8_isSetOfVoters_3 : decode cX8_isSetOfVoters 3 = .ok (.aload_n 0, 1) := by decide +kernel
theorem dX8_isSetOfVoters_4 : decode cX8_isSetOfVoters 4 = .ok (.getfield 7, 3) := by decide +kernel
theorem dX8_isSetOfVoters_7 : decode cX8_isSetOfVoters 7 = .ok (.iconst 3, 1) := by decide +kernel
theorem dX8_isSetOfVoters_8 : decode cX8_isSetOfVoters 8 = .ok (.iaload, 1) := by decide +kernel
theorem dX8_isSetOfVoters_9 : decode cX8_isSetOfVoters 9 = .ok (.ishl, 1) := by decide +kernel
theorem dX8_isSetOfVoters_10 : decode cX8_isSetOfVoters 10 = .ok (.iconst 1, 1) := by decide +kernel
theorem dX8_isSetOfVoters_11 : decode cX8_isSetOfVoters 11 = .ok (.isub, 1) := by decide +kernel
theorem dX8_isSetOfVoters_12 : decode cX8_isSetOfVoters 12 = .ok (.invokestatic 106, 3) := by decide +kernel
theorem dX8_isSetOfVoters_15 : decode cX8_isSetOfVoters 15 = .ok (.ireturn, 1) := by decide +kernel
theorem dX8_asks_0 : decode cX8_asks 0 = .ok (.aload_n 0, 1) := by decide +kernel
theorem dX8_asks_1 : decode cX8_asks 1 = .ok (.invokevirtual 272, 3) := by decide +kernel
theorem dX8_asks_4 : decode cX8_asks 4 = .ok (.aload_n 0, 1) := by decide +kernel
theorem dX8_asks_5 : decode cX8_asks 5 = .ok (.invokevirtual 275, 3) := by decide +kernel
theorem dX8_asks_8 : decode cX8_asks 8 = .ok (.aload_n 0, 1) := by decide +kernel
theorem dX8_asks_9 : decode cX8_asks 9 = .ok (.aload_n 0, 1) := by decide +kernel
theorem dX8_asks_10 : decode cX8_asks 10 = .ok (.getfield 7, 3) := by decide +kernel
theorem dX8_asks_13 : decode cX8_asks 13 = .ok (.iconst 1, 1) := by decide +kernel
theorem dX8_asks_14 : decode cX8_asks 14 = .ok (.iaload, 1) := by decide +kernel
theorem dX8_asks_15 : decode cX8_asks 15 = .ok (.iload_n 1, 1) := by decide +kernel
theorem dX8_asks_16 : decode cX8_asks 16 = .ok (.invokevirtual 278, 3) := by decide +kernel
theorem dX8_asks_19 : decode cX8_asks 19 = .ok (.return_, 1) := by decide +kernel
theorem dX8_way_0 : decode cX8_way 0 = .ok (.iconst 0, 1) := by decide +kernel
theorem dX8_way_1 : decode cX8_way 1 = .ok (.istore_n 2, 1) := by decide +kernel
theorem dX8_way_2 : decode cX8_way 2 = .ok (.iconst 0, 1) := by decide +kernel
theorem dX8_way_3 : decode cX8_way 3 = .ok (.istore_n 3, 1) := by decide +kernel
theorem dX8_way_4 : decode cX8_way 4 = .ok (.iload_n 3, 1) := by decide +kernel
theorem dX8_way_5 : decode cX8_way 5 = .ok (.iload_n 1, 1) := by decide +kernel
theorem dX8_way_6 : decode cX8_way 6 = .ok (.if_icmp .ge 41, 3) := by decide +kernel
theorem dX8_way_9 : decode cX8_way 9 = .ok (.iload_n 2, 1) := by decide +kernel
theorem dX8_way_10 : decode cX8_way 10 = .ok (.iconst 2, 1) := by decide +kernel
theorem dX8_way_11 : decode cX8_way 11 = .ok (.aload_n 0, 1) := by decide +kernel
theorem dX8_way_12 : decode cX8_way 12 = .ok (.getfield 79, 3) := by decide +kernel
theorem dX8_way_15 : decode cX8_way 15 = .ok (.bipush 64, 2) := by decide +kernel
theorem dX8_way_17 : decode cX8_way 17 = .ok (.iload_n 3, 1) := by decide +kernel
theorem dX8_way_18 : decode cX8_way 18 = .ok (.imul, 1) := by decide +kernel
theorem dX8_way_19 : decode cX8_way 19 = .ok (.iload_n 2, 1) := by decide +kernel
theorem dX8_way_20 : decode cX8_way 20 = .ok (.iadd, 1) := by decide +kernel
theorem dX8_way_21 : decode cX8_way 21 = .ok (.iaload, 1) := by decide +kernel
theorem dX8_way_22 : decode cX8_way 22 = .ok (.imul, 1) := by decide +kernel
theorem dX8_way_23 : decode cX8_way 23 = .ok (.aload_n 0, 1) := by decide +kernel
theorem dX8_way_24 : decode cX8_way 24 = .ok (.getfield 7, 3) := by decide +kernel
theorem dX8_way_27 : decode cX8_way 27 = .ok (.iconst 3, 1) := by decide +kernel
theorem dX8_way_28 : decode cX8_way 28 = .ok (.iaload, 1) := by decide +kernel
theorem dX8_way_29 : decode cX8_way 29 = .ok (.if_icmp .le 9, 3) := by decide +kernel
theorem dX8_way_32 : decode cX8_way 32 = .ok (.iconst 1, 1) := by decide +kernel
theorem dX8_way_33 : decode cX8_way 33 = .ok (.iload_n 3, 1) := by decide +kernel
theorem dX8_way_34 : decode cX8_way 34 = .ok (.ishl, 1) := by decide +kernel
theorem dX8_way_35 : decode cX8_way 35 = .ok (.goto 4, 3) := by decide +kernel
theorem dX8_way_38 : decode cX8_way 38 = .ok (.iconst 0, 1) := by decide +kernel
theorem dX8_way_39 : decode cX8_way 39 = .ok (.ior, 1) := by decide +kernel
theorem dX8_way_40 : decode cX8_way 40 = .ok (.istore_n 2, 1) := by decide +kernel
theorem dX8_way_41 : decode cX8_way 41 = .ok (.iinc 3 1, 3) := by decide +kernel
theorem dX8_way_44 : decode cX8_way 44 = .ok (.goto (-40), 3) := by decide +kernel
theorem dX8_way_47 : decode cX8_way 47 = .ok (.iload_n 2, 1) := by decide +kernel
theorem dX8_way_48 : decode cX8_way 48 = .ok (.ireturn, 1) := by decide +kernel
theorem dX8_result_0 : decode cX8_result 0 = .ok (.aload_n 0, 1) := by decide +kernel
theorem dX8_result_1 : decode cX8_result 1 = .ok (.iconst 0, 1) := by decide +kernel
theorem dX8_result_2 : decode cX8_result 2 = .ok (.putfield 95, 3) := by decide +kernel
theorem dX8_result_5 : decode cX8_result 5 = .ok (.aload_n 0, 1) := by decide +kernel
theorem dX8_result_6 : decode cX8_result 6 = .ok (.iload_n 1, 1) := by decide +kernel
theorem dX8_result_7 : decode cX8_result 7 = .ok (.invokevirtual 281, 3) := by decide +kernel
theorem dX8_result_10 : decode cX8_result 10 = .ok (.ifCond .ne 5, 3) := by decide +kernel
theorem dX8_result_13 : decode cX8_result 13 = .ok (.iconst (-1), 1) := by decide +kernel
theorem dX8_result_14 : decode cX8_result 14 = .ok (.ireturn, 1) := by decide +kernel
theorem dX8_result_15 : decode cX8_result 15 = .ok (.aload_n 0, 1) := by decide +kernel
theorem dX8_result_16 : decode cX8_result 16 = .ok (.iload_n 1, 1) := by decide +kernel
theorem dX8_result_17 : decode cX8_result 17 = .ok (.invokevirtual 284, 3) := by decide +kernel
theorem dX8_result_20 : decode cX8_result 20 = .ok (.aload_n 0, 1) := by decide +kernel
theorem dX8_result_21 : decode cX8_result 21 = .ok (.getfield 76, 3) := by decide +kernel
theorem dX8_result_24 : decode cX8_result 24 = .ok (.iconst 0, 1) := by decide +kernel
theorem dX8_result_25 : decode cX8_result 25 = .ok (.iaload, 1) := by decide +kernel
theorem dX8_result_26 : decode cX8_result 26 = .ok (.ireturn, 1) := by decide +kernel
theorem dX8_adopted_0 : decode cX8_adopted 0 = .ok (.aload_n 0, 1) := by decide +kernel
theorem dX8_adopted_1 : decode cX8_adopted 1 = .ok (.iconst 0, 1) := by decide +kernel
theorem dX8_adopted_2 : decode cX8_adopted 2 = .ok (.putfield 95, 3) := by decide +kernel
theorem dX8_adopted_5 : decode cX8_adopted 5 = .ok (.aload_n 0, 1) := by decide +kernel
theorem dX8_adopted_6 : decode cX8_adopted 6 = .ok (.iload_n 1, 1) := by decide +kernel
theorem dX8_adopted_7 : decode cX8_adopted 7 = .ok (.invokevirtual 281, 3) := by decide +kernel
theorem dX8_adopted_10 : decode cX8_adopted 10 = .ok (.ifCond .ne 5, 3) := by decide +kernel
theorem dX8_adopted_13 : decode cX8_adopted 13 = .ok (.iconst (-1), 1) := by decide +kernel
theorem dX8_adopted_14 : decode cX8_adopted 14 = .ok (.ireturn, 1) := by decide +kernel
theorem dX8_adopted_15 : decode cX8_adopted 15 = .ok (.aload_n 0, 1) := by decide +kernel
theorem dX8_adopted_16 : decode cX8_adopted 16 = .ok (.iload_n 1, 1) := by decide +kernel
theorem dX8_adopted_17 : decode cX8_adopted 17 = .ok (.invokevirtual 284, 3) := by decide +kernel
theorem dX8_adopted_20 : decode cX8_adopted 20 = .ok (.aload_n 0, 1) := by decide +kernel
theorem dX8_adopted_21 : decode cX8_adopted 21 = .ok (.aload_n 0, 1) := by decide +kernel
theorem dX8_adopted_22 : decode cX8_adopted 22 = .ok (.aload_n 0, 1) := by decide +kernel
theorem dX8_adopted_23 : decode cX8_adopted 23 = .ok (.getfield 253, 3) := by decide +kernel
theorem dX8_adopted_26 : decode cX8_adopted 26 = .ok (.invokevirtual 287, 3) := by decide +kernel
theorem dX8_adopted_29 : decode cX8_adopted 29 = .ok (.invokevirtual 256, 3) := by decide +kernel
theorem dX8_adopted_32 : decode cX8_adopted 32 = .ok (.ireturn, 1) := by decide +kernel
theorem dX8_yes_0 : decode cX8_yes 0 = .ok (.aload_n 0, 1) := by decide +kernel
theorem dX8_yes_1 : decode cX8_yes 1 = .ok (.iconst 0, 1) := by decide +kernel
theorem dX8_yes_2 : decode cX8_yes 2 = .ok (.putfield 95, 3) := by decide +kernel
theorem dX8_yes_5 : decode cX8_yes 5 = .ok (.aload_n 0, 1) := by decide +kernel
theorem dX8_yes_6 : decode cX8_yes 6 = .ok (.iload_n 1, 1) := by decide +kernel
theorem dX8_yes_7 : decode cX8_yes 7 = .ok (.invokevirtual 281, 3) := by decide +kernel
theorem dX8_yes_10 : decode cX8_yes 10 = .ok (.ifCond .eq 17, 3) := by decide +kernel
theorem dX8_yes_13 : decode cX8_yes 13 = .ok (.iload_n 2, 1) := by decide +kernel
theorem dX8_yes_14 : decode cX8_yes 14 = .ok (.iconst 0, 1) := by decide +kernel
theorem dX8_yes_15 : decode cX8_yes 15 = .ok (.aload_n 0, 1) := by decide +kernel
theorem dX8_yes_16 : decode cX8_yes 16 = .ok (.getfield 7, 3) := by decide +kernel
theorem dX8_yes_19 : decode cX8_yes 19 = .ok (.iconst 1, 1) := by decide +kernel
theorem dX8_yes_20 : decode cX8_yes 20 = .ok (.iaload, 1) := by decide +kernel
theorem dX8_yes_21 : decode cX8_yes 21 = .ok (.invokestatic 106, 3) := by decide +kernel
theorem dX8_yes_24 : decode cX8_yes 24 = .ok (.ifCond .ne 5, 3) := by decide +kernel
theorem dX8_yes_27 : decode cX8_yes 27 = .ok (.iconst (-1), 1) := by decide +kernel
theorem dX8_yes_28 : decode cX8_yes 28 = .ok (.ireturn, 1) := by decide +kernel
theorem dX8_yes_29 : decode cX8_yes 29 = .ok (.aload_n 0, 1) := by decide +kernel
theorem dX8_yes_30 : decode cX8_yes 30 = .ok (.iload_n 1, 1) := by decide +kernel
theorem dX8_yes_31 : decode cX8_yes 31 = .ok (.invokevirtual 284, 3) := by decide +kernel
theorem dX8_yes_34 : decode cX8_yes 34 = .ok (.aload_n 0, 1) := by decide +kernel
theorem dX8_yes_35 : decode cX8_yes 35 = .ok (.getfield 79, 3) := by decide +kernel
theorem dX8_yes_38 : decode cX8_yes 38 = .ok (.bipush 64, 2) := by decide +kernel
theorem dX8_yes_40 : decode cX8_yes 40 = .ok (.iload_n 2, 1) := by decide +kernel
theorem dX8_yes_41 : decode cX8_yes 41 = .ok (.imul, 1) := by decide +kernel
theorem dX8_yes_42 : decode cX8_yes 42 = .ok (.aload_n 0, 1) := by decide +kernel
theorem dX8_yes_43 : decode cX8_yes 43 = .ok (.iload_n 2, 1) := by decide +kernel
theorem dX8_yes_44 : decode cX8_yes 44 = .ok (.invokevirtual 287, 3) := by decide +kernel
theorem dX8_yes_47 : decode cX8_yes 47 = .ok (.iadd, 1) := by decide +kernel
theorem dX8_yes_48 : decode cX8_yes 48 = .ok (.iaload, 1) := by decide +kernel
theorem dX8_yes_49 : decode cX8_yes 49 = .ok (.ireturn, 1) := by decide +kernel
theorem dX8_says_0 : decode cX8_says 0 = .ok (.aload_n 0, 1) := by decide +kernel
theorem dX8_says_1 : decode cX8_says 1 = .ok (.getfield 82, 3) := by decide +kernel
theorem dX8_says_4 : decode cX8_says 4 = .ok (.aload_n 0, 1) := by decide +kernel
theorem dX8_says_5 : decode cX8_says 5 = .ok (.getfield 290, 3) := by decide +kernel
theorem dX8_says_8 : decode cX8_says 8 = .ok (.iload_n 1, 1) := by decide +kernel
theorem dX8_says_9 : decode cX8_says 9 = .ok (.iastore, 1) := by decide +kernel
theorem dX8_says_10 : decode cX8_says 10 = .ok (.aload_n 0, 1) := by decide +kernel
theorem dX8_says_11 : decode cX8_says 11 = .ok (.dup, 1) := by decide +kernel
theorem dX8_says_12 : decode cX8_says 12 = .ok (.getfield 290, 3) := by decide +kernel
theorem dX8_says_15 : decode cX8_says 15 = .ok (.iconst 1, 1) := by decide +kernel
theorem dX8_says_16 : decode cX8_says 16 = .ok (.iadd, 1) := by decide +kernel
theorem dX8_says_17 : decode cX8_says 17 = .ok (.putfield 290, 3) := by decide +kernel
theorem dX8_says_20 : decode cX8_says 20 = .ok (.return_, 1) := by decide +kernel
theorem dX8_minutes_0 : decode cX8_minutes 0 = .ok (.aload_n 0, 1) := by decide +kernel
theorem dX8_minutes_1 : decode cX8_minutes 1 = .ok (.iconst 0, 1) := by decide +kernel
theorem dX8_minutes_2 : decode cX8_minutes 2 = .ok (.putfield 95, 3) := by decide +kernel
theorem dX8_minutes_5 : decode cX8_minutes 5 = .ok (.aload_n 0, 1) := by decide +kernel
theorem dX8_minutes_6 : decode cX8_minutes 6 = .ok (.iload_n 1, 1) := by decide +kernel
theorem dX8_minutes_7 : decode cX8_minutes 7 = .ok (.invokevirtual 281, 3) := by decide +kernel
theorem dX8_minutes_10 : decode cX8_minutes 10 = .ok (.ifCond .ne 5, 3) := by decide +kernel
theorem dX8_minutes_13 : decode cX8_minutes 13 = .ok (.iconst (-1), 1) := by decide +kernel
theorem dX8_minutes_14 : decode cX8_minutes 14 = .ok (.ireturn, 1) := by decide +kernel
theorem dX8_minutes_15 : decode cX8_minutes 15 = .ok (.aload_n 0, 1) := by decide +kernel
theorem dX8_minutes_16 : decode cX8_minutes 16 = .ok (.iload_n 1, 1) := by decide +kernel
theorem dX8_minutes_17 : decode cX8_minutes 17 = .ok (.invokevirtual 284, 3) := by decide +kernel
theorem dX8_minutes_20 : decode cX8_minutes 20 = .ok (.aload_n 0, 1) := by decide +kernel
theorem dX8_minutes_21 : decode cX8_minutes 21 = .ok (.iconst 0, 1) := by decide +kernel
theorem dX8_minutes_22 : decode cX8_minutes 22 = .ok (.putfield 290, 3) := by decide +kernel
theorem dX8_minutes_25 : decode cX8_minutes 25 = .ok (.iconst 0, 1) := by decide +kernel
theorem dX8_minutes_26 : decode cX8_minutes 26 = .ok (.istore_n 3, 1) := by decide +kernel
theorem dX8_minutes_27 : decode cX8_minutes 27 = .ok (.iload_n 3, 1) := by decide +kernel
theorem dX8_minutes_28 : decode cX8_minutes 28 = .ok (.aload_n 0, 1) := by decide +kernel
theorem dX8_minutes_29 : decode cX8_minutes 29 = .ok (.getfield 253, 3) := by decide +kernel
theorem dX8_minutes_32 : decode cX8_minutes 32 = .ok (.if_icmp .gt 139, 3) := by decide +kernel
theorem dX8_minutes_35 : decode cX8_minutes 35 = .ok (.aload_n 0, 1) := by decide +kernel
theorem dX8_minutes_36 : decode cX8_minutes 36 = .ok (.getfield 79, 3) := by decide +kernel
theorem dX8_minutes_39 : decode cX8_minutes 39 = .ok (.bipush 64, 2) := by decide +kernel
theorem dX8_minutes_41 : decode cX8_minutes 41 = .ok (.iload_n 3, 1) := by decide +kernel
theorem dX8_minutes_42 : decode cX8_minutes 42 = .ok (.imul, 1) := by decide +kernel
theorem dX8_minutes_43 : decode cX8_minutes 43 = .ok (.aload_n 0, 1) := by decide +kernel
theorem dX8_minutes_44 : decode cX8_minutes 44 = .ok (.iload_n 3, 1) := by decide +kernel
theorem dX8_minutes_45 : decode cX8_minutes 45 = .ok (.invokevirtual 287, 3) := by decide +kernel
theorem dX8_minutes_48 : decode cX8_minutes 48 = .ok (.iadd, 1) := by decide +kernel
theorem dX8_minutes_49 : decode cX8_minutes 49 = .ok (.iaload, 1) := by decide +kernel
theorem dX8_minutes_50 : decode cX8_minutes 50 = .ok (.istore 4, 2) := by decide +kernel
theorem dX8_minutes_52 : decode cX8_minutes 52 = .ok (.aload_n 0, 1) := by decide +kernel
theorem dX8_minutes_53 : decode cX8_minutes 53 = .ok (.iload_n 3, 1) := by decide +kernel
theorem dX8_minutes_54 : decode cX8_minutes 54 = .ok (.aload_n 0, 1) := by decide +kernel
theorem dX8_minutes_55 : decode cX8_minutes 55 = .ok (.getfield 253, 3) := by decide +kernel
theorem dX8_minutes_58 : decode cX8_minutes 58 = .ok (.if_icmp .ge 15, 3) := by decide +kernel
theorem dX8_minutes_61 : decode cX8_minutes 61 = .ok (.bipush 48, 2) := by decide +kernel
theorem dX8_minutes_63 : decode cX8_minutes 63 = .ok (.aload_n 0, 1) := by decide +kernel
theorem dX8_minutes_64 : decode cX8_minutes 64 = .ok (.getfield 70, 3) := by decide +kernel
theorem dX8_minutes_67 : decode cX8_minutes 67 = .ok (.iload_n 3, 1) := by decide +kernel
theorem dX8_minutes_68 : decode cX8_minutes 68 = .ok (.iaload, 1) := by decide +kernel
theorem dX8_minutes_69 : decode cX8_minutes 69 = .ok (.iadd, 1) := by decide +kernel
theorem dX8_minutes_70 : decode cX8_minutes 70 = .ok (.goto 5, 3) := by decide +kernel
theorem dX8_minutes_73 : decode cX8_minutes 73 = .ok (.bipush 112, 2) := by decide +kernel
theorem dX8_minutes_75 : decode cX8_minutes 75 = .ok (.invokevirtual 293, 3) := by decide +kernel
theorem dX8_minutes_78 : decode cX8_minutes 78 = .ok (.aload_n 0, 1) := by decide +kernel
theorem dX8_minutes_79 : decode cX8_minutes 79 = .ok (.bipush 58, 2) := by decide +kernel
theorem dX8_minutes_81 : decode cX8_minutes 81 = .ok (.invokevirtual 293, 3) := by decide +kernel
theorem dX8_minutes_84 : decode cX8_minutes 84 = .ok (.aload_n 0, 1) := by decide +kernel
theorem dX8_minutes_85 : decode cX8_minutes 85 = .ok (.bipush 48, 2) := by decide +kernel
theorem dX8_minutes_87 : decode cX8_minutes 87 = .ok (.iload 4, 2) := by decide +kernel
theorem dX8_minutes_89 : decode cX8_minutes 89 = .ok (.iadd, 1) := by decide +kernel
theorem dX8_minutes_90 : decode cX8_minutes 90 = .ok (.invokevirtual 293, 3) := by decide +kernel
theorem dX8_minutes_93 : decode cX8_minutes 93 = .ok (.aload_n 0, 1) := by decide +kernel
theorem dX8_minutes_94 : decode cX8_minutes 94 = .ok (.bipush 45, 2) := by decide +kernel
theorem dX8_minutes_96 : decode cX8_minutes 96 = .ok (.invokevirtual 293, 3) := by decide +kernel
theorem dX8_minutes_99 : decode cX8_minutes 99 = .ok (.aload_n 0, 1) := by decide +kernel
theorem dX8_minutes_100 : decode cX8_minutes 100 = .ok (.bipush 48, 2) := by decide +kernel
theorem dX8_minutes_102 : decode cX8_minutes 102 = .ok (.aload_n 0, 1) := by decide +kernel
theorem dX8_minutes_103 : decode cX8_minutes 103 = .ok (.getfield 7, 3) := by decide +kernel
theorem dX8_minutes_106 : decode cX8_minutes 106 = .ok (.iconst 3, 1) := by decide +kernel
theorem dX8_minutes_107 : decode cX8_minutes 107 = .ok (.iaload, 1) := by decide +kernel
theorem dX8_minutes_108 : decode cX8_minutes 108 = .ok (.iadd, 1) := by decide +kernel
theorem dX8_minutes_109 : decode cX8_minutes 109 = .ok (.iload 4, 2) := by decide +kernel
theorem dX8_minutes_111 : decode cX8_minutes 111 = .ok (.isub, 1) := by decide +kernel
theorem dX8_minutes_112 : decode cX8_minutes 112 = .ok (.invokevirtual 293, 3) := by decide +kernel
theorem dX8_minutes_115 : decode cX8_minutes 115 = .ok (.aload_n 0, 1) := by decide +kernel
theorem dX8_minutes_116 : decode cX8_minutes 116 = .ok (.iload_n 3, 1) := by decide +kernel
theorem dX8_minutes_117 : decode cX8_minutes 117 = .ok (.aload_n 0, 1) := by decide +kernel
theorem dX8_minutes_118 : decode cX8_minutes 118 = .ok (.getfield 253, 3) := by decide +kernel
theorem dX8_minutes_121 : decode cX8_minutes 121 = .ok (.if_icmp .ge 19, 3) := by decide +kernel
theorem dX8_minutes_124 : decode cX8_minutes 124 = .ok (.iconst 2, 1) := by decide +kernel
theorem dX8_minutes_125 : decode cX8_minutes 125 = .ok (.iload 4, 2) := by decide +kernel
theorem dX8_minutes_127 : decode cX8_minutes 127 = .ok (.imul, 1) := by decide +kernel
theorem dX8_minutes_128 : decode cX8_minutes 128 = .ok (.aload_n 0, 1) := by decide +kernel
theorem dX8_minutes_129 : decode cX8_minutes 129 = .ok (.getfield 7, 3) := by decide +kernel
theorem dX8_minutes_132 : decode cX8_minutes 132 = .ok (.iconst 3, 1) := by decide +kernel
theorem dX8_minutes_133 : decode cX8_minutes 133 = .ok (.iaload, 1) := by decide +kernel
theorem dX8_minutes_134 : decode cX8_minutes 134 = .ok (.if_icmp .le 20, 3) := by decide +kernel
theorem dX8_minutes_137 : decode cX8_minutes 137 = .ok (.goto 12, 3) := by decide +kernel
theorem dX8_minutes_140 : decode cX8_minutes 140 = .ok (.iload 4, 2) := by decide +kernel
theorem dX8_minutes_142 : decode cX8_minutes 142 = .ok (.aload_n 0, 1) := by decide +kernel
theorem dX8_minutes_143 : decode cX8_minutes 143 = .ok (.invokevirtual 262, 3) := by decide +kernel
theorem dX8_minutes_146 : decode cX8_minutes 146 = .ok (.if_icmp .lt 8, 3) := by decide +kernel
theorem dX8_minutes_149 : decode cX8_minutes 149 = .ok (.bipush 43, 2) := by decide +kernel
theorem dX8_minutes_151 : decode cX8_minutes 151 = .ok (.goto 5, 3) := by decide +kernel
theorem dX8_minutes_154 : decode cX8_minutes 154 = .ok (.bipush 46, 2) := by decide +kernel
theorem dX8_minutes_156 : decode cX8_minutes 156 = .ok (.invokevirtual 293, 3) := by decide +kernel
theorem dX8_minutes_159 : decode cX8_minutes 159 = .ok (.aload_n 0, 1) := by decide +kernel
theorem dX8_minutes_160 : decode cX8_minutes 160 = .ok (.bipush 59, 2) := by decide +kernel
theorem dX8_minutes_162 : decode cX8_minutes 162 = .ok (.invokevirtual 293, 3) := by decide +kernel
theorem dX8_minutes_165 : decode cX8_minutes 165 = .ok (.iinc 3 1, 3) := by decide +kernel
theorem dX8_minutes_168 : decode cX8_minutes 168 = .ok (.goto (-141), 3) := by decide +kernel
theorem dX8_minutes_171 : decode cX8_minutes 171 = .ok (.iload_n 2, 1) := by decide +kernel
theorem dX8_minutes_172 : decode cX8_minutes 172 = .ok (.iconst (-1), 1) := by decide +kernel
theorem dX8_minutes_173 : decode cX8_minutes 173 = .ok (.if_icmp .ne 10, 3) := by decide +kernel
theorem dX8_minutes_176 : decode cX8_minutes 176 = .ok (.aload_n 0, 1) := by decide +kernel
theorem dX8_minutes_177 : decode cX8_minutes 177 = .ok (.getfield 290, 3) := by decide +kernel
theorem dX8_minutes_180 : decode cX8_minutes 180 = .ok (.goto 27, 3) := by decide +kernel
theorem dX8_minutes_183 : decode cX8_minutes 183 = .ok (.iload_n 2, 1) := by decide +kernel
theorem dX8_minutes_184 : decode cX8_minutes 184 = .ok (.iconst 0, 1) := by decide +kernel
theorem dX8_minutes_185 : decode cX8_minutes 185 = .ok (.aload_n 0, 1) := by decide +kernel
theorem dX8_minutes_186 : decode cX8_minutes 186 = .ok (.getfield 290, 3) := by decide +kernel
theorem dX8_minutes_189 : decode cX8_minutes 189 = .ok (.iconst 1, 1) := by decide +kernel
theorem dX8_minutes_190 : decode cX8_minutes 190 = .ok (.isub, 1) := by decide +kernel
theorem dX8_minutes_191 : decode cX8_minutes 191 = .ok (.invokestatic 106, 3) := by decide +kernel
theorem dX8_minutes_194 : decode cX8_minutes 194 = .ok (.ifCond .eq 12, 3) := by decide +kernel
theorem dX8_minutes_197 : decode cX8_minutes 197 = .ok (.aload_n 0, 1) := by decide +kernel
theorem dX8_minutes_198 : decode cX8_minutes 198 = .ok (.getfield 82, 3) := by decide +kernel
theorem dX8_minutes_201 : decode cX8_minutes 201 = .ok (.iload_n 2, 1) := by decide +kernel
theorem dX8_minutes_202 : decode cX8_minutes 202 = .ok (.iaload, 1) := by decide +kernel
theorem dX8_minutes_203 : decode cX8_minutes 203 = .ok (.goto 4, 3) := by decide +kernel
theorem dX8_minutes_206 : decode cX8_minutes 206 = .ok (.iconst (-1), 1) := by decide +kernel
theorem dX8_minutes_207 : decode cX8_minutes 207 = .ok (.ireturn, 1) := by decide +kernel
theorem dX8_goesWith_0 : decode cX8_goesWith 0 = .ok (.iload_n 1, 1) := by decide +kernel
theorem dX8_goesWith_1 : decode cX8_goesWith 1 = .ok (.iload_n 2, 1) := by decide +kernel
theorem dX8_goesWith_2 : decode cX8_goesWith 2 = .ok (.if_icmp .eq 68, 3) := by decide +kernel
theorem dX8_goesWith_5 : decode cX8_goesWith 5 = .ok (.aload_n 0, 1) := by decide +kernel
theorem dX8_goesWith_6 : decode cX8_goesWith 6 = .ok (.getfield 16, 3) := by decide +kernel
theorem dX8_goesWith_9 : decode cX8_goesWith 9 = .ok (.iload_n 1, 1) := by decide +kernel
theorem dX8_goesWith_10 : decode cX8_goesWith 10 = .ok (.iaload, 1) := by decide +kernel
theorem dX8_goesWith_11 : decode cX8_goesWith 11 = .ok (.iconst 3, 1) := by decide +kernel
theorem dX8_goesWith_12 : decode cX8_goesWith 12 = .ok (.if_icmp .ne 13, 3) := by decide +kernel
theorem dX8_goesWith_15 : decode cX8_goesWith 15 = .ok (.aload_n 0, 1) := by decide +kernel
theorem dX8_goesWith_16 : decode cX8_goesWith 16 = .ok (.getfield 19, 3) := by decide +kernel
theorem dX8_goesWith_19 : decode cX8_goesWith 19 = .ok (.iload_n 1, 1) := by decide +kernel
theorem dX8_goesWith_20 : decode cX8_goesWith 20 = .ok (.iaload, 1) := by decide +kernel
theorem dX8_goesWith_21 : decode cX8_goesWith 21 = .ok (.iload_n 2, 1) := by decide +kernel
theorem dX8_goesWith_22 : decode cX8_goesWith 22 = .ok (.if_icmp .eq 48, 3) := by decide +kernel
theorem dX8_goesWith_25 : decode cX8_goesWith 25 = .ok (.aload_n 0, 1) := by decide +kernel
theorem dX8_goesWith_26 : decode cX8_goesWith 26 = .ok (.getfield 16, 3) := by decide +kernel
theorem dX8_goesWith_29 : decode cX8_goesWith 29 = .ok (.iload_n 2, 1) := by decide +kernel
theorem dX8_goesWith_30 : decode cX8_goesWith 30 = .ok (.iaload, 1) := by decide +kernel
theorem dX8_goesWith_31 : decode cX8_goesWith 31 = .ok (.iconst 1, 1) := by decide +kernel
theorem dX8_goesWith_32 : decode cX8_goesWith 32 = .ok (.if_icmp .ne 42, 3) := by decide +kernel
theorem dX8_goesWith_35 : decode cX8_goesWith 35 = .ok (.aload_n 0, 1) := by decide +kernel
theorem dX8_goesWith_36 : decode cX8_goesWith 36 = .ok (.getfield 16, 3) := by decide +kernel
theorem dX8_goesWith_39 : decode cX8_goesWith 39 = .ok (.iload_n 1, 1) := by decide +kernel
theorem dX8_goesWith_40 : decode cX8_goesWith 40 = .ok (.iaload, 1) := by decide +kernel
theorem dX8_goesWith_41 : decode cX8_goesWith 41 = .ok (.iconst 2, 1) := by decide +kernel
theorem dX8_goesWith_42 : decode cX8_goesWith 42 = .ok (.if_icmp .eq 28, 3) := by decide +kernel
theorem dX8_goesWith_45 : decode cX8_goesWith 45 = .ok (.aload_n 0, 1) := by decide +kernel
theorem dX8_goesWith_46 : decode cX8_goesWith 46 = .ok (.getfield 16, 3) := by decide +kernel
theorem dX8_goesWith_49 : decode cX8_goesWith 49 = .ok (.iload_n 1, 1) := by decide +kernel
theorem dX8_goesWith_50 : decode cX8_goesWith 50 = .ok (.iaload, 1) := by decide +kernel
theorem dX8_goesWith_51 : decode cX8_goesWith 51 = .ok (.iconst 3, 1) := by decide +kernel
theorem dX8_goesWith_52 : decode cX8_goesWith 52 = .ok (.if_icmp .ne 22, 3) := by decide +kernel
theorem dX8_goesWith_55 : decode cX8_goesWith 55 = .ok (.aload_n 0, 1) := by decide +kernel
theorem dX8_goesWith_56 : decode cX8_goesWith 56 = .ok (.getfield 16, 3) := by decide +kernel
theorem dX8_goesWith_59 : decode cX8_goesWith 59 = .ok (.aload_n 0, 1) := by decide +kernel
theorem dX8_goesWith_60 : decode cX8_goesWith 60 = .ok (.getfield 19, 3) := by decide +kernel
theorem dX8_goesWith_63 : decode cX8_goesWith 63 = .ok (.iload_n 1, 1) := by decide +kernel
theorem dX8_goesWith_64 : decode cX8_goesWith 64 = .ok (.iaload, 1) := by decide +kernel
theorem dX8_goesWith_65 : decode cX8_goesWith 65 = .ok (.iaload, 1) := by decide +kernel
theorem dX8_goesWith_66 : decode cX8_goesWith 66 = .ok (.iconst 2, 1) := by decide +kernel
theorem dX8_goesWith_67 : decode cX8_goesWith 67 = .ok (.if_icmp .ne 7, 3) := by decide +kernel
theorem dX8_goesWith_70 : decode cX8_goesWith 70 = .ok (.iconst 1, 1) := by decide +kernel
theorem dX8_goesWith_71 : decode cX8_goesWith 71 = .ok (.goto 4, 3) := by decide +kernel
theorem dX8_goesWith_74 : decode cX8_goesWith 74 = .ok (.iconst 0, 1) := by decide +kernel
theorem dX8_goesWith_75 : decode cX8_goesWith 75 = .ok (.ireturn, 1) := by decide +kernel
theorem dX8_resultWithout_0 : decode cX8_resultWithout 0 = .ok (.iconst 0, 1) := by decide +kernel
theorem dX8_resultWithout_1 : decode cX8_resultWithout 1 = .ok (.istore_n 3, 1) := by decide +kernel
theorem dX8_resultWithout_2 : decode cX8_resultWithout 2 = .ok (.iconst 0, 1) := by decide +kernel
theorem dX8_resultWithout_3 : decode cX8_resultWithout 3 = .ok (.istore 4, 2) := by decide +kernel
theorem dX8_resultWithout_5 : decode cX8_resultWithout 5 = .ok (.iload 4, 2) := by decide +kernel
theorem dX8_resultWithout_7 : decode cX8_resultWithout 7 = .ok (.aload_n 0, 1) := by decide +kernel
theorem dX8_resultWithout_8 : decode cX8_resultWithout 8 = .ok (.getfield 7, 3) := by decide +kernel
theorem dX8_resultWithout_11 : decode cX8_resultWithout 11 = .ok (.iconst 1, 1) := by decide +kernel
theorem dX8_resultWithout_12 : decode cX8_resultWithout 12 = .ok (.iaload, 1) := by decide +kernel
theorem dX8_resultWithout_13 : decode cX8_resultWithout 13 = .ok (.if_icmp .ge 40, 3) := by decide +kernel
theorem dX8_resultWithout_16 : decode cX8_resultWithout 16 = .ok (.aload_n 0, 1) := by decide +kernel
theorem dX8_resultWithout_17 : decode cX8_resultWithout 17 = .ok (.aload_n 0, 1) := by decide +kernel
theorem dX8_resultWithout_18 : decode cX8_resultWithout 18 = .ok (.getfield 64, 3) := by decide +kernel
theorem dX8_resultWithout_21 : decode cX8_resultWithout 21 = .ok (.iload 4, 2) := by decide +kernel
theorem dX8_resultWithout_23 : decode cX8_resultWithout 23 = .ok (.iaload, 1) := by decide +kernel
theorem dX8_resultWithout_24 : decode cX8_resultWithout 24 = .ok (.iload_n 1, 1) := by decide +kernel
theorem dX8_resultWithout_25 : decode cX8_resultWithout 25 = .ok (.invokevirtual 296, 3) := by decide +kernel
theorem dX8_resultWithout_28 : decode cX8_resultWithout 28 = .ok (.ifCond .ne 19, 3) := by decide +kernel
theorem dX8_resultWithout_31 : decode cX8_resultWithout 31 = .ok (.aload_n 0, 1) := by decide +kernel
theorem dX8_resultWithout_32 : decode cX8_resultWithout 32 = .ok (.getfield 70, 3) := by decide +kernel
theorem dX8_resultWithout_35 : decode cX8_resultWithout 35 = .ok (.iload_n 3, 1) := by decide +kernel
theorem dX8_resultWithout_36 : decode cX8_resultWithout 36 = .ok (.aload_n 0, 1) := by decide +kernel
theorem dX8_resultWithout_37 : decode cX8_resultWithout 37 = .ok (.getfield 64, 3) := by decide +kernel
theorem dX8_resultWithout_40 : decode cX8_resultWithout 40 = .ok (.iload 4, 2) := by decide +kernel
theorem dX8_resultWithout_42 : decode cX8_resultWithout 42 = .ok (.iaload, 1) := by decide +kernel
theorem dX8_resultWithout_43 : decode cX8_resultWithout 43 = .ok (.iastore, 1) := by decide +kernel
theorem dX8_resultWithout_44 : decode cX8_resultWithout 44 = .ok (.iinc 3 1, 3) := by decide +kernel
theorem dX8_resultWithout_47 : decode cX8_resultWithout 47 = .ok (.iinc 4 1, 3) := by decide +kernel
theorem dX8_resultWithout_50 : decode cX8_resultWithout 50 = .ok (.goto (-45), 3) := by decide +kernel
theorem dX8_resultWithout_53 : decode cX8_resultWithout 53 = .ok (.aload_n 0, 1) := by decide +kernel
theorem dX8_resultWithout_54 : decode cX8_resultWithout 54 = .ok (.iload_n 3, 1) := by decide +kernel
theorem dX8_resultWithout_55 : decode cX8_resultWithout 55 = .ok (.iload_n 2, 1) := by decide +kernel
theorem dX8_resultWithout_56 : decode cX8_resultWithout 56 = .ok (.invokevirtual 278, 3) := by decide +kernel
theorem dX8_resultWithout_59 : decode cX8_resultWithout 59 = .ok (.aload_n 0, 1) := by decide +kernel
theorem dX8_resultWithout_60 : decode cX8_resultWithout 60 = .ok (.getfield 76, 3) := by decide +kernel
theorem dX8_resultWithout_63 : decode cX8_resultWithout 63 = .ok (.iconst 0, 1) := by decide +kernel
theorem dX8_resultWithout_64 : decode cX8_resultWithout 64 = .ok (.iaload, 1) := by decide +kernel
theorem dX8_resultWithout_65 : decode cX8_resultWithout 65 = .ok (.ireturn, 1) := by decide +kernel
theorem dX8_isMotion_0 : decode cX8_isMotion 0 = .ok (.iload_n 1, 1) := by decide +kernel
theorem dX8_isMotion_1 : decode cX8_isMotion 1 = .ok (.iconst 0, 1) := by decide +kernel
theorem dX8_isMotion_2 : decode cX8_isMotion 2 = .ok (.aload_n 0, 1) := by decide +kernel
theorem dX8_isMotion_3 : decode cX8_isMotion 3 = .ok (.getfield 7, 3) := by decide +kernel
theorem dX8_isMotion_6 : decode cX8_isMotion 6 = .ok (.iconst 1, 1) := by decide +kernel
theorem dX8_isMotion_7 : decode cX8_isMotion 7 = .ok (.iaload, 1) := by decide +kernel
theorem dX8_isMotion_8 : decode cX8_isMotion 8 = .ok (.iconst 1, 1) := by decide +kernel
theorem dX8_isMotion_9 : decode cX8_isMotion 9 = .ok (.isub, 1) := by decide +kernel
theorem dX8_isMotion_10 : decode cX8_isMotion 10 = .ok (.invokestatic 106, 3) := by decide +kernel
theorem dX8_isMotion_13 : decode cX8_isMotion 13 = .ok (.ireturn, 1) := by decide +kernel
theorem dX8_without_0 : decode cX8_without 0 = .ok (.aload_n 0, 1) := by decide +kernel
theorem dX8_without_1 : decode cX8_without 1 = .ok (.iconst 0, 1) := by decide +kernel
theorem dX8_without_2 : decode cX8_without 2 = .ok (.putfield 95, 3) := by decide +kernel
theorem dX8_without_5 : decode cX8_without 5 = .ok (.aload_n 0, 1) := by decide +kernel
theorem dX8_without_6 : decode cX8_without 6 = .ok (.iload_n 1, 1) := by decide +kernel
theorem dX8_without_7 : decode cX8_without 7 = .ok (.invokevirtual 299, 3) := by decide +kernel
theorem dX8_without_10 : decode cX8_without 10 = .ok (.ifCond .eq 11, 3) := by decide +kernel
theorem dX8_without_13 : decode cX8_without 13 = .ok (.aload_n 0, 1) := by decide +kernel
theorem dX8_without_14 : decode cX8_without 14 = .ok (.iload_n 2, 1) := by decide +kernel
theorem dX8_without_15 : decode cX8_without 15 = .ok (.invokevirtual 281, 3) := by decide +kernel
theorem dX8_without_18 : decode cX8_without 18 = .ok (.ifCond .ne 5, 3) := by decide +kernel
theorem dX8_without_21 : decode cX8_without 21 = .ok (.iconst (-1), 1) := by decide +kernel
theorem dX8_without_22 : decode cX8_without 22 = .ok (.ireturn, 1) := by decide +kernel
theorem dX8_without_23 : decode cX8_without 23 = .ok (.aload_n 0, 1) := by decide +kernel
theorem dX8_without_24 : decode cX8_without 24 = .ok (.invokevirtual 272, 3) := by decide +kernel
theorem dX8_without_27 : decode cX8_without 27 = .ok (.aload_n 0, 1) := by decide +kernel
theorem dX8_without_28 : decode cX8_without 28 = .ok (.iload_n 1, 1) := by decide +kernel
theorem dX8_without_29 : decode cX8_without 29 = .ok (.iload_n 2, 1) := by decide +kernel
theorem dX8_without_30 : decode cX8_without 30 = .ok (.invokevirtual 302, 3) := by decide +kernel
theorem dX8_without_33 : decode cX8_without 33 = .ok (.ireturn, 1) := by decide +kernel
theorem dX8_killers_0 : decode cX8_killers 0 = .ok (.aload_n 0, 1) := by decide +kernel
theorem dX8_killers_1 : decode cX8_killers 1 = .ok (.iconst 0, 1) := by decide +kernel
theorem dX8_killers_2 : decode cX8_killers 2 = .ok (.putfield 95, 3) := by decide +kernel
theorem dX8_killers_5 : decode cX8_killers 5 = .ok (.aload_n 0, 1) := by decide +kernel
theorem dX8_killers_6 : decode cX8_killers 6 = .ok (.iload_n 1, 1) := by decide +kernel
theorem dX8_killers_7 : decode cX8_killers 7 = .ok (.invokevirtual 281, 3) := by decide +kernel
theorem dX8_killers_10 : decode cX8_killers 10 = .ok (.ifCond .ne 5, 3) := by decide +kernel
theorem dX8_killers_13 : decode cX8_killers 13 = .ok (.iconst (-1), 1) := by decide +kernel
theorem dX8_killers_14 : decode cX8_killers 14 = .ok (.ireturn, 1) := by decide +kernel
theorem dX8_killers_15 : decode cX8_killers 15 = .ok (.aload_n 0, 1) := by decide +kernel
theorem dX8_killers_16 : decode cX8_killers 16 = .ok (.iload_n 1, 1) := by decide +kernel
theorem dX8_killers_17 : decode cX8_killers 17 = .ok (.invokevirtual 284, 3) := by decide +kernel
theorem dX8_killers_20 : decode cX8_killers 20 = .ok (.iconst 0, 1) := by decide +kernel
theorem dX8_killers_21 : decode cX8_killers 21 = .ok (.istore_n 2, 1) := by decide +kernel
theorem dX8_killers_22 : decode cX8_killers 22 = .ok (.aload_n 0, 1) := by decide +kernel
theorem dX8_killers_23 : decode cX8_killers 23 = .ok (.getfield 76, 3) := by decide +kernel
theorem dX8_killers_26 : decode cX8_killers 26 = .ok (.iconst 0, 1) := by decide +kernel
theorem dX8_killers_27 : decode cX8_killers 27 = .ok (.iaload, 1) := by decide +kernel
theorem dX8_killers_28 : decode cX8_killers 28 = .ok (.ifCond .eq 5, 3) := by decide +kernel
theorem dX8_killers_31 : decode cX8_killers 31 = .ok (.iconst 0, 1) := by decide +kernel
theorem dX8_killers_32 : decode cX8_killers 32 = .ok (.ireturn, 1) := by decide +kernel
theorem dX8_killers_33 : decode cX8_killers 33 = .ok (.iconst 0, 1) := by decide +kernel
theorem dX8_killers_34 : decode cX8_killers 34 = .ok (.istore_n 3, 1) := by decide +kernel
theorem dX8_killers_35 : decode cX8_killers 35 = .ok (.iload_n 3, 1) := by decide +kernel
theorem dX8_killers_36 : decode cX8_killers 36 = .ok (.aload_n 0, 1) := by decide +kernel
theorem dX8_killers_37 : decode cX8_killers 37 = .ok (.getfield 7, 3) := by decide +kernel
theorem dX8_killers_40 : decode cX8_killers 40 = .ok (.iconst 1, 1) := by decide +kernel
theorem dX8_killers_41 : decode cX8_killers 41 = .ok (.iaload, 1) := by decide +kernel
theorem dX8_killers_42 : decode cX8_killers 42 = .ok (.if_icmp .ge 28, 3) := by decide +kernel
theorem dX8_killers_45 : decode cX8_killers 45 = .ok (.iload_n 2, 1) := by decide +kernel
theorem dX8_killers_46 : decode cX8_killers 46 = .ok (.aload_n 0, 1) := by decide +kernel
theorem dX8_killers_47 : decode cX8_killers 47 = .ok (.iload_n 3, 1) := by decide +kernel
theorem dX8_killers_48 : decode cX8_killers 48 = .ok (.iload_n 1, 1) := by decide +kernel
theorem dX8_killers_49 : decode cX8_killers 49 = .ok (.invokevirtual 302, 3) := by decide +kernel
theorem dX8_killers_52 : decode cX8_killers 52 = .ok (.ifCond .eq 9, 3) := by decide +kernel
theorem dX8_killers_55 : decode cX8_killers 55 = .ok (.iconst 1, 1) := by decide +kernel
theorem dX8_killers_56 : decode cX8_killers 56 = .ok (.iload_n 3, 1) := by decide +kernel
theorem dX8_killers_57 : decode cX8_killers 57 = .ok (.ishl, 1) := by decide +kernel
theorem dX8_killers_58 : decode cX8_killers 58 = .ok (.goto 4, 3) := by decide +kernel
theorem dX8_killers_61 : decode cX8_killers 61 = .ok (.iconst 0, 1) := by decide +kernel
theorem dX8_killers_62 : decode cX8_killers 62 = .ok (.ior, 1) := by decide +kernel
theorem dX8_killers_63 : decode cX8_killers 63 = .ok (.istore_n 2, 1) := by decide +kernel
theorem dX8_killers_64 : decode cX8_killers 64 = .ok (.iinc 3 1, 3) := by decide +kernel
theorem dX8_killers_67 : decode cX8_killers 67 = .ok (.goto (-32), 3) := by decide +kernel
theorem dX8_killers_70 : decode cX8_killers 70 = .ok (.iload_n 2, 1) := by decide +kernel
theorem dX8_killers_71 : decode cX8_killers 71 = .ok (.ireturn, 1) := by decide +kernel
theorem dX8_isVoter_0 : decode cX8_isVoter 0 = .ok (.iload_n 1, 1) := by decide +kernel
theorem dX8_isVoter_1 : decode cX8_isVoter 1 = .ok (.iconst 0, 1) := by decide +kernel
theorem dX8_isVoter_2 : decode cX8_isVoter 2 = .ok (.aload_n 0, 1) := by decide +kernel
theorem dX8_isVoter_3 : decode cX8_isVoter 3 = .ok (.getfield 7, 3) := by decide +kernel
theorem dX8_isVoter_6 : decode cX8_isVoter 6 = .ok (.iconst 3, 1) := by decide +kernel
theorem dX8_isVoter_7 : decode cX8_isVoter 7 = .ok (.iaload, 1) := by decide +kernel
