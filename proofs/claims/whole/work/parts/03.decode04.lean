theorem dX8_comes_20 : decode cX8_comes 20 = .ok (.iload 5, 2) := by decide +kernel
theorem dX8_comes_22 : decode cX8_comes 22 = .ok (.iload_n 2, 1) := by decide +kernel
theorem dX8_comes_23 : decode cX8_comes 23 = .ok (.iastore, 1) := by decide +kernel
theorem dX8_comes_24 : decode cX8_comes 24 = .ok (.aload_n 0, 1) := by decide +kernel
theorem dX8_comes_25 : decode cX8_comes 25 = .ok (.getfield 34, 3) := by decide +kernel
theorem dX8_comes_28 : decode cX8_comes 28 = .ok (.iload 5, 2) := by decide +kernel
theorem dX8_comes_30 : decode cX8_comes 30 = .ok (.iload_n 3, 1) := by decide +kernel
theorem dX8_comes_31 : decode cX8_comes 31 = .ok (.iastore, 1) := by decide +kernel
theorem dX8_comes_32 : decode cX8_comes 32 = .ok (.aload_n 0, 1) := by decide +kernel
theorem dX8_comes_33 : decode cX8_comes 33 = .ok (.getfield 37, 3) := by decide +kernel
theorem dX8_comes_36 : decode cX8_comes 36 = .ok (.iload 5, 2) := by decide +kernel
theorem dX8_comes_38 : decode cX8_comes 38 = .ok (.iload 4, 2) := by decide +kernel
theorem dX8_comes_40 : decode cX8_comes 40 = .ok (.iastore, 1) := by decide +kernel
theorem dX8_comes_41 : decode cX8_comes 41 = .ok (.aload_n 0, 1) := by decide +kernel
theorem dX8_comes_42 : decode cX8_comes 42 = .ok (.getfield 13, 3) := by decide +kernel
theorem dX8_comes_45 : decode cX8_comes 45 = .ok (.iconst 1, 1) := by decide +kernel
theorem dX8_comes_46 : decode cX8_comes 46 = .ok (.dup2, 1) := by decide +kernel
theorem dX8_comes_47 : decode cX8_comes 47 = .ok (.iaload, 1) := by decide +kernel
theorem dX8_comes_48 : decode cX8_comes 48 = .ok (.iconst 1, 1) := by decide +kernel
theorem dX8_comes_49 : decode cX8_comes 49 = .ok (.iadd, 1) := by decide +kernel
theorem dX8_comes_50 : decode cX8_comes 50 = .ok (.iastore, 1) := by decide +kernel
theorem dX8_comes_51 : decode cX8_comes 51 = .ok (.return_, 1) := by decide +kernel
theorem dX8_readSub_0 : decode cX8_readSub 0 = .ok (.aload_n 0, 1) := by decide +kernel
theorem dX8_readSub_1 : decode cX8_readSub 1 = .ok (.getfield 13, 3) := by decide +kernel
theorem dX8_readSub_4 : decode cX8_readSub 4 = .ok (.iconst 2, 1) := by decide +kernel
theorem dX8_readSub_5 : decode cX8_readSub 5 = .ok (.iaload, 1) := by decide +kernel
theorem dX8_readSub_6 : decode cX8_readSub 6 = .ok (.iconst (-1), 1) := by decide +kernel
theorem dX8_readSub_7 : decode cX8_readSub 7 = .ok (.if_icmp .eq 10, 3) := by decide +kernel
theorem dX8_readSub_10 : decode cX8_readSub 10 = .ok (.aload_n 0, 1) := by decide +kernel
theorem dX8_readSub_11 : decode cX8_readSub 11 = .ok (.iconst 3, 1) := by decide +kernel
theorem dX8_readSub_12 : decode cX8_readSub 12 = .ok (.iload_n 1, 1) := by decide +kernel
theorem dX8_readSub_13 : decode cX8_readSub 13 = .ok (.invokevirtual 137, 3) := by decide +kernel
theorem dX8_readSub_16 : decode cX8_readSub 16 = .ok (.ireturn, 1) := by decide +kernel
theorem dX8_readSub_17 : decode cX8_readSub 17 = .ok (.aload_n 0, 1) := by decide +kernel
theorem dX8_readSub_18 : decode cX8_readSub 18 = .ok (.getfield 13, 3) := by decide +kernel
theorem dX8_readSub_21 : decode cX8_readSub 21 = .ok (.iconst 1, 1) := by decide +kernel
theorem dX8_readSub_22 : decode cX8_readSub 22 = .ok (.iaload, 1) := by decide +kernel
theorem dX8_readSub_23 : decode cX8_readSub 23 = .ok (.bipush 6, 2) := by decide +kernel
theorem dX8_readSub_25 : decode cX8_readSub 25 = .ok (.if_icmp .ne 10, 3) := by decide +kernel
theorem dX8_readSub_28 : decode cX8_readSub 28 = .ok (.aload_n 0, 1) := by decide +kernel
theorem dX8_readSub_29 : decode cX8_readSub 29 = .ok (.iconst 4, 1) := by decide +kernel
theorem dX8_readSub_30 : decode cX8_readSub 30 = .ok (.iload_n 1, 1) := by decide +kernel
theorem dX8_readSub_31 : decode cX8_readSub 31 = .ok (.invokevirtual 137, 3) := by decide +kernel
theorem dX8_readSub_34 : decode cX8_readSub 34 = .ok (.ireturn, 1) := by decide +kernel
theorem dX8_readSub_35 : decode cX8_readSub 35 = .ok (.aload_n 0, 1) := by decide +kernel
theorem dX8_readSub_36 : decode cX8_readSub 36 = .ok (.iconst 1, 1) := by decide +kernel
theorem dX8_readSub_37 : decode cX8_readSub 37 = .ok (.invokevirtual 158, 3) := by decide +kernel
theorem dX8_readSub_40 : decode cX8_readSub 40 = .ok (.ifCond .ne 5, 3) := by decide +kernel
theorem dX8_readSub_43 : decode cX8_readSub 43 = .ok (.iconst 0, 1) := by decide +kernel
theorem dX8_readSub_44 : decode cX8_readSub 44 = .ok (.ireturn, 1) := by decide +kernel
theorem dX8_readSub_45 : decode cX8_readSub 45 = .ok (.aload_n 0, 1) := by decide +kernel
theorem dX8_readSub_46 : decode cX8_readSub 46 = .ok (.getfield 13, 3) := by decide +kernel
theorem dX8_readSub_49 : decode cX8_readSub 49 = .ok (.iconst 2, 1) := by decide +kernel
theorem dX8_readSub_50 : decode cX8_readSub 50 = .ok (.aload_n 0, 1) := by decide +kernel
theorem dX8_readSub_51 : decode cX8_readSub 51 = .ok (.getfield 13, 3) := by decide +kernel
theorem dX8_readSub_54 : decode cX8_readSub 54 = .ok (.iconst 1, 1) := by decide +kernel
theorem dX8_readSub_55 : decode cX8_readSub 55 = .ok (.iaload, 1) := by decide +kernel
theorem dX8_readSub_56 : decode cX8_readSub 56 = .ok (.iastore, 1) := by decide +kernel
theorem dX8_readSub_57 : decode cX8_readSub 57 = .ok (.aload_n 0, 1) := by decide +kernel
theorem dX8_readSub_58 : decode cX8_readSub 58 = .ok (.iconst 1, 1) := by decide +kernel
theorem dX8_readSub_59 : decode cX8_readSub 59 = .ok (.iconst (-1), 1) := by decide +kernel
theorem dX8_readSub_60 : decode cX8_readSub 60 = .ok (.aload_n 0, 1) := by decide +kernel
theorem dX8_readSub_61 : decode cX8_readSub 61 = .ok (.getfield 123, 3) := by decide +kernel
theorem dX8_readSub_64 : decode cX8_readSub 64 = .ok (.iconst 0, 1) := by decide +kernel
theorem dX8_readSub_65 : decode cX8_readSub 65 = .ok (.invokevirtual 162, 3) := by decide +kernel
theorem dX8_readSub_68 : decode cX8_readSub 68 = .ok (.iconst 1, 1) := by decide +kernel
theorem dX8_readSub_69 : decode cX8_readSub 69 = .ok (.ireturn, 1) := by decide +kernel
theorem dX8_readOf_0 : decode cX8_readOf 0 = .ok (.aload_n 0, 1) := by decide +kernel
theorem dX8_readOf_1 : decode cX8_readOf 1 = .ok (.iconst (-1), 1) := by decide +kernel
theorem dX8_readOf_2 : decode cX8_readOf 2 = .ok (.putfield 166, 3) := by decide +kernel
theorem dX8_readOf_5 : decode cX8_readOf 5 = .ok (.aload_n 0, 1) := by decide +kernel
theorem dX8_readOf_6 : decode cX8_readOf 6 = .ok (.invokevirtual 143, 3) := by decide +kernel
theorem dX8_readOf_9 : decode cX8_readOf 9 = .ok (.ifCond .eq 76, 3) := by decide +kernel
theorem dX8_readOf_12 : decode cX8_readOf 12 = .ok (.aload_n 0, 1) := by decide +kernel
theorem dX8_readOf_13 : decode cX8_readOf 13 = .ok (.invokevirtual 147, 3) := by decide +kernel
theorem dX8_readOf_16 : decode cX8_readOf 16 = .ok (.lstore_n 1, 1) := by decide +kernel
theorem dX8_readOf_17 : decode cX8_readOf 17 = .ok (.lload_n 1, 1) := by decide +kernel
theorem dX8_readOf_18 : decode cX8_readOf 18 = .ok (.ldc2_w 169, 3) := by decide +kernel
theorem dX8_readOf_21 : decode cX8_readOf 21 = .ok (.lcmp, 1) := by decide +kernel
theorem dX8_readOf_22 : decode cX8_readOf 22 = .ok (.ifCond .ne 10, 3) := by decide +kernel
theorem dX8_readOf_25 : decode cX8_readOf 25 = .ok (.aload_n 0, 1) := by decide +kernel
theorem dX8_readOf_26 : decode cX8_readOf 26 = .ok (.iconst 0, 1) := by decide +kernel
theorem dX8_readOf_27 : decode cX8_readOf 27 = .ok (.putfield 171, 3) := by decide +kernel
theorem dX8_readOf_30 : decode cX8_readOf 30 = .ok (.iconst 1, 1) := by decide +kernel
theorem dX8_readOf_31 : decode cX8_readOf 31 = .ok (.ireturn, 1) := by decide +kernel
theorem dX8_readOf_32 : decode cX8_readOf 32 = .ok (.aload_n 0, 1) := by decide +kernel
theorem dX8_readOf_33 : decode cX8_readOf 33 = .ok (.iconst 2, 1) := by decide +kernel
theorem dX8_readOf_34 : decode cX8_readOf 34 = .ok (.putfield 171, 3) := by decide +kernel
theorem dX8_readOf_37 : decode cX8_readOf 37 = .ok (.lload_n 1, 1) := by decide +kernel
theorem dX8_readOf_38 : decode cX8_readOf 38 = .ok (.ldc2_w 174, 3) := by decide +kernel
theorem dX8_readOf_41 : decode cX8_readOf 41 = .ok (.lcmp, 1) := by decide +kernel
theorem dX8_readOf_42 : decode cX8_readOf 42 = .ok (.ifCond .ne 33, 3) := by decide +kernel
theorem dX8_readOf_45 : decode cX8_readOf 45 = .ok (.aload_n 0, 1) := by decide +kernel
theorem dX8_readOf_46 : decode cX8_readOf 46 = .ok (.getfield 13, 3) := by decide +kernel
theorem dX8_readOf_49 : decode cX8_readOf 49 = .ok (.iconst 2, 1) := by decide +kernel
theorem dX8_readOf_50 : decode cX8_readOf 50 = .ok (.iaload, 1) := by decide +kernel
theorem dX8_readOf_51 : decode cX8_readOf 51 = .ok (.iconst (-1), 1) := by decide +kernel
theorem dX8_readOf_52 : decode cX8_readOf 52 = .ok (.if_icmp .ne 15, 3) := by decide +kernel
theorem dX8_readOf_55 : decode cX8_readOf 55 = .ok (.aload_n 0, 1) := by decide +kernel
theorem dX8_readOf_56 : decode cX8_readOf 56 = .ok (.iconst 3, 1) := by decide +kernel
theorem dX8_readOf_57 : decode cX8_readOf 57 = .ok (.aload_n 0, 1) := by decide +kernel
theorem dX8_readOf_58 : decode cX8_readOf 58 = .ok (.getfield 126, 3) := by decide +kernel
theorem dX8_readOf_61 : decode cX8_readOf 61 = .ok (.invokevirtual 137, 3) := by decide +kernel
theorem dX8_readOf_64 : decode cX8_readOf 64 = .ok (.ifCond .eq 7, 3) := by decide +kernel
theorem dX8_readOf_67 : decode cX8_readOf 67 = .ok (.iconst 1, 1) := by decide +kernel
theorem dX8_readOf_68 : decode cX8_readOf 68 = .ok (.goto 16, 3) := by decide +kernel
theorem dX8_readOf_71 : decode cX8_readOf 71 = .ok (.iconst 0, 1) := by decide +kernel
theorem dX8_readOf_72 : decode cX8_readOf 72 = .ok (.goto 12, 3) := by decide +kernel
theorem dX8_readOf_75 : decode cX8_readOf 75 = .ok (.aload_n 0, 1) := by decide +kernel
theorem dX8_readOf_76 : decode cX8_readOf 76 = .ok (.iconst 1, 1) := by decide +kernel
theorem dX8_readOf_77 : decode cX8_readOf 77 = .ok (.aload_n 0, 1) := by decide +kernel
theorem dX8_readOf_78 : decode cX8_readOf 78 = .ok (.getfield 126, 3) := by decide +kernel
theorem dX8_readOf_81 : decode cX8_readOf 81 = .ok (.invokevirtual 137, 3) := by decide +kernel
theorem dX8_readOf_84 : decode cX8_readOf 84 = .ok (.ireturn, 1) := by decide +kernel
theorem dX8_readOf_85 : decode cX8_readOf 85 = .ok (.aload_n 0, 1) := by decide +kernel
theorem dX8_readOf_86 : decode cX8_readOf 86 = .ok (.getfield 110, 3) := by decide +kernel
theorem dX8_readOf_89 : decode cX8_readOf 89 = .ok (.istore_n 1, 1) := by decide +kernel
theorem dX8_readOf_90 : decode cX8_readOf 90 = .ok (.aload_n 0, 1) := by decide +kernel
theorem dX8_readOf_91 : decode cX8_readOf 91 = .ok (.iconst 0, 1) := by decide +kernel
theorem dX8_readOf_92 : decode cX8_readOf 92 = .ok (.aload_n 0, 1) := by decide +kernel
theorem dX8_readOf_93 : decode cX8_readOf 93 = .ok (.getfield 13, 3) := by decide +kernel
theorem dX8_readOf_96 : decode cX8_readOf 96 = .ok (.iconst 1, 1) := by decide +kernel
theorem dX8_readOf_97 : decode cX8_readOf 97 = .ok (.iaload, 1) := by decide +kernel
theorem dX8_readOf_98 : decode cX8_readOf 98 = .ok (.iconst 1, 1) := by decide +kernel
theorem dX8_readOf_99 : decode cX8_readOf 99 = .ok (.isub, 1) := by decide +kernel
theorem dX8_readOf_100 : decode cX8_readOf 100 = .ok (.invokevirtual 151, 3) := by decide +kernel
theorem dX8_readOf_103 : decode cX8_readOf 103 = .ok (.ifCond .ne 5, 3) := by decide +kernel
theorem dX8_readOf_106 : decode cX8_readOf 106 = .ok (.iconst 0, 1) := by decide +kernel
theorem dX8_readOf_107 : decode cX8_readOf 107 = .ok (.ireturn, 1) := by decide +kernel
theorem dX8_readOf_108 : decode cX8_readOf 108 = .ok (.aload_n 0, 1) := by decide +kernel
theorem dX8_readOf_109 : decode cX8_readOf 109 = .ok (.iconst 3, 1) := by decide +kernel
theorem dX8_readOf_110 : decode cX8_readOf 110 = .ok (.putfield 171, 3) := by decide +kernel
theorem dX8_readOf_113 : decode cX8_readOf 113 = .ok (.aload_n 0, 1) := by decide +kernel
theorem dX8_readOf_114 : decode cX8_readOf 114 = .ok (.aload_n 0, 1) := by decide +kernel
theorem dX8_readOf_115 : decode cX8_readOf 115 = .ok (.getfield 140, 3) := by decide +kernel
theorem dX8_readOf_118 : decode cX8_readOf 118 = .ok (.putfield 166, 3) := by decide +kernel
theorem dX8_readOf_121 : decode cX8_readOf 121 = .ok (.aload_n 0, 1) := by decide +kernel
theorem dX8_readOf_122 : decode cX8_readOf 122 = .ok (.getfield 28, 3) := by decide +kernel
theorem dX8_readOf_125 : decode cX8_readOf 125 = .ok (.aload_n 0, 1) := by decide +kernel
theorem dX8_readOf_126 : decode cX8_readOf 126 = .ok (.getfield 140, 3) := by decide +kernel
theorem dX8_readOf_129 : decode cX8_readOf 129 = .ok (.iaload, 1) := by decide +kernel
theorem dX8_readOf_130 : decode cX8_readOf 130 = .ok (.ifCond .eq 25, 3) := by decide +kernel
theorem dX8_readOf_133 : decode cX8_readOf 133 = .ok (.aload_n 0, 1) := by decide +kernel
theorem dX8_readOf_134 : decode cX8_readOf 134 = .ok (.getfield 28, 3) := by decide +kernel
theorem dX8_readOf_137 : decode cX8_readOf 137 = .ok (.aload_n 0, 1) := by decide +kernel
theorem dX8_readOf_138 : decode cX8_readOf 138 = .ok (.getfield 140, 3) := by decide +kernel
theorem dX8_readOf_141 : decode cX8_readOf 141 = .ok (.iaload, 1) := by decide +kernel
theorem dX8_readOf_142 : decode cX8_readOf 142 = .ok (.iconst 2, 1) := by decide +kernel
theorem dX8_readOf_143 : decode cX8_readOf 143 = .ok (.if_icmp .eq 12, 3) := by decide +kernel
theorem dX8_readOf_146 : decode cX8_readOf 146 = .ok (.aload_n 0, 1) := by decide +kernel
theorem dX8_readOf_147 : decode cX8_readOf 147 = .ok (.iconst 2, 1) := by decide +kernel
theorem dX8_readOf_148 : decode cX8_readOf 148 = .ok (.iload_n 1, 1) := by decide +kernel
theorem dX8_readOf_149 : decode cX8_readOf 149 = .ok (.invokevirtual 137, 3) := by decide +kernel
theorem dX8_readOf_152 : decode cX8_readOf 152 = .ok (.ifCond .eq 7, 3) := by decide +kernel
theorem dX8_readOf_155 : decode cX8_readOf 155 = .ok (.iconst 1, 1) := by decide +kernel
theorem dX8_readOf_156 : decode cX8_readOf 156 = .ok (.goto 4, 3) := by decide +kernel
theorem dX8_readOf_159 : decode cX8_readOf 159 = .ok (.iconst 0, 1) := by decide +kernel
theorem dX8_readOf_160 : decode cX8_readOf 160 = .ok (.ireturn, 1) := by decide +kernel
theorem dX8_readAmend_0 : decode cX8_readAmend 0 = .ok (.aload_n 0, 1) := by decide +kernel
theorem dX8_readAmend_1 : decode cX8_readAmend 1 = .ok (.getfield 13, 3) := by decide +kernel
theorem dX8_readAmend_4 : decode cX8_readAmend 4 = .ok (.iconst 1, 1) := by decide +kernel
theorem dX8_readAmend_5 : decode cX8_readAmend 5 = .ok (.iaload, 1) := by decide +kernel
theorem dX8_readAmend_6 : decode cX8_readAmend 6 = .ok (.bipush 6, 2) := by decide +kernel
theorem dX8_readAmend_8 : decode cX8_readAmend 8 = .ok (.if_icmp .ne 10, 3) := by decide +kernel
theorem dX8_readAmend_11 : decode cX8_readAmend 11 = .ok (.aload_n 0, 1) := by decide +kernel
theorem dX8_readAmend_12 : decode cX8_readAmend 12 = .ok (.iconst 4, 1) := by decide +kernel
theorem dX8_readAmend_13 : decode cX8_readAmend 13 = .ok (.iload_n 1, 1) := by decide +kernel
theorem dX8_readAmend_14 : decode cX8_readAmend 14 = .ok (.invokevirtual 137, 3) := by decide +kernel
theorem dX8_readAmend_17 : decode cX8_readAmend 17 = .ok (.ireturn, 1) := by decide +kernel
theorem dX8_readAmend_18 : decode cX8_readAmend 18 = .ok (.aload_n 0, 1) := by decide +kernel
theorem dX8_readAmend_19 : decode cX8_readAmend 19 = .ok (.invokevirtual 176, 3) := by decide +kernel
theorem dX8_readAmend_22 : decode cX8_readAmend 22 = .ok (.ifCond .ne 5, 3) := by decide +kernel
theorem dX8_readAmend_25 : decode cX8_readAmend 25 = .ok (.iconst 0, 1) := by decide +kernel
theorem dX8_readAmend_26 : decode cX8_readAmend 26 = .ok (.ireturn, 1) := by decide +kernel
theorem dX8_readAmend_27 : decode cX8_readAmend 27 = .ok (.iconst 0, 1) := by decide +kernel
theorem dX8_readAmend_28 : decode cX8_readAmend 28 = .ok (.istore_n 2, 1) := by decide +kernel
theorem dX8_readAmend_29 : decode cX8_readAmend 29 = .ok (.iconst 0, 1) := by decide +kernel
theorem dX8_readAmend_30 : decode cX8_readAmend 30 = .ok (.istore_n 3, 1) := by decide +kernel
theorem dX8_readAmend_31 : decode cX8_readAmend 31 = .ok (.iconst 0, 1) := by decide +kernel
theorem dX8_readAmend_32 : decode cX8_readAmend 32 = .ok (.istore 4, 2) := by decide +kernel
theorem dX8_readAmend_34 : decode cX8_readAmend 34 = .ok (.aload_n 0, 1) := by decide +kernel
theorem dX8_readAmend_35 : decode cX8_readAmend 35 = .ok (.invokevirtual 116, 3) := by decide +kernel
theorem dX8_readAmend_38 : decode cX8_readAmend 38 = .ok (.bipush 43, 2) := by decide +kernel
theorem dX8_readAmend_40 : decode cX8_readAmend 40 = .ok (.if_icmp .ne 31, 3) := by decide +kernel
theorem dX8_readAmend_43 : decode cX8_readAmend 43 = .ok (.aload_n 0, 1) := by decide +kernel
theorem dX8_readAmend_44 : decode cX8_readAmend 44 = .ok (.dup, 1) := by decide +kernel
theorem dX8_readAmend_45 : decode cX8_readAmend 45 = .ok (.getfield 110, 3) := by decide +kernel
theorem dX8_readAmend_48 : decode cX8_readAmend 48 = .ok (.iconst 1, 1) := by decide +kernel
theorem dX8_readAmend_49 : decode cX8_readAmend 49 = .ok (.iadd, 1) := by decide +kernel
theorem dX8_readAmend_50 : decode cX8_readAmend 50 = .ok (.putfield 110, 3) := by decide +kernel
theorem dX8_readAmend_53 : decode cX8_readAmend 53 = .ok (.aload_n 0, 1) := by decide +kernel
theorem dX8_readAmend_54 : decode cX8_readAmend 54 = .ok (.iconst 1, 1) := by decide +kernel
theorem dX8_readAmend_55 : decode cX8_readAmend 55 = .ok (.invokevirtual 158, 3) := by decide +kernel
theorem dX8_readAmend_58 : decode cX8_readAmend 58 = .ok (.ifCond .ne 5, 3) := by decide +kernel
theorem dX8_readAmend_61 : decode cX8_readAmend 61 = .ok (.iconst 0, 1) := by decide +kernel
theorem dX8_readAmend_62 : decode cX8_readAmend 62 = .ok (.ireturn, 1) := by decide +kernel
theorem dX8_readAmend_63 : decode cX8_readAmend 63 = .ok (.aload_n 0, 1) := by decide +kernel
theorem dX8_readAmend_64 : decode cX8_readAmend 64 = .ok (.getfield 123, 3) := by decide +kernel
theorem dX8_readAmend_67 : decode cX8_readAmend 67 = .ok (.istore_n 2, 1) := by decide +kernel
theorem dX8_readAmend_68 : decode cX8_readAmend 68 = .ok (.iconst 1, 1) := by decide +kernel
theorem dX8_readAmend_69 : decode cX8_readAmend 69 = .ok (.istore 4, 2) := by decide +kernel
theorem dX8_readAmend_71 : decode cX8_readAmend 71 = .ok (.aload_n 0, 1) := by decide +kernel
theorem dX8_readAmend_72 : decode cX8_readAmend 72 = .ok (.invokevirtual 116, 3) := by decide +kernel
theorem dX8_readAmend_75 : decode cX8_readAmend 75 = .ok (.bipush 45, 2) := by decide +kernel
theorem dX8_readAmend_77 : decode cX8_readAmend 77 = .ok (.if_icmp .ne 31, 3) := by decide +kernel
theorem dX8_readAmend_80 : decode cX8_readAmend 80 = .ok (.aload_n 0, 1) := by decide +kernel
theorem dX8_readAmend_81 : decode cX8_readAmend 81 = .ok (.dup, 1) := by decide +kernel
theorem dX8_readAmend_82 : decode cX8_readAmend 82 = .ok (.getfield 110, 3) := by decide +kernel
theorem dX8_readAmend_85 : decode cX8_readAmend 85 = .ok (.iconst 1, 1) := by decide +kernel
theorem dX8_readAmend_86 : decode cX8_readAmend 86 = .ok (.iadd, 1) := by decide +kernel
theorem dX8_readAmend_87 : decode cX8_readAmend 87 = .ok (.putfield 110, 3) := by decide +kernel
theorem dX8_readAmend_90 : decode cX8_readAmend 90 = .ok (.aload_n 0, 1) := by decide +kernel
theorem dX8_readAmend_91 : decode cX8_readAmend 91 = .ok (.iconst 1, 1) := by decide +kernel
theorem dX8_readAmend_92 : decode cX8_readAmend 92 = .ok (.invokevirtual 158, 3) := by decide +kernel
theorem dX8_readAmend_95 : decode cX8_readAmend 95 = .ok (.ifCond .ne 5, 3) := by decide +kernel
theorem dX8_readAmend_98 : decode cX8_readAmend 98 = .ok (.iconst 0, 1) := by decide +kernel
theorem dX8_readAmend_99 : decode cX8_readAmend 99 = .ok (.ireturn, 1) := by decide +kernel
theorem dX8_readAmend_100 : decode cX8_readAmend 100 = .ok (.aload_n 0, 1) := by decide +kernel
theorem dX8_readAmend_101 : decode cX8_readAmend 101 = .ok (.getfield 123, 3) := by decide +kernel
theorem dX8_readAmend_104 : decode cX8_readAmend 104 = .ok (.istore_n 3, 1) := by decide +kernel
theorem dX8_readAmend_105 : decode cX8_readAmend 105 = .ok (.iconst 1, 1) := by decide +kernel
theorem dX8_readAmend_106 : decode cX8_readAmend 106 = .ok (.istore 4, 2) := by decide +kernel
theorem dX8_readAmend_108 : decode cX8_readAmend 108 = .ok (.iload 4, 2) := by decide +kernel
theorem dX8_readAmend_110 : decode cX8_readAmend 110 = .ok (.ifCond .ne 13, 3) := by decide +kernel
theorem dX8_readAmend_113 : decode cX8_readAmend 113 = .ok (.aload_n 0, 1) := by decide +kernel
theorem dX8_readAmend_114 : decode cX8_readAmend 114 = .ok (.iconst 1, 1) := by decide +kernel
theorem dX8_readAmend_115 : decode cX8_readAmend 115 = .ok (.aload_n 0, 1) := by decide +kernel
theorem dX8_readAmend_116 : decode cX8_readAmend 116 = .ok (.getfield 110, 3) := by decide +kernel
theorem dX8_readAmend_119 : decode cX8_readAmend 119 = .ok (.invokevirtual 137, 3) := by decide +kernel
theorem dX8_readAmend_122 : decode cX8_readAmend 122 = .ok (.ireturn, 1) := by decide +kernel
theorem dX8_readAmend_123 : decode cX8_readAmend 123 = .ok (.aload_n 0, 1) := by decide +kernel
theorem dX8_readAmend_124 : decode cX8_readAmend 124 = .ok (.aload_n 0, 1) := by decide +kernel
theorem dX8_readAmend_125 : decode cX8_readAmend 125 = .ok (.getfield 171, 3) := by decide +kernel
theorem dX8_readAmend_128 : decode cX8_readAmend 128 = .ok (.aload_n 0, 1) := by decide +kernel
theorem dX8_readAmend_129 : decode cX8_readAmend 129 = .ok (.getfield 171, 3) := by decide +kernel
theorem dX8_readAmend_132 : decode cX8_readAmend 132 = .ok (.iconst 2, 1) := by decide +kernel
theorem dX8_readAmend_133 : decode cX8_readAmend 133 = .ok (.if_icmp .ne 12, 3) := by decide +kernel
theorem dX8_readAmend_136 : decode cX8_readAmend 136 = .ok (.aload_n 0, 1) := by decide +kernel
theorem dX8_readAmend_137 : decode cX8_readAmend 137 = .ok (.getfield 13, 3) := by decide +kernel
theorem dX8_readAmend_140 : decode cX8_readAmend 140 = .ok (.iconst 2, 1) := by decide +kernel
theorem dX8_readAmend_141 : decode cX8_readAmend 141 = .ok (.iaload, 1) := by decide +kernel
theorem dX8_readAmend_142 : decode cX8_readAmend 142 = .ok (.goto 7, 3) := by decide +kernel
theorem dX8_readAmend_145 : decode cX8_readAmend 145 = .ok (.aload_n 0, 1) := by decide +kernel
theorem dX8_readAmend_146 : decode cX8_readAmend 146 = .ok (.getfield 166, 3) := by decide +kernel
theorem dX8_readAmend_149 : decode cX8_readAmend 149 = .ok (.iload_n 2, 1) := by decide +kernel
theorem dX8_readAmend_150 : decode cX8_readAmend 150 = .ok (.iload_n 3, 1) := by decide +kernel
theorem dX8_readAmend_151 : decode cX8_readAmend 151 = .ok (.invokevirtual 162, 3) := by decide +kernel
theorem dX8_readAmend_154 : decode cX8_readAmend 154 = .ok (.iconst 1, 1) := by decide +kernel
theorem dX8_readAmend_155 : decode cX8_readAmend 155 = .ok (.ireturn, 1) := by decide +kernel
theorem dX8_readVoter_0 : decode cX8_readVoter 0 = .ok (.aload_n 0, 1) := by decide +kernel
theorem dX8_readVoter_1 : decode cX8_readVoter 1 = .ok (.getfield 13, 3) := by decide +kernel
theorem dX8_readVoter_4 : decode cX8_readVoter 4 = .ok (.iconst 3, 1) := by decide +kernel
theorem dX8_readVoter_5 : decode cX8_readVoter 5 = .ok (.iaload, 1) := by decide +kernel
theorem dX8_readVoter_6 : decode cX8_readVoter 6 = .ok (.istore_n 2, 1) := by decide +kernel
theorem dX8_readVoter_7 : decode cX8_readVoter 7 = .ok (.iload_n 2, 1) := by decide +kernel
theorem dX8_readVoter_8 : decode cX8_readVoter 8 = .ok (.bipush 9, 2) := by decide +kernel
theorem dX8_readVoter_10 : decode cX8_readVoter 10 = .ok (.if_icmp .ne 10, 3) := by decide +kernel
theorem dX8_readVoter_13 : decode cX8_readVoter 13 = .ok (.aload_n 0, 1) := by decide +kernel
theorem dX8_readVoter_14 : decode cX8_readVoter 14 = .ok (.iconst 4, 1) := by decide +kernel
theorem dX8_readVoter_15 : decode cX8_readVoter 15 = .ok (.iload_n 1, 1) := by decide +kernel
theorem dX8_readVoter_16 : decode cX8_readVoter 16 = .ok (.invokevirtual 137, 3) := by decide +kernel
theorem dX8_readVoter_19 : decode cX8_readVoter 19 = .ok (.ireturn, 1) := by decide +kernel
theorem dX8_readVoter_20 : decode cX8_readVoter 20 = .ok (.iconst 0, 1) := by decide +kernel
theorem dX8_readVoter_21 : decode cX8_readVoter 21 = .ok (.istore_n 3, 1) := by decide +kernel
theorem dX8_readVoter_22 : decode cX8_readVoter 22 = .ok (.iconst 0, 1) := by decide +kernel
theorem dX8_readVoter_23 : decode cX8_readVoter 23 = .ok (.istore 4, 2) := by decide +kernel
theorem dX8_readVoter_25 : decode cX8_readVoter 25 = .ok (.iload 4, 2) := by decide +kernel
theorem dX8_readVoter_27 : decode cX8_readVoter 27 = .ok (.bipush 8, 2) := by decide +kernel
theorem dX8_readVoter_29 : decode cX8_readVoter 29 = .ok (.if_icmp .ge 22, 3) := by decide +kernel
theorem dX8_readVoter_32 : decode cX8_readVoter 32 = .ok (.aload_n 0, 1) := by decide +kernel
theorem dX8_readVoter_33 : decode cX8_readVoter 33 = .ok (.getfield 43, 3) := by decide +kernel
theorem dX8_readVoter_36 : decode cX8_readVoter 36 = .ok (.bipush 8, 2) := by decide +kernel
theorem dX8_readVoter_38 : decode cX8_readVoter 38 = .ok (.iload_n 2, 1) := by decide +kernel
theorem dX8_readVoter_39 : decode cX8_readVoter 39 = .ok (.imul, 1) := by decide +kernel
theorem dX8_readVoter_40 : decode cX8_readVoter 40 = .ok (.iload 4, 2) := by decide +kernel
theorem dX8_readVoter_42 : decode cX8_readVoter 42 = .ok (.iadd, 1) := by decide +kernel
theorem dX8_readVoter_43 : decode cX8_readVoter 43 = .ok (.iconst 0, 1) := by decide +kernel
theorem dX8_readVoter_44 : decode cX8_readVoter 44 = .ok (.iastore, 1) := by decide +kernel
theorem dX8_readVoter_45 : decode cX8_readVoter 45 = .ok (.iinc 4 1, 3) := by decide +kernel
theorem dX8_readVoter_48 : decode cX8_readVoter 48 = .ok (.goto (-23), 3) := by decide +kernel
theorem dX8_readVoter_51 : decode cX8_readVoter 51 = .ok (.aload_n 0, 1) := by decide +kernel
theorem dX8_readVoter_52 : decode cX8_readVoter 52 = .ok (.invokevirtual 143, 3) := by decide +kernel
theorem dX8_readVoter_55 : decode cX8_readVoter 55 = .ok (.ifCond .eq 101, 3) := by decide +kernel
theorem dX8_readVoter_58 : decode cX8_readVoter 58 = .ok (.aload_n 0, 1) := by decide +kernel
theorem dX8_readVoter_59 : decode cX8_readVoter 59 = .ok (.invokevirtual 147, 3) := by decide +kernel
theorem dX8_readVoter_62 : decode cX8_readVoter 62 = .ok (.pop2, 1) := by decide +kernel
theorem dX8_readVoter_63 : decode cX8_readVoter 63 = .ok (.aload_n 0, 1) := by decide +kernel
theorem dX8_readVoter_64 : decode cX8_readVoter 64 = .ok (.getfield 123, 3) := by decide +kernel
theorem dX8_readVoter_67 : decode cX8_readVoter 67 = .ok (.ifCond .lt 11, 3) := by decide +kernel
theorem dX8_readVoter_70 : decode cX8_readVoter 70 = .ok (.aload_n 0, 1) := by decide +kernel
theorem dX8_readVoter_71 : decode cX8_readVoter 71 = .ok (.getfield 120, 3) := by decide +kernel
theorem dX8_readVoter_74 : decode cX8_readVoter 74 = .ok (.iconst 1, 1) := by decide +kernel
theorem dX8_readVoter_75 : decode cX8_readVoter 75 = .ok (.if_icmp .eq 13, 3) := by decide +kernel
theorem dX8_readVoter_78 : decode cX8_readVoter 78 = .ok (.aload_n 0, 1) := by decide +kernel
theorem dX8_readVoter_79 : decode cX8_readVoter 79 = .ok (.iconst 1, 1) := by decide +kernel
theorem dX8_readVoter_80 : decode cX8_readVoter 80 = .ok (.aload_n 0, 1) := by decide +kernel
theorem dX8_readVoter_81 : decode cX8_readVoter 81 = .ok (.getfield 126, 3) := by decide +kernel
theorem dX8_readVoter_84 : decode cX8_readVoter 84 = .ok (.invokevirtual 137, 3) := by decide +kernel
theorem dX8_readVoter_87 : decode cX8_readVoter 87 = .ok (.ireturn, 1) := by decide +kernel
theorem dX8_readVoter_88 : decode cX8_readVoter 88 = .ok (.iload_n 3, 1) := by decide +kernel
theorem dX8_readVoter_89 : decode cX8_readVoter 89 = .ok (.aload_n 0, 1) := by decide +kernel
theorem dX8_readVoter_90 : decode cX8_readVoter 90 = .ok (.getfield 123, 3) := by decide +kernel
theorem dX8_readVoter_93 : decode cX8_readVoter 93 = .ok (.iand, 1) := by decide +kernel
theorem dX8_readVoter_94 : decode cX8_readVoter 94 = .ok (.ifCond .eq 13, 3) := by decide +kernel
theorem dX8_readVoter_97 : decode cX8_readVoter 97 = .ok (.aload_n 0, 1) := by decide +kernel
theorem dX8_readVoter_98 : decode cX8_readVoter 98 = .ok (.iconst 3, 1) := by decide +kernel
theorem dX8_readVoter_99 : decode cX8_readVoter 99 = .ok (.aload_n 0, 1) := by decide +kernel
theorem dX8_readVoter_100 : decode cX8_readVoter 100 = .ok (.getfield 126, 3) := by decide +kernel
theorem dX8_readVoter_103 : decode cX8_readVoter 103 = .ok (.invokevirtual 137, 3) := by decide +kernel
theorem dX8_readVoter_106 : decode cX8_readVoter 106 = .ok (.ireturn, 1) := by decide +kernel
theorem dX8_readVoter_107 : decode cX8_readVoter 107 = .ok (.aload_n 0, 1) := by decide +kernel
theorem dX8_readVoter_108 : decode cX8_readVoter 108 = .ok (.getfield 67, 3) := by decide +kernel
theorem dX8_readVoter_111 : decode cX8_readVoter 111 = .ok (.aload_n 0, 1) := by decide +kernel
theorem dX8_readVoter_112 : decode cX8_readVoter 112 = .ok (.getfield 126, 3) := by decide +kernel
theorem dX8_readVoter_115 : decode cX8_readVoter 115 = .ok (.iaload, 1) := by decide +kernel
theorem dX8_readVoter_116 : decode cX8_readVoter 116 = .ok (.bipush 97, 2) := by decide +kernel
theorem dX8_readVoter_118 : decode cX8_readVoter 118 = .ok (.isub, 1) := by decide +kernel
theorem dX8_readVoter_119 : decode cX8_readVoter 119 = .ok (.istore 4, 2) := by decide +kernel
theorem dX8_readVoter_121 : decode cX8_readVoter 121 = .ok (.iload_n 3, 1) := by decide +kernel
theorem dX8_readVoter_122 : decode cX8_readVoter 122 = .ok (.aload_n 0, 1) := by decide +kernel
theorem dX8_readVoter_123 : decode cX8_readVoter 123 = .ok (.getfield 123, 3) := by decide +kernel
theorem dX8_readVoter_126 : decode cX8_readVoter 126 = .ok (.ior, 1) := by decide +kernel
theorem dX8_readVoter_127 : decode cX8_readVoter 127 = .ok (.istore_n 3, 1) := by decide +kernel
theorem dX8_readVoter_128 : decode cX8_readVoter 128 = .ok (.aload_n 0, 1) := by decide +kernel
theorem dX8_readVoter_129 : decode cX8_readVoter 129 = .ok (.invokevirtual 179, 3) := by decide +kernel
theorem dX8_readVoter_132 : decode cX8_readVoter 132 = .ok (.ifCond .ne 5, 3) := by decide +kernel
theorem dX8_readVoter_135 : decode cX8_readVoter 135 = .ok (.iconst 0, 1) := by decide +kernel
theorem dX8_readVoter_136 : decode cX8_readVoter 136 = .ok (.ireturn, 1) := by decide +kernel
theorem dX8_readVoter_137 : decode cX8_readVoter 137 = .ok (.aload_n 0, 1) := by decide +kernel
theorem dX8_readVoter_138 : decode cX8_readVoter 138 = .ok (.getfield 43, 3) := by decide +kernel
theorem dX8_readVoter_141 : decode cX8_readVoter 141 = .ok (.bipush 8, 2) := by decide +kernel
theorem dX8_readVoter_143 : decode cX8_readVoter 143 = .ok (.iload_n 2, 1) := by decide +kernel
theorem dX8_readVoter_144 : decode cX8_readVoter 144 = .ok (.imul, 1) := by decide +kernel
theorem dX8_readVoter_145 : decode cX8_readVoter 145 = .ok (.iload 4, 2) := by decide +kernel
theorem dX8_readVoter_147 : decode cX8_readVoter 147 = .ok (.iadd, 1) := by decide +kernel
theorem dX8_readVoter_148 : decode cX8_readVoter 148 = .ok (.aload_n 0, 1) := by decide +kernel
theorem dX8_readVoter_149 : decode cX8_readVoter 149 = .ok (.getfield 140, 3) := by decide +kernel
theorem dX8_readVoter_152 : decode cX8_readVoter 152 = .ok (.iastore, 1) := by decide +kernel
theorem dX8_readVoter_153 : decode cX8_readVoter 153 = .ok (.goto (-102), 3) := by decide +kernel
theorem dX8_readVoter_156 : decode cX8_readVoter 156 = .ok (.aload_n 0, 1) := by decide +kernel
theorem dX8_readVoter_157 : decode cX8_readVoter 157 = .ok (.getfield 13, 3) := by decide +kernel
theorem dX8_readVoter_160 : decode cX8_readVoter 160 = .ok (.iconst 3, 1) := by decide +kernel
theorem dX8_readVoter_161 : decode cX8_readVoter 161 = .ok (.dup2, 1) := by decide +kernel
theorem dX8_readVoter_162 : decode cX8_readVoter 162 = .ok (.iaload, 1) := by decide +kernel
theorem dX8_readVoter_163 : decode cX8_readVoter 163 = .ok (.iconst 1, 1) := by decide +kernel
theorem dX8_readVoter_164 : decode cX8_readVoter 164 = .ok (.iadd, 1) := by decide +kernel
theorem dX8_readVoter_165 : decode cX8_readVoter 165 = .ok (.iastore, 1) := by decide +kernel
theorem dX8_readVoter_166 : decode cX8_readVoter 166 = .ok (.iconst 1, 1) := by decide +kernel
theorem dX8_readVoter_167 : decode cX8_readVoter 167 = .ok (.ireturn, 1) := by decide +kernel
theorem dX8_readJoint_0 : decode cX8_readJoint 0 = .ok (.aload_n 0, 1) := by decide +kernel
theorem dX8_readJoint_1 : decode cX8_readJoint 1 = .ok (.getfield 13, 3) := by decide +kernel
theorem dX8_readJoint_4 : decode cX8_readJoint 4 = .ok (.iconst 4, 1) := by decide +kernel
theorem dX8_readJoint_5 : decode cX8_readJoint 5 = .ok (.iaload, 1) := by decide +kernel
theorem dX8_readJoint_6 : decode cX8_readJoint 6 = .ok (.istore_n 2, 1) := by decide +kernel
theorem dX8_readJoint_7 : decode cX8_readJoint 7 = .ok (.iload_n 2, 1) := by decide +kernel
theorem dX8_readJoint_8 : decode cX8_readJoint 8 = .ok (.bipush 6, 2) := by decide +kernel
theorem dX8_readJoint_10 : decode cX8_readJoint 10 = .ok (.if_icmp .ne 10, 3) := by decide +kernel
theorem dX8_readJoint_13 : decode cX8_readJoint 13 = .ok (.aload_n 0, 1) := by decide +kernel
theorem dX8_readJoint_14 : decode cX8_readJoint 14 = .ok (.iconst 4, 1) := by decide +kernel
theorem dX8_readJoint_15 : decode cX8_readJoint 15 = .ok (.iload_n 1, 1) := by decide +kernel
theorem dX8_readJoint_16 : decode cX8_readJoint 16 = .ok (.invokevirtual 137, 3) := by decide +kernel
theorem dX8_readJoint_19 : decode cX8_readJoint 19 = .ok (.ireturn, 1) := by decide +kernel
theorem dX8_readJoint_20 : decode cX8_readJoint 20 = .ok (.aload_n 0, 1) := by decide +kernel
theorem dX8_readJoint_21 : decode cX8_readJoint 21 = .ok (.iconst 0, 1) := by decide +kernel
theorem dX8_readJoint_22 : decode cX8_readJoint 22 = .ok (.aload_n 0, 1) := by decide +kernel
theorem dX8_readJoint_23 : decode cX8_readJoint 23 = .ok (.getfield 13, 3) := by decide +kernel
theorem dX8_readJoint_26 : decode cX8_readJoint 26 = .ok (.iconst 3, 1) := by decide +kernel
theorem dX8_readJoint_27 : decode cX8_readJoint 27 = .ok (.iaload, 1) := by decide +kernel
theorem dX8_readJoint_28 : decode cX8_readJoint 28 = .ok (.iconst 1, 1) := by decide +kernel
theorem dX8_readJoint_29 : decode cX8_readJoint 29 = .ok (.isub, 1) := by decide +kernel
theorem dX8_readJoint_30 : decode cX8_readJoint 30 = .ok (.invokevirtual 151, 3) := by decide +kernel
theorem dX8_readJoint_33 : decode cX8_readJoint 33 = .ok (.ifCond .ne 5, 3) := by decide +kernel
theorem dX8_readJoint_36 : decode cX8_readJoint 36 = .ok (.iconst 0, 1) := by decide +kernel
theorem dX8_readJoint_37 : decode cX8_readJoint 37 = .ok (.ireturn, 1) := by decide +kernel
theorem dX8_readJoint_38 : decode cX8_readJoint 38 = .ok (.aload_n 0, 1) := by decide +kernel
theorem dX8_readJoint_39 : decode cX8_readJoint 39 = .ok (.getfield 55, 3) := by decide +kernel
theorem dX8_readJoint_42 : decode cX8_readJoint 42 = .ok (.iload_n 2, 1) := by decide +kernel
theorem dX8_readJoint_43 : decode cX8_readJoint 43 = .ok (.aload_n 0, 1) := by decide +kernel
theorem dX8_readJoint_44 : decode cX8_readJoint 44 = .ok (.getfield 140, 3) := by decide +kernel
theorem dX8_readJoint_47 : decode cX8_readJoint 47 = .ok (.iastore, 1) := by decide +kernel
theorem dX8_readJoint_48 : decode cX8_readJoint 48 = .ok (.aload_n 0, 1) := by decide +kernel
theorem dX8_readJoint_49 : decode cX8_readJoint 49 = .ok (.iconst 2, 1) := by decide +kernel
theorem dX8_readJoint_50 : decode cX8_readJoint 50 = .ok (.invokevirtual 158, 3) := by decide +kernel
theorem dX8_readJoint_53 : decode cX8_readJoint 53 = .ok (.ifCond .ne 5, 3) := by decide +kernel
theorem dX8_readJoint_56 : decode cX8_readJoint 56 = .ok (.iconst 0, 1) := by decide +kernel
theorem dX8_readJoint_57 : decode cX8_readJoint 57 = .ok (.ireturn, 1) := by decide +kernel
theorem dX8_readJoint_58 : decode cX8_readJoint 58 = .ok (.aload_n 0, 1) := by decide +kernel
theorem dX8_readJoint_59 : decode cX8_readJoint 59 = .ok (.getfield 58, 3) := by decide +kernel
theorem dX8_readJoint_62 : decode cX8_readJoint 62 = .ok (.iload_n 2, 1) := by decide +kernel
theorem dX8_readJoint_63 : decode cX8_readJoint 63 = .ok (.aload_n 0, 1) := by decide +kernel
theorem dX8_readJoint_64 : decode cX8_readJoint 64 = .ok (.getfield 123, 3) := by decide +kernel
theorem dX8_readJoint_67 : decode cX8_readJoint 67 = .ok (.iastore, 1) := by decide +kernel
theorem dX8_readJoint_68 : decode cX8_readJoint 68 = .ok (.aload_n 0, 1) := by decide +kernel
theorem dX8_readJoint_69 : decode cX8_readJoint 69 = .ok (.invokevirtual 179, 3) := by decide +kernel
theorem dX8_readJoint_72 : decode cX8_readJoint 72 = .ok (.ifCond .ne 5, 3) := by decide +kernel
theorem dX8_readJoint_75 : decode cX8_readJoint 75 = .ok (.iconst 0, 1) := by decide +kernel
theorem dX8_readJoint_76 : decode cX8_readJoint 76 = .ok (.ireturn, 1) := by decide +kernel
theorem dX8_readJoint_77 : decode cX8_readJoint 77 = .ok (.aload_n 0, 1) := by decide +kernel
theorem dX8_readJoint_78 : decode cX8_readJoint 78 = .ok (.getfield 61, 3) := by decide +kernel
theorem dX8_readJoint_81 : decode cX8_readJoint 81 = .ok (.iload_n 2, 1) := by decide +kernel
theorem dX8_readJoint_82 : decode cX8_readJoint 82 = .ok (.aload_n 0, 1) := by decide +kernel
theorem dX8_readJoint_83 : decode cX8_readJoint 83 = .ok (.getfield 140, 3) := by decide +kernel
theorem dX8_readJoint_86 : decode cX8_readJoint 86 = .ok (.iastore, 1) := by decide +kernel
theorem dX8_readJoint_87 : decode cX8_readJoint 87 = .ok (.aload_n 0, 1) := by decide +kernel
theorem dX8_readJoint_88 : decode cX8_readJoint 88 = .ok (.getfield 13, 3) := by decide +kernel
theorem dX8_readJoint_91 : decode cX8_readJoint 91 = .ok (.iconst 4, 1) := by decide +kernel
theorem dX8_readJoint_92 : decode cX8_readJoint 92 = .ok (.dup2, 1) := by decide +kernel
theorem dX8_readJoint_93 : decode cX8_readJoint 93 = .ok (.iaload, 1) := by decide +kernel
theorem dX8_readJoint_94 : decode cX8_readJoint 94 = .ok (.iconst 1, 1) := by decide +kernel
theorem dX8_readJoint_95 : decode cX8_readJoint 95 = .ok (.iadd, 1) := by decide +kernel
theorem dX8_readJoint_96 : decode cX8_readJoint 96 = .ok (.iastore, 1) := by decide +kernel
theorem dX8_readJoint_97 : decode cX8_readJoint 97 = .ok (.iconst 1, 1) := by decide +kernel
theorem dX8_readJoint_98 : decode cX8_readJoint 98 = .ok (.ireturn, 1) := by decide +kernel
theorem dX8_readQuota_0 : decode cX8_readQuota 0 = .ok (.aload_n 0, 1) := by decide +kernel
theorem dX8_readQuota_1 : decode cX8_readQuota 1 = .ok (.getfield 13, 3) := by decide +kernel
theorem dX8_readQuota_4 : decode cX8_readQuota 4 = .ok (.iconst 5, 1) := by decide +kernel
theorem dX8_readQuota_5 : decode cX8_readQuota 5 = .ok (.iaload, 1) := by decide +kernel
theorem dX8_readQuota_6 : decode cX8_readQuota 6 = .ok (.ifCond .le 10, 3) := by decide +kernel
theorem dX8_readQuota_9 : decode cX8_readQuota 9 = .ok (.aload_n 0, 1) := by decide +kernel
theorem dX8_readQuota_10 : decode cX8_readQuota 10 = .ok (.iconst 3, 1) := by decide +kernel
theorem dX8_readQuota_11 : decode cX8_readQuota 11 = .ok (.iload_n 1, 1) := by decide +kernel
theorem dX8_readQuota_12 : decode cX8_readQuota 12 = .ok (.invokevirtual 137, 3) := by decide +kernel
theorem dX8_readQuota_15 : decode cX8_readQuota 15 = .ok (.ireturn, 1) := by decide +kernel
theorem dX8_readQuota_16 : decode cX8_readQuota 16 = .ok (.aload_n 0, 1) := by decide +kernel
theorem dX8_readQuota_17 : decode cX8_readQuota 17 = .ok (.iconst 1, 1) := by decide +kernel
theorem dX8_readQuota_18 : decode cX8_readQuota 18 = .ok (.bipush 9, 2) := by decide +kernel
theorem dX8_readQuota_20 : decode cX8_readQuota 20 = .ok (.invokevirtual 151, 3) := by decide +kernel
theorem dX8_readQuota_23 : decode cX8_readQuota 23 = .ok (.ifCond .ne 5, 3) := by decide +kernel
theorem dX8_readQuota_26 : decode cX8_readQuota 26 = .ok (.iconst 0, 1) := by decide +kernel
theorem dX8_readQuota_27 : decode cX8_readQuota 27 = .ok (.ireturn, 1) := by decide +kernel
theorem dX8_readQuota_28 : decode cX8_readQuota 28 = .ok (.aload_n 0, 1) := by decide +kernel
theorem dX8_readQuota_29 : decode cX8_readQuota 29 = .ok (.getfield 13, 3) := by decide +kernel
theorem dX8_readQuota_32 : decode cX8_readQuota 32 = .ok (.iconst 5, 1) := by decide +kernel
theorem dX8_readQuota_33 : decode cX8_readQuota 33 = .ok (.aload_n 0, 1) := by decide +kernel
theorem dX8_readQuota_34 : decode cX8_readQuota 34 = .ok (.getfield 140, 3) := by decide +kernel
theorem dX8_readQuota_37 : decode cX8_readQuota 37 = .ok (.iastore, 1) := by decide +kernel
theorem dX8_readQuota_38 : decode cX8_readQuota 38 = .ok (.iconst 1, 1) := by decide +kernel
theorem dX8_readQuota_39 : decode cX8_readQuota 39 = .ok (.ireturn, 1) := by decide +kernel
theorem dX8_readStatement_0 : decode cX8_readStatement 0 = .ok (.aload_n 0, 1) := by decide +kernel
theorem dX8_readStatement_1 : decode cX8_readStatement 1 = .ok (.invokevirtual 143, 3) := by decide +kernel
theorem dX8_readStatement_4 : decode cX8_readStatement 4 = .ok (.ifCond .ne 13, 3) := by decide +kernel
theorem dX8_readStatement_7 : decode cX8_readStatement 7 = .ok (.aload_n 0, 1) := by decide +kernel
theorem dX8_readStatement_8 : decode cX8_readStatement 8 = .ok (.iconst 1, 1) := by decide +kernel
theorem dX8_readStatement_9 : decode cX8_readStatement 9 = .ok (.aload_n 0, 1) := by decide +kernel
theorem dX8_readStatement_10 : decode cX8_readStatement 10 = .ok (.getfield 110, 3) := by decide +kernel
theorem dX8_readStatement_13 : decode cX8_readStatement 13 = .ok (.invokevirtual 137, 3) := by decide +kernel
theorem dX8_readStatement_16 : decode cX8_readStatement 16 = .ok (.ireturn, 1) := by decide +kernel
theorem dX8_readStatement_17 : decode cX8_readStatement 17 = .ok (.aload_n 0, 1) := by decide +kernel
theorem dX8_readStatement_18 : decode cX8_readStatement 18 = .ok (.invokevirtual 147, 3) := by decide +kernel
theorem dX8_readStatement_21 : decode cX8_readStatement 21 = .ok (.lstore_n 1, 1) := by decide +kernel
theorem dX8_readStatement_22 : decode cX8_readStatement 22 = .ok (.aload_n 0, 1) := by decide +kernel
theorem dX8_readStatement_23 : decode cX8_readStatement 23 = .ok (.getfield 126, 3) := by decide +kernel
theorem dX8_readStatement_26 : decode cX8_readStatement 26 = .ok (.istore_n 3, 1) := by decide +kernel
theorem dX8_readStatement_27 : decode cX8_readStatement 27 = .ok (.lload_n 1, 1) := by decide +kernel
theorem dX8_readStatement_28 : decode cX8_readStatement 28 = .ok (.ldc2_w 169, 3) := by decide +kernel
theorem dX8_readStatement_31 : decode cX8_readStatement 31 = .ok (.lcmp, 1) := by decide +kernel
theorem dX8_readStatement_32 : decode cX8_readStatement 32 = .ok (.ifCond .ne 9, 3) := by decide +kernel
theorem dX8_readStatement_35 : decode cX8_readStatement 35 = .ok (.aload_n 0, 1) := by decide +kernel
theorem dX8_readStatement_36 : decode cX8_readStatement 36 = .ok (.iload_n 3, 1) := by decide +kernel
theorem dX8_readStatement_37 : decode cX8_readStatement 37 = .ok (.invokevirtual 182, 3) := by decide +kernel
theorem dX8_readStatement_40 : decode cX8_readStatement 40 = .ok (.ireturn, 1) := by decide +kernel
theorem dX8_readStatement_41 : decode cX8_readStatement 41 = .ok (.lload_n 1, 1) := by decide +kernel
theorem dX8_readStatement_42 : decode cX8_readStatement 42 = .ok (.ldc2_w 185, 3) := by decide +kernel
theorem dX8_readStatement_45 : decode cX8_readStatement 45 = .ok (.lcmp, 1) := by decide +kernel
theorem dX8_readStatement_46 : decode cX8_readStatement 46 = .ok (.ifCond .ne 9, 3) := by decide +kernel
theorem dX8_readStatement_49 : decode cX8_readStatement 49 = .ok (.aload_n 0, 1) := by decide +kernel
theorem dX8_readStatement_50 : decode cX8_readStatement 50 = .ok (.iload_n 3, 1) := by decide +kernel
theorem dX8_readStatement_51 : decode cX8_readStatement 51 = .ok (.invokevirtual 187, 3) := by decide +kernel
theorem dX8_readStatement_54 : decode cX8_readStatement 54 = .ok (.ireturn, 1) := by decide +kernel
theorem dX8_readStatement_55 : decode cX8_readStatement 55 = .ok (.lload_n 1, 1) := by decide +kernel
theorem dX8_readStatement_56 : decode cX8_readStatement 56 = .ok (.ldc2_w 174, 3) := by decide +kernel
theorem dX8_readStatement_59 : decode cX8_readStatement 59 = .ok (.lcmp, 1) := by decide +kernel
theorem dX8_readStatement_60 : decode cX8_readStatement 60 = .ok (.ifCond .ne 9, 3) := by decide +kernel
theorem dX8_readStatement_63 : decode cX8_readStatement 63 = .ok (.aload_n 0, 1) := by decide +kernel
theorem dX8_readStatement_64 : decode cX8_readStatement 64 = .ok (.iload_n 3, 1) := by decide +kernel
theorem dX8_readStatement_65 : decode cX8_readStatement 65 = .ok (.invokevirtual 190, 3) := by decide +kernel
theorem dX8_readStatement_68 : decode cX8_readStatement 68 = .ok (.ireturn, 1) := by decide +kernel
theorem dX8_readStatement_69 : decode cX8_readStatement 69 = .ok (.lload_n 1, 1) := by decide +kernel
theorem dX8_readStatement_70 : decode cX8_readStatement 70 = .ok (.ldc2_w 193, 3) := by decide +kernel
theorem dX8_readStatement_73 : decode cX8_readStatement 73 = .ok (.lcmp, 1) := by decide +kernel
theorem dX8_readStatement_74 : decode cX8_readStatement 74 = .ok (.ifCond .ne 9, 3) := by decide +kernel
theorem dX8_readStatement_77 : decode cX8_readStatement 77 = .ok (.aload_n 0, 1) := by decide +kernel
theorem dX8_readStatement_78 : decode cX8_readStatement 78 = .ok (.iload_n 3, 1) := by decide +kernel
theorem dX8_readStatement_79 : decode cX8_readStatement 79 = .ok (.invokevirtual 195, 3) := by decide +kernel
theorem dX8_readStatement_82 : decode cX8_readStatement 82 = .ok (.ireturn, 1) := by decide +kernel
theorem dX8_readStatement_83 : decode cX8_readStatement 83 = .ok (.lload_n 1, 1) := by decide +kernel
theorem dX8_readStatement_84 : decode cX8_readStatement 84 = .ok (.ldc2_w 198, 3) := by decide +kernel
theorem dX8_readStatement_87 : decode cX8_readStatement 87 = .ok (.lcmp, 1) := by decide +kernel
theorem dX8_readStatement_88 : decode cX8_readStatement 88 = .ok (.ifCond .ne 9, 3) := by decide +kernel
theorem dX8_readStatement_91 : decode cX8_readStatement 91 = .ok (.aload_n 0, 1) := by decide +kernel
theorem dX8_readStatement_92 : decode cX8_readStatement 92 = .ok (.iload_n 3, 1) := by decide +kernel
theorem dX8_readStatement_93 : decode cX8_readStatement 93 = .ok (.invokevirtual 200, 3) := by decide +kernel
theorem dX8_readStatement_96 : decode cX8_readStatement 96 = .ok (.ireturn, 1) := by decide +kernel
theorem dX8_readStatement_97 : decode cX8_readStatement 97 = .ok (.lload_n 1, 1) := by decide +kernel
theorem dX8_readStatement_98 : decode cX8_readStatement 98 = .ok (.ldc2_w 203, 3) := by decide +kernel
theorem dX8_readStatement_101 : decode cX8_readStatement 101 = .ok (.lcmp, 1) := by decide +kernel
theorem dX8_readStatement_102 : decode cX8_readStatement 102 = .ok (.ifCond .ne 11, 3) := by decide +kernel
theorem dX8_readStatement_105 : decode cX8_readStatement 105 = .ok (.aload_n 0, 1) := by decide +kernel
theorem dX8_readStatement_106 : decode cX8_readStatement 106 = .ok (.iload_n 3, 1) := by decide +kernel
theorem dX8_readStatement_107 : decode cX8_readStatement 107 = .ok (.invokevirtual 205, 3) := by decide +kernel
theorem dX8_readStatement_110 : decode cX8_readStatement 110 = .ok (.goto 9, 3) := by decide +kernel
theorem dX8_readStatement_113 : decode cX8_readStatement 113 = .ok (.aload_n 0, 1) := by decide +kernel
theorem dX8_readStatement_114 : decode cX8_readStatement 114 = .ok (.iconst 1, 1) := by decide +kernel
theorem dX8_readStatement_115 : decode cX8_readStatement 115 = .ok (.iload_n 3, 1) := by decide +kernel
theorem dX8_readStatement_116 : decode cX8_readStatement 116 = .ok (.invokevirtual 137, 3) := by decide +kernel
theorem dX8_readStatement_119 : decode cX8_readStatement 119 = .ok (.ireturn, 1) := by decide +kernel
theorem dX8_readText_0 : decode cX8_readText 0 = .ok (.aload_n 0, 1) := by decide +kernel
theorem dX8_readText_1 : decode cX8_readText 1 = .ok (.iconst 0, 1) := by decide +kernel
theorem dX8_readText_2 : decode cX8_readText 2 = .ok (.putfield 208, 3) := by decide +kernel
theorem dX8_readText_5 : decode cX8_readText 5 = .ok (.aload_n 0, 1) := by decide +kernel
theorem dX8_readText_6 : decode cX8_readText 6 = .ok (.iconst 0, 1) := by decide +kernel
theorem dX8_readText_7 : decode cX8_readText 7 = .ok (.putfield 110, 3) := by decide +kernel
theorem dX8_readText_10 : decode cX8_readText 10 = .ok (.aload_n 0, 1) := by decide +kernel
theorem dX8_readText_11 : decode cX8_readText 11 = .ok (.iconst 0, 1) := by decide +kernel
theorem dX8_readText_12 : decode cX8_readText 12 = .ok (.putfield 113, 3) := by decide +kernel
theorem dX8_readText_15 : decode cX8_readText 15 = .ok (.aload_n 0, 1) := by decide +kernel
theorem dX8_readText_16 : decode cX8_readText 16 = .ok (.iconst 0, 1) := by decide +kernel
theorem dX8_readText_17 : decode cX8_readText 17 = .ok (.putfield 154, 3) := by decide +kernel
theorem dX8_readText_20 : decode cX8_readText 20 = .ok (.iconst 0, 1) := by decide +kernel
theorem dX8_readText_21 : decode cX8_readText 21 = .ok (.istore_n 1, 1) := by decide +kernel
theorem dX8_readText_22 : decode cX8_readText 22 = .ok (.iload_n 1, 1) := by decide +kernel
theorem dX8_readText_23 : decode cX8_readText 23 = .ok (.bipush 6, 2) := by decide +kernel
theorem dX8_readText_25 : decode cX8_readText 25 = .ok (.if_icmp .ge 25, 3) := by decide +kernel
theorem dX8_readText_28 : decode cX8_readText 28 = .ok (.aload_n 0, 1) := by decide +kernel
theorem dX8_readText_29 : decode cX8_readText 29 = .ok (.getfield 13, 3) := by decide +kernel
theorem dX8_readText_32 : decode cX8_readText 32 = .ok (.iload_n 1, 1) := by decide +kernel
theorem dX8_readText_33 : decode cX8_readText 33 = .ok (.iload_n 1, 1) := by decide +kernel
theorem dX8_readText_34 : decode cX8_readText 34 = .ok (.iconst 2, 1) := by decide +kernel
theorem dX8_readText_35 : decode cX8_readText 35 = .ok (.if_icmp .ne 7, 3) := by decide +kernel
theorem dX8_readText_38 : decode cX8_readText 38 = .ok (.iconst (-1), 1) := by decide +kernel
theorem dX8_readText_39 : decode cX8_readText 39 = .ok (.goto 4, 3) := by decide +kernel
theorem dX8_readText_42 : decode cX8_readText 42 = .ok (.iconst 0, 1) := by decide +kernel
theorem dX8_readText_43 : decode cX8_readText 43 = .ok (.iastore, 1) := by decide +kernel
theorem dX8_readText_44 : decode cX8_readText 44 = .ok (.iinc 1 1, 3) := by decide +kernel
theorem dX8_readText_47 : decode cX8_readText 47 = .ok (.goto (-25), 3) := by decide +kernel
theorem dX8_readText_50 : decode cX8_readText 50 = .ok (.aload_n 0, 1) := by decide +kernel
theorem dX8_readText_51 : decode cX8_readText 51 = .ok (.invokevirtual 116, 3) := by decide +kernel
theorem dX8_readText_54 : decode cX8_readText 54 = .ok (.iconst (-1), 1) := by decide +kernel
theorem dX8_readText_55 : decode cX8_readText 55 = .ok (.if_icmp .eq 54, 3) := by decide +kernel
theorem dX8_readText_58 : decode cX8_readText 58 = .ok (.aload_n 0, 1) := by decide +kernel
theorem dX8_readText_59 : decode cX8_readText 59 = .ok (.invokevirtual 211, 3) := by decide +kernel
theorem dX8_readText_62 : decode cX8_readText 62 = .ok (.ifCond .ne 5, 3) := by decide +kernel
theorem dX8_readText_65 : decode cX8_readText 65 = .ok (.iconst 0, 1) := by decide +kernel
theorem dX8_readText_66 : decode cX8_readText 66 = .ok (.ireturn, 1) := by decide +kernel
theorem dX8_readText_67 : decode cX8_readText 67 = .ok (.aload_n 0, 1) := by decide +kernel
theorem dX8_readText_68 : decode cX8_readText 68 = .ok (.invokevirtual 116, 3) := by decide +kernel
theorem dX8_readText_71 : decode cX8_readText 71 = .ok (.bipush 59, 2) := by decide +kernel
theorem dX8_readText_73 : decode cX8_readText 73 = .ok (.if_icmp .eq 13, 3) := by decide +kernel
theorem dX8_readText_76 : decode cX8_readText 76 = .ok (.aload_n 0, 1) := by decide +kernel
theorem dX8_readText_77 : decode cX8_readText 77 = .ok (.iconst 1, 1) := by decide +kernel
theorem dX8_readText_78 : decode cX8_readText 78 = .ok (.aload_n 0, 1) := by decide +kernel
theorem dX8_readText_79 : decode cX8_readText 79 = .ok (.getfield 110, 3) := by decide +kernel
theorem dX8_readText_82 : decode cX8_readText 82 = .ok (.invokevirtual 137, 3) := by decide +kernel
theorem dX8_readText_85 : decode cX8_readText 85 = .ok (.ireturn, 1) := by decide +kernel
theorem dX8_readText_86 : decode cX8_readText 86 = .ok (.aload_n 0, 1) := by decide +kernel
theorem dX8_readText_87 : decode cX8_readText 87 = .ok (.dup, 1) := by decide +kernel
theorem dX8_readText_88 : decode cX8_readText 88 = .ok (.getfield 110, 3) := by decide +kernel
theorem dX8_readText_91 : decode cX8_readText 91 = .ok (.iconst 1, 1) := by decide +kernel
theorem dX8_readText_92 : decode cX8_readText 92 = .ok (.iadd, 1) := by decide +kernel
theorem dX8_readText_93 : decode cX8_readText 93 = .ok (.putfield 110, 3) := by decide +kernel
theorem dX8_readText_96 : decode cX8_readText 96 = .ok (.aload_n 0, 1) := by decide +kernel
theorem dX8_readText_97 : decode cX8_readText 97 = .ok (.dup, 1) := by decide +kernel
theorem dX8_readText_98 : decode cX8_readText 98 = .ok (.getfield 208, 3) := by decide +kernel
theorem dX8_readText_101 : decode cX8_readText 101 = .ok (.iconst 1, 1) := by decide +kernel
theorem dX8_readText_102 : decode cX8_readText 102 = .ok (.iadd, 1) := by decide +kernel
theorem dX8_readText_103 : decode cX8_readText 103 = .ok (.putfield 208, 3) := by decide +kernel
theorem dX8_readText_106 : decode cX8_readText 106 = .ok (.goto (-56), 3) := by decide +kernel
theorem dX8_readText_109 : decode cX8_readText 109 = .ok (.iconst 1, 1) := by decide +kernel
theorem dX8_readText_110 : decode cX8_readText 110 = .ok (.ireturn, 1) := by decide +kernel
theorem dX8_tell_0 : decode cX8_tell 0 = .ok (.aload_n 0, 1) := by decide +kernel
theorem dX8_tell_1 : decode cX8_tell 1 = .ok (.iconst 0, 1) := by decide +kernel
theorem dX8_tell_2 : decode cX8_tell 2 = .ok (.putfield 95, 3) := by decide +kernel
theorem dX8_tell_5 : decode cX8_tell 5 = .ok (.aload_n 0, 1) := by decide +kernel
theorem dX8_tell_6 : decode cX8_tell 6 = .ok (.invokevirtual 214, 3) := by decide +kernel
theorem dX8_tell_9 : decode cX8_tell 9 = .ok (.istore_n 1, 1) := by decide +kernel
theorem dX8_tell_10 : decode cX8_tell 10 = .ok (.aload_n 0, 1) := by decide +kernel
theorem dX8_tell_11 : decode cX8_tell 11 = .ok (.iconst 0, 1) := by decide +kernel
theorem dX8_tell_12 : decode cX8_tell 12 = .ok (.putfield 99, 3) := by decide +kernel
theorem dX8_tell_15 : decode cX8_tell 15 = .ok (.aload_n 0, 1) := by decide +kernel
theorem dX8_tell_16 : decode cX8_tell 16 = .ok (.aload_n 0, 1) := by decide +kernel
theorem dX8_tell_17 : decode cX8_tell 17 = .ok (.getfield 113, 3) := by decide +kernel
theorem dX8_tell_20 : decode cX8_tell 20 = .ok (.putfield 217, 3) := by decide +kernel
theorem dX8_tell_23 : decode cX8_tell 23 = .ok (.iload_n 1, 1) := by decide +kernel
theorem dX8_tell_24 : decode cX8_tell 24 = .ok (.ifCond .ne 5, 3) := by decide +kernel
theorem dX8_tell_27 : decode cX8_tell 27 = .ok (.iconst (-1), 1) := by decide +kernel
theorem dX8_tell_28 : decode cX8_tell 28 = .ok (.ireturn, 1) := by decide +kernel
theorem dX8_tell_29 : decode cX8_tell 29 = .ok (.iconst 0, 1) := by decide +kernel
theorem dX8_tell_30 : decode cX8_tell 30 = .ok (.istore_n 2, 1) := by decide +kernel
theorem dX8_tell_31 : decode cX8_tell 31 = .ok (.iload_n 2, 1) := by decide +kernel
theorem dX8_tell_32 : decode cX8_tell 32 = .ok (.bipush 6, 2) := by decide +kernel
theorem dX8_tell_34 : decode cX8_tell 34 = .ok (.if_icmp .ge 105, 3) := by decide +kernel
theorem dX8_tell_37 : decode cX8_tell 37 = .ok (.aload_n 0, 1) := by decide +kernel
theorem dX8_tell_38 : decode cX8_tell 38 = .ok (.getfield 7, 3) := by decide +kernel
theorem dX8_tell_41 : decode cX8_tell 41 = .ok (.iload_n 2, 1) := by decide +kernel
theorem dX8_tell_42 : decode cX8_tell 42 = .ok (.aload_n 0, 1) := by decide +kernel
theorem dX8_tell_43 : decode cX8_tell 43 = .ok (.getfield 13, 3) := by decide +kernel
theorem dX8_tell_46 : decode cX8_tell 46 = .ok (.iload_n 2, 1) := by decide +kernel
theorem dX8_tell_47 : decode cX8_tell 47 = .ok (.iaload, 1) := by decide +kernel
theorem dX8_tell_48 : decode cX8_tell 48 = .ok (.iastore, 1) := by decide +kernel
theorem dX8_tell_49 : decode cX8_tell 49 = .ok (.aload_n 0, 1) := by decide +kernel
theorem dX8_tell_50 : decode cX8_tell 50 = .ok (.getfield 16, 3) := by decide +kernel
theorem dX8_tell_53 : decode cX8_tell 53 = .ok (.iload_n 2, 1) := by decide +kernel
theorem dX8_tell_54 : decode cX8_tell 54 = .ok (.aload_n 0, 1) := by decide +kernel
theorem dX8_tell_55 : decode cX8_tell 55 = .ok (.getfield 28, 3) := by decide +kernel
theorem dX8_tell_58 : decode cX8_tell 58 = .ok (.iload_n 2, 1) := by decide +kernel
theorem dX8_tell_59 : decode cX8_tell 59 = .ok (.iaload, 1) := by decide +kernel
theorem dX8_tell_60 : decode cX8_tell 60 = .ok (.iastore, 1) := by decide +kernel
theorem dX8_tell_61 : decode cX8_tell 61 = .ok (.aload_n 0, 1) := by decide +kernel
theorem dX8_tell_62 : decode cX8_tell 62 = .ok (.getfield 19, 3) := by decide +kernel
theorem dX8_tell_65 : decode cX8_tell 65 = .ok (.iload_n 2, 1) := by decide +kernel
theorem dX8_tell_66 : decode cX8_tell 66 = .ok (.aload_n 0, 1) := by decide +kernel
theorem dX8_tell_67 : decode cX8_tell 67 = .ok (.getfield 31, 3) := by decide +kernel
theorem dX8_tell_70 : decode cX8_tell 70 = .ok (.iload_n 2, 1) := by decide +kernel
theorem dX8_tell_71 : decode cX8_tell 71 = .ok (.iaload, 1) := by decide +kernel
theorem dX8_tell_72 : decode cX8_tell 72 = .ok (.iastore, 1) := by decide +kernel
theorem dX8_tell_73 : decode cX8_tell 73 = .ok (.aload_n 0, 1) := by decide +kernel
theorem dX8_tell_74 : decode cX8_tell 74 = .ok (.getfield 22, 3) := by decide +kernel
theorem dX8_tell_77 : decode cX8_tell 77 = .ok (.iload_n 2, 1) := by decide +kernel
theorem dX8_tell_78 : decode cX8_tell 78 = .ok (.aload_n 0, 1) := by decide +kernel
theorem dX8_tell_79 : decode cX8_tell 79 = .ok (.getfield 34, 3) := by decide +kernel
theorem dX8_tell_82 : decode cX8_tell 82 = .ok (.iload_n 2, 1) := by decide +kernel
theorem dX8_tell_83 : decode cX8_tell 83 = .ok (.iaload, 1) := by decide +kernel
theorem dX8_tell_84 : decode cX8_tell 84 = .ok (.iastore, 1) := by decide +kernel
theorem dX8_tell_85 : decode cX8_tell 85 = .ok (.aload_n 0, 1) := by decide +kernel
theorem dX8_tell_86 : decode cX8_tell 86 = .ok (.getfield 25, 3) := by decide +kernel
theorem dX8_tell_89 : decode cX8_tell 89 = .ok (.iload_n 2, 1) := by decide +kernel
theorem dX8_tell_90 : decode cX8_tell 90 = .ok (.aload_n 0, 1) := by decide +kernel
theorem dX8_tell_91 : decode cX8_tell 91 = .ok (.getfield 37, 3) := by decide +kernel
theorem dX8_tell_94 : decode cX8_tell 94 = .ok (.iload_n 2, 1) := by decide +kernel
theorem dX8_tell_95 : decode cX8_tell 95 = .ok (.iaload, 1) := by decide +kernel
theorem dX8_tell_96 : decode cX8_tell 96 = .ok (.iastore, 1) := by decide +kernel
theorem dX8_tell_97 : decode cX8_tell 97 = .ok (.aload_n 0, 1) := by decide +kernel
theorem dX8_tell_98 : decode cX8_tell 98 = .ok (.getfield 46, 3) := by decide +kernel
theorem dX8_tell_101 : decode cX8_tell 101 = .ok (.iload_n 2, 1) := by decide +kernel
theorem dX8_tell_102 : decode cX8_tell 102 = .ok (.aload_n 0, 1) := by decide +kernel
theorem dX8_tell_103 : decode cX8_tell 103 = .ok (.getfield 55, 3) := by decide +kernel
theorem dX8_tell_106 : decode cX8_tell 106 = .ok (.iload_n 2, 1) := by decide +kernel
theorem dX8_tell_107 : decode cX8_tell 107 = .ok (.iaload, 1) := by decide +kernel
theorem dX8_tell_108 : decode cX8_tell 108 = .ok (.iastore, 1) := by decide +kernel
theorem dX8_tell_109 : decode cX8_tell 109 = .ok (.aload_n 0, 1) := by decide +kernel
theorem dX8_tell_110 : decode cX8_tell 110 = .ok (.getfield 49, 3) := by decide +kernel
theorem dX8_tell_113 : decode cX8_tell 113 = .ok (.iload_n 2, 1) := by decide +kernel
theorem dX8_tell_114 : decode cX8_tell 114 = .ok (.aload_n 0, 1) := by decide +kernel
theorem dX8_tell_115 : decode cX8_tell 115 = .ok (.getfield 58, 3) := by decide +kernel
theorem dX8_tell_118 : decode cX8_tell 118 = .ok (.iload_n 2, 1) := by decide +kernel
theorem dX8_tell_119 : decode cX8_tell 119 = .ok (.iaload, 1) := by decide +kernel
theorem dX8_tell_120 : decode cX8_tell 120 = .ok (.iastore, 1) := by decide +kernel
theorem dX8_tell_121 : decode cX8_tell 121 = .ok (.aload_n 0, 1) := by decide +kernel
theorem dX8_tell_122 : decode cX8_tell 122 = .ok (.getfield 52, 3) := by decide +kernel
theorem dX8_tell_125 : decode cX8_tell 125 = .ok (.iload_n 2, 1) := by decide +kernel
theorem dX8_tell_126 : decode cX8_tell 126 = .ok (.aload_n 0, 1) := by decide +kernel
theorem dX8_tell_127 : decode cX8_tell 127 = .ok (.getfield 61, 3) := by decide +kernel
theorem dX8_tell_130 : decode cX8_tell 130 = .ok (.iload_n 2, 1) := by decide +kernel
theorem dX8_tell_131 : decode cX8_tell 131 = .ok (.iaload, 1) := by decide +kernel
theorem dX8_tell_132 : decode cX8_tell 132 = .ok (.iastore, 1) := by decide +kernel
theorem dX8_tell_133 : decode cX8_tell 133 = .ok (.iinc 2 1, 3) := by decide +kernel
theorem dX8_tell_136 : decode cX8_tell 136 = .ok (.goto (-105), 3) := by decide +kernel
theorem dX8_tell_139 : decode cX8_tell 139 = .ok (.iconst 0, 1) := by decide +kernel
theorem dX8_tell_140 : decode cX8_tell 140 = .ok (.istore_n 2, 1) := by decide +kernel
theorem dX8_tell_141 : decode cX8_tell 141 = .ok (.iload_n 2, 1) := by decide +kernel
theorem dX8_tell_142 : decode cX8_tell 142 = .ok (.bipush 72, 2) := by decide +kernel
theorem dX8_tell_144 : decode cX8_tell 144 = .ok (.if_icmp .ge 21, 3) := by decide +kernel
theorem dX8_tell_147 : decode cX8_tell 147 = .ok (.aload_n 0, 1) := by decide +kernel
theorem dX8_tell_148 : decode cX8_tell 148 = .ok (.getfield 40, 3) := by decide +kernel
theorem dX8_tell_151 : decode cX8_tell 151 = .ok (.iload_n 2, 1) := by decide +kernel
theorem dX8_tell_152 : decode cX8_tell 152 = .ok (.aload_n 0, 1) := by decide +kernel
theorem dX8_tell_153 : decode cX8_tell 153 = .ok (.getfield 43, 3) := by decide +kernel
theorem dX8_tell_156 : decode cX8_tell 156 = .ok (.iload_n 2, 1) := by decide +kernel
theorem dX8_tell_157 : decode cX8_tell 157 = .ok (.iaload, 1) := by decide +kernel
theorem dX8_tell_158 : decode cX8_tell 158 = .ok (.iastore, 1) := by decide +kernel
theorem dX8_tell_159 : decode cX8_tell 159 = .ok (.iinc 2 1, 3) := by decide +kernel
theorem dX8_tell_162 : decode cX8_tell 162 = .ok (.goto (-21), 3) := by decide +kernel
theorem dX8_tell_165 : decode cX8_tell 165 = .ok (.aload_n 0, 1) := by decide +kernel
theorem dX8_tell_166 : decode cX8_tell 166 = .ok (.invokevirtual 220, 3) := by decide +kernel
theorem dX8_tell_169 : decode cX8_tell 169 = .ok (.iconst 0, 1) := by decide +kernel
theorem dX8_tell_170 : decode cX8_tell 170 = .ok (.istore_n 2, 1) := by decide +kernel
theorem dX8_tell_171 : decode cX8_tell 171 = .ok (.iload_n 2, 1) := by decide +kernel
theorem dX8_tell_172 : decode cX8_tell 172 = .ok (.bipush 6, 2) := by decide +kernel
theorem dX8_tell_174 : decode cX8_tell 174 = .ok (.if_icmp .ge 21, 3) := by decide +kernel
theorem dX8_tell_177 : decode cX8_tell 177 = .ok (.aload_n 0, 1) := by decide +kernel
theorem dX8_tell_178 : decode cX8_tell 178 = .ok (.getfield 64, 3) := by decide +kernel
theorem dX8_tell_181 : decode cX8_tell 181 = .ok (.iload_n 2, 1) := by decide +kernel
theorem dX8_tell_182 : decode cX8_tell 182 = .ok (.aload_n 0, 1) := by decide +kernel
theorem dX8_tell_183 : decode cX8_tell 183 = .ok (.getfield 70, 3) := by decide +kernel
theorem dX8_tell_186 : decode cX8_tell 186 = .ok (.iload_n 2, 1) := by decide +kernel
theorem dX8_tell_187 : decode cX8_tell 187 = .ok (.iaload, 1) := by decide +kernel
theorem dX8_tell_188 : decode cX8_tell 188 = .ok (.iastore, 1) := by decide +kernel
theorem dX8_tell_189 : decode cX8_tell 189 = .ok (.iinc 2 1, 3) := by decide +kernel
theorem dX8_tell_192 : decode cX8_tell 192 = .ok (.goto (-21), 3) := by decide +kernel
theorem dX8_tell_195 : decode cX8_tell 195 = .ok (.aload_n 0, 1) := by decide +kernel
theorem dX8_tell_196 : decode cX8_tell 196 = .ok (.getfield 208, 3) := by decide +kernel
theorem dX8_tell_199 : decode cX8_tell 199 = .ok (.ireturn, 1) := by decide +kernel
theorem dX8_fault_0 : decode cX8_fault 0 = .ok (.aload_n 0, 1) := by decide +kernel
theorem dX8_fault_1 : decode cX8_fault 1 = .ok (.iconst 0, 1) := by decide +kernel
theorem dX8_fault_2 : decode cX8_fault 2 = .ok (.putfield 95, 3) := by decide +kernel
theorem dX8_fault_5 : decode cX8_fault 5 = .ok (.aload_n 0, 1) := by decide +kernel
theorem dX8_fault_6 : decode cX8_fault 6 = .ok (.getfield 217, 3) := by decide +kernel
theorem dX8_fault_9 : decode cX8_fault 9 = .ok (.ireturn, 1) := by decide +kernel
theorem dX8_mayStand_0 : decode cX8_mayStand 0 = .ok (.iconst 0, 1) := by decide +kernel
theorem dX8_mayStand_1 : decode cX8_mayStand 1 = .ok (.istore_n 3, 1) := by decide +kernel
theorem dX8_mayStand_2 : decode cX8_mayStand 2 = .ok (.iload_n 3, 1) := by decide +kernel
theorem dX8_mayStand_3 : decode cX8_mayStand 3 = .ok (.aload_n 0, 1) := by decide +kernel
theorem dX8_mayStand_4 : decode cX8_mayStand 4 = .ok (.getfield 7, 3) := by decide +kernel
theorem dX8_mayStand_7 : decode cX8_mayStand 7 = .ok (.iconst 1, 1) := by decide +kernel
theorem dX8_mayStand_8 : decode cX8_mayStand 8 = .ok (.iaload, 1) := by decide +kernel
theorem dX8_mayStand_9 : decode cX8_mayStand 9 = .ok (.if_icmp .ge 71, 3) := by decide +kernel
theorem dX8_mayStand_12 : decode cX8_mayStand 12 = .ok (.aload_n 0, 1) := by decide +kernel
theorem dX8_mayStand_13 : decode cX8_mayStand 13 = .ok (.getfield 16, 3) := by decide +kernel
theorem dX8_mayStand_16 : decode cX8_mayStand 16 = .ok (.iload_n 3, 1) := by decide +kernel
theorem dX8_mayStand_17 : decode cX8_mayStand 17 = .ok (.iaload, 1) := by decide +kernel
theorem dX8_mayStand_18 : decode cX8_mayStand 18 = .ok (.iconst 3, 1) := by decide +kernel
theorem dX8_mayStand_19 : decode cX8_mayStand 19 = .ok (.if_icmp .ne 13, 3) := by decide +kernel
theorem dX8_mayStand_22 : decode cX8_mayStand 22 = .ok (.aload_n 0, 1) := by decide +kernel
theorem dX8_mayStand_23 : decode cX8_mayStand 23 = .ok (.getfield 19, 3) := by decide +kernel
theorem dX8_mayStand_26 : decode cX8_mayStand 26 = .ok (.iload_n 3, 1) := by decide +kernel
theorem dX8_mayStand_27 : decode cX8_mayStand 27 = .ok (.iaload, 1) := by decide +kernel
theorem dX8_mayStand_28 : decode cX8_mayStand 28 = .ok (.iload_n 1, 1) := by decide +kernel
theorem dX8_mayStand_29 : decode cX8_mayStand 29 = .ok (.if_icmp .eq 23, 3) := by decide +kernel
theorem dX8_mayStand_32 : decode cX8_mayStand 32 = .ok (.aload_n 0, 1) := by decide +kernel
theorem dX8_mayStand_33 : decode cX8_mayStand 33 = .ok (.getfield 16, 3) := by decide +kernel
theorem dX8_mayStand_36 : decode cX8_mayStand 36 = .ok (.iload_n 1, 1) := by decide +kernel
theorem dX8_mayStand_37 : decode cX8_mayStand 37 = .ok (.iaload, 1) := by decide +kernel
theorem dX8_mayStand_38 : decode cX8_mayStand 38 = .ok (.iconst 1, 1) := by decide +kernel
theorem dX8_mayStand_39 : decode cX8_mayStand 39 = .ok (.if_icmp .ne 17, 3) := by decide +kernel
theorem dX8_mayStand_42 : decode cX8_mayStand 42 = .ok (.aload_n 0, 1) := by decide +kernel
theorem dX8_mayStand_43 : decode cX8_mayStand 43 = .ok (.getfield 16, 3) := by decide +kernel
theorem dX8_mayStand_46 : decode cX8_mayStand 46 = .ok (.iload_n 3, 1) := by decide +kernel
theorem dX8_mayStand_47 : decode cX8_mayStand 47 = .ok (.iaload, 1) := by decide +kernel
theorem dX8_mayStand_48 : decode cX8_mayStand 48 = .ok (.iconst 2, 1) := by decide +kernel
theorem dX8_mayStand_49 : decode cX8_mayStand 49 = .ok (.if_icmp .ne 7, 3) := by decide +kernel
theorem dX8_mayStand_52 : decode cX8_mayStand 52 = .ok (.iconst 1, 1) := by decide +kernel
theorem dX8_mayStand_53 : decode cX8_mayStand 53 = .ok (.goto 4, 3) := by decide +kernel
theorem dX8_mayStand_56 : decode cX8_mayStand 56 = .ok (.iconst 0, 1) := by decide +kernel
theorem dX8_mayStand_57 : decode cX8_mayStand 57 = .ok (.istore 4, 2) := by decide +kernel
theorem dX8_mayStand_59 : decode cX8_mayStand 59 = .ok (.iload 4, 2) := by decide +kernel
theorem dX8_mayStand_61 : decode cX8_mayStand 61 = .ok (.ifCond .eq 13, 3) := by decide +kernel
theorem dX8_mayStand_64 : decode cX8_mayStand 64 = .ok (.iload_n 2, 1) := by decide +kernel
theorem dX8_mayStand_65 : decode cX8_mayStand 65 = .ok (.iload_n 3, 1) := by decide +kernel
theorem dX8_mayStand_66 : decode cX8_mayStand 66 = .ok (.invokestatic 133, 3) := by decide +kernel
theorem dX8_mayStand_69 : decode cX8_mayStand 69 = .ok (.ifCond .ne 5, 3) := by decide +kernel
theorem dX8_mayStand_72 : decode cX8_mayStand 72 = .ok (.iconst 0, 1) := by decide +kernel
theorem dX8_mayStand_73 : decode cX8_mayStand 73 = .ok (.ireturn, 1) := by decide +kernel
theorem dX8_mayStand_74 : decode cX8_mayStand 74 = .ok (.iinc 3 1, 3) := by decide +kernel
theorem dX8_mayStand_77 : decode cX8_mayStand 77 = .ok (.goto (-75), 3) := by decide +kernel
theorem dX8_mayStand_80 : decode cX8_mayStand 80 = .ok (.iconst 1, 1) := by decide +kernel
theorem dX8_mayStand_81 : decode cX8_mayStand 81 = .ok (.ireturn, 1) := by decide +kernel
theorem dX8_laysLeast_0 : decode cX8_laysLeast 0 = .ok (.iconst 0, 1) := by decide +kernel
theorem dX8_laysLeast_1 : decode cX8_laysLeast 1 = .ok (.istore_n 1, 1) := by decide +kernel
theorem dX8_laysLeast_2 : decode cX8_laysLeast 2 = .ok (.iconst 0, 1) := by decide +kernel
theorem dX8_laysLeast_3 : decode cX8_laysLeast 3 = .ok (.istore_n 2, 1) := by decide +kernel
theorem dX8_laysLeast_4 : decode cX8_laysLeast 4 = .ok (.iload_n 2, 1) := by decide +kernel
theorem dX8_laysLeast_5 : decode cX8_laysLeast 5 = .ok (.aload_n 0, 1) := by decide +kernel
theorem dX8_laysLeast_6 : decode cX8_laysLeast 6 = .ok (.getfield 7, 3) := by decide +kernel
theorem dX8_laysLeast_9 : decode cX8_laysLeast 9 = .ok (.iconst 1, 1) := by decide +kernel
theorem dX8_laysLeast_10 : decode cX8_laysLeast 10 = .ok (.iaload, 1) := by decide +kernel
theorem dX8_laysLeast_11 : decode cX8_laysLeast 11 = .ok (.if_icmp .ge 47, 3) := by decide +kernel
theorem dX8_laysLeast_14 : decode cX8_laysLeast 14 = .ok (.iconst 0, 1) := by decide +kernel
theorem dX8_laysLeast_15 : decode cX8_laysLeast 15 = .ok (.istore_n 3, 1) := by decide +kernel
theorem dX8_laysLeast_16 : decode cX8_laysLeast 16 = .ok (.iload_n 1, 1) := by decide +kernel
theorem dX8_laysLeast_17 : decode cX8_laysLeast 17 = .ok (.iload_n 3, 1) := by decide +kernel
theorem dX8_laysLeast_18 : decode cX8_laysLeast 18 = .ok (.invokestatic 133, 3) := by decide +kernel
theorem dX8_laysLeast_21 : decode cX8_laysLeast 21 = .ok (.ifCond .ne 12, 3) := by decide +kernel
theorem dX8_laysLeast_24 : decode cX8_laysLeast 24 = .ok (.aload_n 0, 1) := by decide +kernel
theorem dX8_laysLeast_25 : decode cX8_laysLeast 25 = .ok (.iload_n 3, 1) := by decide +kernel
theorem dX8_laysLeast_26 : decode cX8_laysLeast 26 = .ok (.iload_n 1, 1) := by decide +kernel
theorem dX8_laysLeast_27 : decode cX8_laysLeast 27 = .ok (.invokevirtual 223, 3) := by decide +kernel
theorem dX8_laysLeast_30 : decode cX8_laysLeast 30 = .ok (.ifCond .ne 9, 3) := by decide +kernel
theorem dX8_laysLeast_33 : decode cX8_laysLeast 33 = .ok (.iinc 3 1, 3) := by decide +kernel
theorem dX8_laysLeast_36 : decode cX8_laysLeast 36 = .ok (.goto (-20), 3) := by decide +kernel
theorem dX8_laysLeast_39 : decode cX8_laysLeast 39 = .ok (.aload_n 0, 1) := by decide +kernel
theorem dX8_laysLeast_40 : decode cX8_laysLeast 40 = .ok (.getfield 70, 3) := by decide +kernel
theorem dX8_laysLeast_43 : decode cX8_laysLeast 43 = .ok (.iload_n 2, 1) := by decide +kernel
theorem dX8_laysLeast_44 : decode cX8_laysLeast 44 = .ok (.iload_n 3, 1) := by decide +kernel
theorem dX8_laysLeast_45 : decode cX8_laysLeast 45 = .ok (.iastore, 1) := by decide +kernel
theorem dX8_laysLeast_46 : decode cX8_laysLeast 46 = .ok (.iload_n 1, 1) := by decide +kernel
theorem dX8_laysLeast_47 : decode cX8_laysLeast 47 = .ok (.iconst 1, 1) := by decide +kernel
theorem dX8_laysLeast_48 : decode cX8_laysLeast 48 = .ok (.iload_n 3, 1) := by decide +kernel
theorem dX8_laysLeast_49 : decode cX8_laysLeast 49 = .ok (.ishl, 1) := by decide +kernel
theorem dX8_laysLeast_50 : decode cX8_laysLeast 50 = .ok (.ior, 1) := by decide +kernel
theorem dX8_laysLeast_51 : decode cX8_laysLeast 51 = .ok (.istore_n 1, 1) := by decide +kernel
theorem dX8_laysLeast_52 : decode cX8_laysLeast 52 = .ok (.iinc 2 1, 3) := by decide +kernel
theorem dX8_laysLeast_55 : decode cX8_laysLeast 55 = .ok (.goto (-51), 3) := by decide +kernel
theorem dX8_laysLeast_58 : decode cX8_laysLeast 58 = .ok (.return_, 1) := by decide +kernel
theorem dX8_isGood_0 : decode cX8_isGood 0 = .ok (.iconst 0, 1) := by decide +kernel
theorem dX8_isGood_1 : decode cX8_isGood 1 = .ok (.istore_n 1, 1) := by decide +kernel
theorem dX8_isGood_2 : decode cX8_isGood 2 = .ok (.iconst 0, 1) := by decide +kernel
theorem dX8_isGood_3 : decode cX8_isGood 3 = .ok (.istore_n 2, 1) := by decide +kernel
theorem dX8_isGood_4 : decode cX8_isGood 4 = .ok (.iload_n 2, 1) := by decide +kernel
theorem dX8_isGood_5 : decode cX8_isGood 5 = .ok (.aload_n 0, 1) := by decide +kernel
theorem dX8_isGood_6 : decode cX8_isGood 6 = .ok (.getfield 7, 3) := by decide +kernel
theorem dX8_isGood_9 : decode cX8_isGood 9 = .ok (.iconst 1, 1) := by decide +kernel
theorem dX8_isGood_10 : decode cX8_isGood 10 = .ok (.iaload, 1) := by decide +kernel
theorem dX8_isGood_11 : decode cX8_isGood 11 = .ok (.if_icmp .ge 51, 3) := by decide +kernel
theorem dX8_isGood_14 : decode cX8_isGood 14 = .ok (.aload_n 0, 1) := by decide +kernel
theorem dX8_isGood_15 : decode cX8_isGood 15 = .ok (.getfield 70, 3) := by decide +kernel
theorem dX8_isGood_18 : decode cX8_isGood 18 = .ok (.iload_n 2, 1) := by decide +kernel
theorem dX8_isGood_19 : decode cX8_isGood 19 = .ok (.iaload, 1) := by decide +kernel
theorem dX8_isGood_20 : decode cX8_isGood 20 = .ok (.istore_n 3, 1) := by decide +kernel
theorem dX8_isGood_21 : decode cX8_isGood 21 = .ok (.iload_n 3, 1) := by decide +kernel
theorem dX8_isGood_22 : decode cX8_isGood 22 = .ok (.aload_n 0, 1) := by decide +kernel
theorem dX8_isGood_23 : decode cX8_isGood 23 = .ok (.getfield 7, 3) := by decide +kernel
theorem dX8_isGood_26 : decode cX8_isGood 26 = .ok (.iconst 1, 1) := by decide +kernel
theorem dX8_isGood_27 : decode cX8_isGood 27 = .ok (.iaload, 1) := by decide +kernel
theorem dX8_isGood_28 : decode cX8_isGood 28 = .ok (.if_icmp .ge 20, 3) := by decide +kernel
theorem dX8_isGood_31 : decode cX8_isGood 31 = .ok (.iload_n 1, 1) := by decide +kernel
theorem dX8_isGood_32 : decode cX8_isGood 32 = .ok (.iload_n 3, 1) := by decide +kernel
theorem dX8_isGood_33 : decode cX8_isGood 33 = .ok (.invokestatic 133, 3) := by decide +kernel
theorem dX8_isGood_36 : decode cX8_isGood 36 = .ok (.ifCond .ne 12, 3) := by decide +kernel
theorem dX8_isGood_39 : decode cX8_isGood 39 = .ok (.aload_n 0, 1) := by decide +kernel
theorem dX8_isGood_40 : decode cX8_isGood 40 = .ok (.iload_n 3, 1) := by decide +kernel
theorem dX8_isGood_41 : decode cX8_isGood 41 = .ok (.iload_n 1, 1) := by decide +kernel
theorem dX8_isGood_42 : decode cX8_isGood 42 = .ok (.invokevirtual 223, 3) := by decide +kernel
theorem dX8_isGood_45 : decode cX8_isGood 45 = .ok (.ifCond .ne 5, 3) := by decide +kernel
theorem dX8_isGood_48 : decode cX8_isGood 48 = .ok (.iconst 0, 1) := by decide +kernel
theorem dX8_isGood_49 : decode cX8_isGood 49 = .ok (.ireturn, 1) := by decide +kernel
theorem dX8_isGood_50 : decode cX8_isGood 50 = .ok (.iload_n 1, 1) := by decide +kernel
theorem dX8_isGood_51 : decode cX8_isGood 51 = .ok (.iconst 1, 1) := by decide +kernel
theorem dX8_isGood_52 : decode cX8_isGood 52 = .ok (.iload_n 3, 1) := by decide +kernel
theorem dX8_isGood_53 : decode cX8_isGood 53 = .ok (.ishl, 1) := by decide +kernel
theorem dX8_isGood_54 : decode cX8_isGood 54 = .ok (.ior, 1) := by decide +kernel
theorem dX8_isGood_55 : decode cX8_isGood 55 = .ok (.istore_n 1, 1) := by decide +kernel
theorem dX8_isGood_56 : decode cX8_isGood 56 = .ok (.iinc 2 1, 3) := by decide +kernel
theorem dX8_isGood_59 : decode cX8_isGood 59 = .ok (.goto (-55), 3) := by decide +kernel
theorem dX8_isGood_62 : decode cX8_isGood 62 = .ok (.iconst 1, 1) := by decide +kernel
theorem dX8_isGood_63 : decode cX8_isGood 63 = .ok (.ireturn, 1) := by decide +kernel
theorem dX8_goesOn_0 : decode cX8_goesOn 0 = .ok (.aload_n 0, 1) := by decide +kernel
theorem dX8_goesOn_1 : decode cX8_goesOn 1 = .ok (.getfield 7, 3) := by decide +kernel
theorem dX8_goesOn_4 : decode cX8_goesOn 4 = .ok (.iconst 1, 1) := by decide +kernel
theorem dX8_goesOn_5 : decode cX8_goesOn 5 = .ok (.iaload, 1) := by decide +kernel
theorem dX8_goesOn_6 : decode cX8_goesOn 6 = .ok (.istore_n 1, 1) := by decide +kernel
theorem dX8_goesOn_7 : decode cX8_goesOn 7 = .ok (.iload_n 1, 1) := by decide +kernel
theorem dX8_goesOn_8 : decode cX8_goesOn 8 = .ok (.iconst 2, 1) := by decide +kernel
theorem dX8_goesOn_9 : decode cX8_goesOn 9 = .ok (.isub, 1) := by decide +kernel
theorem dX8_goesOn_10 : decode cX8_goesOn 10 = .ok (.istore_n 2, 1) := by decide +kernel
theorem dX8_goesOn_11 : decode cX8_goesOn 11 = .ok (.iload_n 2, 1) := by decide +kernel
theorem dX8_goesOn_12 : decode cX8_goesOn 12 = .ok (.ifCond .lt 26, 3) := by decide +kernel
theorem dX8_goesOn_15 : decode cX8_goesOn 15 = .ok (.aload_n 0, 1) := by decide +kernel
theorem dX8_goesOn_16 : decode cX8_goesOn 16 = .ok (.getfield 70, 3) := by decide +kernel
theorem dX8_goesOn_19 : decode cX8_goesOn 19 = .ok (.iload_n 2, 1) := by decide +kernel
theorem dX8_goesOn_20 : decode cX8_goesOn 20 = .ok (.iaload, 1) := by decide +kernel
theorem dX8_goesOn_21 : decode cX8_goesOn 21 = .ok (.aload_n 0, 1) := by decide +kernel
theorem dX8_goesOn_22 : decode cX8_goesOn 22 = .ok (.getfield 70, 3) := by decide +kernel
theorem dX8_goesOn_25 : decode cX8_goesOn 25 = .ok (.iload_n 2, 1) := by decide +kernel
theorem dX8_goesOn_26 : decode cX8_goesOn 26 = .ok (.iconst 1, 1) := by decide +kernel
theorem dX8_goesOn_27 : decode cX8_goesOn 27 = .ok (.iadd, 1) := by decide +kernel
theorem dX8_goesOn_28 : decode cX8_goesOn 28 = .ok (.iaload, 1) := by decide +kernel
theorem dX8_goesOn_29 : decode cX8_goesOn 29 = .ok (.if_icmp .le 9, 3) := by decide +kernel
theorem dX8_goesOn_32 : decode cX8_goesOn 32 = .ok (.iinc 2 (-1), 3) := by decide +kernel
theorem dX8_goesOn_35 : decode cX8_goesOn 35 = .ok (.goto (-24), 3) := by decide +kernel
theorem dX8_goesOn_38 : decode cX8_goesOn 38 = .ok (.iload_n 2, 1) := by decide +kernel
theorem dX8_goesOn_39 : decode cX8_goesOn 39 = .ok (.ifCond .ge 5, 3) := by decide +kernel
theorem dX8_goesOn_42 : decode cX8_goesOn 42 = .ok (.iconst 0, 1) := by decide +kernel
theorem dX8_goesOn_43 : decode cX8_goesOn 43 = .ok (.ireturn, 1) := by decide +kernel
theorem dX8_goesOn_44 : decode cX8_goesOn 44 = .ok (.iload_n 1, 1) := by decide +kernel
theorem dX8_goesOn_45 : decode cX8_goesOn 45 = .ok (.iconst 1, 1) := by decide +kernel
theorem dX8_goesOn_46 : decode cX8_goesOn 46 = .ok (.isub, 1) := by decide +kernel
theorem dX8_goesOn_47 : decode cX8_goesOn 47 = .ok (.istore_n 3, 1) := by decide +kernel
theorem dX8_goesOn_48 : decode cX8_goesOn 48 = .ok (.aload_n 0, 1) := by decide +kernel
theorem dX8_goesOn_49 : decode cX8_goesOn 49 = .ok (.getfield 70, 3) := by decide +kernel
theorem dX8_goesOn_52 : decode cX8_goesOn 52 = .ok (.iload_n 3, 1) := by decide +kernel
theorem dX8_goesOn_53 : decode cX8_goesOn 53 = .ok (.iaload, 1) := by decide +kernel
theorem dX8_goesOn_54 : decode cX8_goesOn 54 = .ok (.aload_n 0, 1) := by decide +kernel
theorem dX8_goesOn_55 : decode cX8_goesOn 55 = .ok (.getfield 70, 3) := by decide +kernel
theorem dX8_goesOn_58 : decode cX8_goesOn 58 = .ok (.iload_n 2, 1) := by decide +kernel
theorem dX8_goesOn_59 : decode cX8_goesOn 59 = .ok (.iaload, 1) := by decide +kernel
theorem dX8_goesOn_60 : decode cX8_goesOn 60 = .ok (.if_icmp .ge 9, 3) := by decide +kernel
theorem dX8_goesOn_63 : decode cX8_goesOn 63 = .ok (.iinc 3 (-1), 3) := by decide +kernel
theorem dX8_goesOn_66 : decode cX8_goesOn 66 = .ok (.goto (-18), 3) := by decide +kernel
theorem dX8_goesOn_69 : decode cX8_goesOn 69 = .ok (.aload_n 0, 1) := by decide +kernel
theorem dX8_goesOn_70 : decode cX8_goesOn 70 = .ok (.iload_n 2, 1) := by decide +kernel
theorem dX8_goesOn_71 : decode cX8_goesOn 71 = .ok (.iload_n 3, 1) := by decide +kernel
theorem dX8_goesOn_72 : decode cX8_goesOn 72 = .ok (.invokevirtual 226, 3) := by decide +kernel
theorem dX8_goesOn_75 : decode cX8_goesOn 75 = .ok (.iload_n 2, 1) := by decide +kernel
theorem dX8_goesOn_76 : decode cX8_goesOn 76 = .ok (.iconst 1, 1) := by decide +kernel
theorem dX8_goesOn_77 : decode cX8_goesOn 77 = .ok (.iadd, 1) := by decide +kernel
theorem dX8_goesOn_78 : decode cX8_goesOn 78 = .ok (.istore 4, 2) := by decide +kernel
theorem dX8_goesOn_80 : decode cX8_goesOn 80 = .ok (.iload_n 1, 1) := by decide +kernel
theorem dX8_goesOn_81 : decode cX8_goesOn 81 = .ok (.iconst 1, 1) := by decide +kernel
theorem dX8_goesOn_82 : decode cX8_goesOn 82 = .ok (.isub, 1) := by decide +kernel
theorem dX8_goesOn_83 : decode cX8_goesOn 83 = .ok (.istore 5, 2) := by decide +kernel
theorem dX8_goesOn_85 : decode cX8_goesOn 85 = .ok (.iload 4, 2) := by decide +kernel
theorem dX8_goesOn_87 : decode cX8_goesOn 87 = .ok (.iload 5, 2) := by decide +kernel
theorem dX8_goesOn_89 : decode cX8_goesOn 89 = .ok (.if_icmp .ge 20, 3) := by decide +kernel
theorem dX8_goesOn_92 : decode cX8_goesOn 92 = .ok (.aload_n 0, 1) := by decide +kernel
theorem dX8_goesOn_93 : decode cX8_goesOn 93 = .ok (.iload 4, 2) := by decide +kernel
theorem dX8_goesOn_95 : decode cX8_goesOn 95 = .ok (.iload 5, 2) := by decide +kernel
theorem dX8_goesOn_97 : decode cX8_goesOn 97 = .ok (.invokevirtual 226, 3) := by decide +kernel
theorem dX8_goesOn_100 : decode cX8_goesOn 100 = .ok (.iinc 5 (-1), 3) := by decide +kernel
theorem dX8_goesOn_103 : decode cX8_goesOn 103 = .ok (.iinc 4 1, 3) := by decide +kernel
theorem dX8_goesOn_106 : decode cX8_goesOn 106 = .ok (.goto (-21), 3) := by decide +kernel
theorem dX8_goesOn_109 : decode cX8_goesOn 109 = .ok (.iconst 1, 1) := by decide +kernel
theorem dX8_goesOn_110 : decode cX8_goesOn 110 = .ok (.ireturn, 1) := by decide +kernel
theorem dX8_swaps_0 : decode cX8_swaps 0 = .ok (.aload_n 0, 1) := by decide +kernel
theorem dX8_swaps_1 : decode cX8_swaps 1 = .ok (.getfield 70, 3) := by decide +kernel
theorem dX8_swaps_4 : decode cX8_swaps 4 = .ok (.iload_n 1, 1) := by decide +kernel
theorem dX8_swaps_5 : decode cX8_swaps 5 = .ok (.iaload, 1) := by decide +kernel
theorem dX8_swaps_6 : decode cX8_swaps 6 = .ok (.istore_n 3, 1) := by decide +kernel
theorem dX8_swaps_7 : decode cX8_swaps 7 = .ok (.aload_n 0, 1) := by decide +kernel
theorem dX8_swaps_8 : decode cX8_swaps 8 = .ok (.getfield 70, 3) := by decide +kernel
theorem dX8_swaps_11 : decode cX8_swaps 11 = .ok (.iload_n 1, 1) := by decide +kernel
theorem dX8_swaps_12 : decode cX8_swaps 12 = .ok (.aload_n 0, 1) := by decide +kernel
theorem dX8_swaps_13 : decode cX8_swaps 13 = .ok (.getfield 70, 3) := by decide +kernel
theorem dX8_swaps_16 : decode cX8_swaps 16 = .ok (.iload_n 2, 1) := by decide +kernel
theorem dX8_swaps_17 : decode cX8_swaps 17 = .ok (.iaload, 1) := by decide +kernel
theorem dX8_swaps_18 : decode cX8_swaps 18 = .ok (.iastore, 1) := by decide +kernel
theorem dX8_swaps_19 : decode cX8_swaps 19 = .ok (.aload_n 0, 1) := by decide +kernel
theorem dX8_swaps_20 : decode cX8_swaps 20 = .ok (.getfield 70, 3) := by decide +kernel
theorem dX8_swaps_23 : decode cX8_swaps 23 = .ok (.iload_n 2, 1) := by decide +kernel
theorem dX8_swaps_24 : decode cX8_swaps 24 = .ok (.iload_n 3, 1) := by decide +kernel
theorem dX8_swaps_25 : decode cX8_swaps 25 = .ok (.iastore, 1) := by decide +kernel
theorem dX8_swaps_26 : decode cX8_swaps 26 = .ok (.return_, 1) := by decide +kernel
theorem dX8_laysFirst_0 : decode cX8_laysFirst 0 = .ok (.iconst 0, 1) := by decide +kernel
theorem dX8_laysFirst_1 : decode cX8_laysFirst 1 = .ok (.istore_n 1, 1) := by decide +kernel
theorem dX8_laysFirst_2 : decode cX8_laysFirst 2 = .ok (.iload_n 1, 1) := by decide +kernel
theorem dX8_laysFirst_3 : decode cX8_laysFirst 3 = .ok (.aload_n 0, 1) := by decide +kernel
theorem dX8_laysFirst_4 : decode cX8_laysFirst 4 = .ok (.getfield 7, 3) := by decide +kernel
theorem dX8_laysFirst_7 : decode cX8_laysFirst 7 = .ok (.iconst 1, 1) := by decide +kernel
theorem dX8_laysFirst_8 : decode cX8_laysFirst 8 = .ok (.iaload, 1) := by decide +kernel
theorem dX8_laysFirst_9 : decode cX8_laysFirst 9 = .ok (.if_icmp .ge 16, 3) := by decide +kernel
theorem dX8_laysFirst_12 : decode cX8_laysFirst 12 = .ok (.aload_n 0, 1) := by decide +kernel
theorem dX8_laysFirst_13 : decode cX8_laysFirst 13 = .ok (.getfield 70, 3) := by decide +kernel
theorem dX8_laysFirst_16 : decode cX8_laysFirst 16 = .ok (.iload_n 1, 1) := by decide +kernel
theorem dX8_laysFirst_17 : decode cX8_laysFirst 17 = .ok (.iload_n 1, 1) := by decide +kernel
theorem dX8_laysFirst_18 : decode cX8_laysFirst 18 = .ok (.iastore, 1) := by decide +kernel
theorem dX8_laysFirst_19 : decode cX8_laysFirst 19 = .ok (.iinc 1 1, 3) := by decide +kernel
theorem dX8_laysFirst_22 : decode cX8_laysFirst 22 = .ok (.goto (-20), 3) := by decide +kernel
theorem dX8_laysFirst_25 : decode cX8_laysFirst 25 = .ok (.return_, 1) := by decide +kernel
theorem dX8_goodOrders_0 : decode cX8_goodOrders 0 = .ok (.aload_n 0, 1) := by decide +kernel
theorem dX8_goodOrders_1 : decode cX8_goodOrders 1 = .ok (.invokevirtual 230, 3) := by decide +kernel
theorem dX8_goodOrders_4 : decode cX8_goodOrders 4 = .ok (.iconst 0, 1) := by decide +kernel
theorem dX8_goodOrders_5 : decode cX8_goodOrders 5 = .ok (.istore_n 1, 1) := by decide +kernel
theorem dX8_goodOrders_6 : decode cX8_goodOrders 6 = .ok (.iconst 1, 1) := by decide +kernel
theorem dX8_goodOrders_7 : decode cX8_goodOrders 7 = .ok (.istore_n 2, 1) := by decide +kernel
theorem dX8_goodOrders_8 : decode cX8_goodOrders 8 = .ok (.iload_n 2, 1) := by decide +kernel
theorem dX8_goodOrders_9 : decode cX8_goodOrders 9 = .ok (.ifCond .eq 26, 3) := by decide +kernel
theorem dX8_goodOrders_12 : decode cX8_goodOrders 12 = .ok (.iload_n 1, 1) := by decide +kernel
theorem dX8_goodOrders_13 : decode cX8_goodOrders 13 = .ok (.aload_n 0, 1) := by decide +kernel
theorem dX8_goodOrders_14 : decode cX8_goodOrders 14 = .ok (.invokevirtual 233, 3) := by decide +kernel
theorem dX8_goodOrders_17 : decode cX8_goodOrders 17 = .ok (.ifCond .eq 7, 3) := by decide +kernel
theorem dX8_goodOrders_20 : decode cX8_goodOrders 20 = .ok (.iconst 1, 1) := by decide +kernel
theorem dX8_goodOrders_21 : decode cX8_goodOrders 21 = .ok (.goto 4, 3) := by decide +kernel
theorem dX8_goodOrders_24 : decode cX8_goodOrders 24 = .ok (.iconst 0, 1) := by decide +kernel
theorem dX8_goodOrders_25 : decode cX8_goodOrders 25 = .ok (.iadd, 1) := by decide +kernel
theorem dX8_goodOrders_26 : decode cX8_goodOrders 26 = .ok (.istore_n 1, 1) := by decide +kernel
theorem dX8_goodOrders_27 : decode cX8_goodOrders 27 = .ok (.aload_n 0, 1) := by decide +kernel
theorem dX8_goodOrders_28 : decode cX8_goodOrders 28 = .ok (.invokevirtual 236, 3) := by decide +kernel
theorem dX8_goodOrders_31 : decode cX8_goodOrders 31 = .ok (.istore_n 2, 1) := by decide +kernel
theorem dX8_goodOrders_32 : decode cX8_goodOrders 32 = .ok (.goto (-24), 3) := by decide +kernel
theorem dX8_goodOrders_35 : decode cX8_goodOrders 35 = .ok (.iload_n 1, 1) := by decide +kernel
theorem dX8_goodOrders_36 : decode cX8_goodOrders 36 = .ok (.ireturn, 1) := by decide +kernel
theorem dX8_packed_0 : decode cX8_packed 0 = .ok (.iconst 0, 1) := by decide +kernel
theorem dX8_packed_1 : decode cX8_packed 1 = .ok (.istore_n 1, 1) := by decide +kernel
theorem dX8_packed_2 : decode cX8_packed 2 = .ok (.aload_n 0, 1) := by decide +kernel
theorem dX8_packed_3 : decode cX8_packed 3 = .ok (.getfield 7, 3) := by decide +kernel
theorem dX8_packed_6 : decode cX8_packed 6 = .ok (.iconst 1, 1) := by decide +kernel
theorem dX8_packed_7 : decode cX8_packed 7 = .ok (.iaload, 1) := by decide +kernel
theorem dX8_packed_8 : decode cX8_packed 8 = .ok (.iconst 1, 1) := by decide +kernel
theorem dX8_packed_9 : decode cX8_packed 9 = .ok (.isub, 1) := by decide +kernel
theorem dX8_packed_10 : decode cX8_packed 10 = .ok (.istore_n 2, 1) := by decide +kernel
theorem dX8_packed_11 : decode cX8_packed 11 = .ok (.iload_n 2, 1) := by decide +kernel
theorem dX8_packed_12 : decode cX8_packed 12 = .ok (.ifCond .lt 20, 3) := by decide +kernel
theorem dX8_packed_15 : decode cX8_packed 15 = .ok (.iload_n 1, 1) := by decide +kernel
theorem dX8_packed_16 : decode cX8_packed 16 = .ok (.iconst 4, 1) := by decide +kernel
theorem dX8_packed_17 : decode cX8_packed 17 = .ok (.ishl, 1) := by decide +kernel
theorem dX8_packed_18 : decode cX8_packed 18 = .ok (.aload_n 0, 1) := by decide +kernel
theorem dX8_packed_19 : decode cX8_packed 19 = .ok (.getfield 70, 3) := by decide +kernel
theorem dX8_packed_22 : decode cX8_packed 22 = .ok (.iload_n 2, 1) := by decide +kernel
theorem dX8_packed_23 : decode cX8_packed 23 = .ok (.iaload, 1) := by decide +kernel
theorem dX8_packed_24 : decode cX8_packed 24 = .ok (.ior, 1) := by decide +kernel
theorem dX8_packed_25 : decode cX8_packed 25 = .ok (.istore_n 1, 1) := by decide +kernel
theorem dX8_packed_26 : decode cX8_packed 26 = .ok (.iinc 2 (-1), 3) := by decide +kernel
theorem dX8_packed_29 : decode cX8_packed 29 = .ok (.goto (-18), 3) := by decide +kernel
theorem dX8_packed_32 : decode cX8_packed 32 = .ok (.iload_n 1, 1) := by decide +kernel
theorem dX8_packed_33 : decode cX8_packed 33 = .ok (.ireturn, 1) := by decide +kernel
theorem dX8_order_0 : decode cX8_order 0 = .ok (.aload_n 0, 1) := by decide +kernel
theorem dX8_order_1 : decode cX8_order 1 = .ok (.iconst 0, 1) := by decide +kernel
theorem dX8_order_2 : decode cX8_order 2 = .ok (.putfield 95, 3) := by decide +kernel
theorem dX8_order_5 : decode cX8_order 5 = .ok (.iconst 0, 1) := by decide +kernel
theorem dX8_order_6 : decode cX8_order 6 = .ok (.istore_n 2, 1) := by decide +kernel
theorem dX8_order_7 : decode cX8_order 7 = .ok (.iconst 0, 1) := by decide +kernel
theorem dX8_order_8 : decode cX8_order 8 = .ok (.istore_n 3, 1) := by decide +kernel
theorem dX8_order_9 : decode cX8_order 9 = .ok (.iload_n 3, 1) := by decide +kernel
theorem dX8_order_10 : decode cX8_order 10 = .ok (.aload_n 0, 1) := by decide +kernel
theorem dX8_order_11 : decode cX8_order 11 = .ok (.getfield 7, 3) := by decide +kernel
theorem dX8_order_14 : decode cX8_order 14 = .ok (.iconst 1, 1) := by decide +kernel
theorem dX8_order_15 : decode cX8_order 15 = .ok (.iaload, 1) := by decide +kernel
theorem dX8_order_16 : decode cX8_order 16 = .ok (.if_icmp .ge 48, 3) := by decide +kernel
theorem dX8_order_19 : decode cX8_order 19 = .ok (.aload_n 0, 1) := by decide +kernel
theorem dX8_order_20 : decode cX8_order 20 = .ok (.getfield 70, 3) := by decide +kernel
theorem dX8_order_23 : decode cX8_order 23 = .ok (.iload_n 3, 1) := by decide +kernel
theorem dX8_order_24 : decode cX8_order 24 = .ok (.iload_n 1, 1) := by decide +kernel
theorem dX8_order_25 : decode cX8_order 25 = .ok (.iconst 4, 1) := by decide +kernel
theorem dX8_order_26 : decode cX8_order 26 = .ok (.iload_n 3, 1) := by decide +kernel
theorem dX8_order_27 : decode cX8_order 27 = .ok (.imul, 1) := by decide +kernel
theorem dX8_order_28 : decode cX8_order 28 = .ok (.ishr, 1) := by decide +kernel
theorem dX8_order_29 : decode cX8_order 29 = .ok (.bipush 15, 2) := by decide +kernel
theorem dX8_order_31 : decode cX8_order 31 = .ok (.iand, 1) := by decide +kernel
theorem dX8_order_32 : decode cX8_order 32 = .ok (.iastore, 1) := by decide +kernel
theorem dX8_order_33 : decode cX8_order 33 = .ok (.iload_n 2, 1) := by decide +kernel
theorem dX8_order_34 : decode cX8_order 34 = .ok (.ifCond .ne 18, 3) := by decide +kernel
