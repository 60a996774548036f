theorem dX8_isVoter_8 : decode cX8_isVoter 8 = .ok (.iconst 1, 1) := by decide +kernel
theorem dX8_isVoter_9 : decode cX8_isVoter 9 = .ok (.isub, 1) := by decide +kernel
theorem dX8_isVoter_10 : decode cX8_isVoter 10 = .ok (.invokestatic 106, 3) := by decide +kernel
theorem dX8_isVoter_13 : decode cX8_isVoter 13 = .ok (.ireturn, 1) := by decide +kernel
theorem dX8_best_0 : decode cX8_best 0 = .ok (.aload_n 0, 1) := by decide +kernel
theorem dX8_best_1 : decode cX8_best 1 = .ok (.iconst 0, 1) := by decide +kernel
theorem dX8_best_2 : decode cX8_best 2 = .ok (.putfield 95, 3) := by decide +kernel
theorem dX8_best_5 : decode cX8_best 5 = .ok (.aload_n 0, 1) := by decide +kernel
theorem dX8_best_6 : decode cX8_best 6 = .ok (.iload_n 1, 1) := by decide +kernel
theorem dX8_best_7 : decode cX8_best 7 = .ok (.invokevirtual 305, 3) := by decide +kernel
theorem dX8_best_10 : decode cX8_best 10 = .ok (.ifCond .eq 20, 3) := by decide +kernel
theorem dX8_best_13 : decode cX8_best 13 = .ok (.aload_n 0, 1) := by decide +kernel
theorem dX8_best_14 : decode cX8_best 14 = .ok (.iload_n 2, 1) := by decide +kernel
theorem dX8_best_15 : decode cX8_best 15 = .ok (.invokevirtual 281, 3) := by decide +kernel
theorem dX8_best_18 : decode cX8_best 18 = .ok (.ifCond .eq 12, 3) := by decide +kernel
theorem dX8_best_21 : decode cX8_best 21 = .ok (.iload_n 3, 1) := by decide +kernel
theorem dX8_best_22 : decode cX8_best 22 = .ok (.iconst 0, 1) := by decide +kernel
theorem dX8_best_23 : decode cX8_best 23 = .ok (.iconst 2, 1) := by decide +kernel
theorem dX8_best_24 : decode cX8_best 24 = .ok (.invokestatic 106, 3) := by decide +kernel
theorem dX8_best_27 : decode cX8_best 27 = .ok (.ifCond .ne 5, 3) := by decide +kernel
theorem dX8_best_30 : decode cX8_best 30 = .ok (.iconst (-1), 1) := by decide +kernel
theorem dX8_best_31 : decode cX8_best 31 = .ok (.ireturn, 1) := by decide +kernel
theorem dX8_best_32 : decode cX8_best 32 = .ok (.aload_n 0, 1) := by decide +kernel
theorem dX8_best_33 : decode cX8_best 33 = .ok (.invokevirtual 272, 3) := by decide +kernel
theorem dX8_best_36 : decode cX8_best 36 = .ok (.aload_n 0, 1) := by decide +kernel
theorem dX8_best_37 : decode cX8_best 37 = .ok (.invokevirtual 230, 3) := by decide +kernel
theorem dX8_best_40 : decode cX8_best 40 = .ok (.iconst (-1), 1) := by decide +kernel
theorem dX8_best_41 : decode cX8_best 41 = .ok (.istore 4, 2) := by decide +kernel
theorem dX8_best_43 : decode cX8_best 43 = .ok (.iconst 0, 1) := by decide +kernel
theorem dX8_best_44 : decode cX8_best 44 = .ok (.istore 5, 2) := by decide +kernel
theorem dX8_best_46 : decode cX8_best 46 = .ok (.iconst 0, 1) := by decide +kernel
theorem dX8_best_47 : decode cX8_best 47 = .ok (.istore 6, 2) := by decide +kernel
theorem dX8_best_49 : decode cX8_best 49 = .ok (.iconst 1, 1) := by decide +kernel
theorem dX8_best_50 : decode cX8_best 50 = .ok (.istore 7, 2) := by decide +kernel
theorem dX8_best_52 : decode cX8_best 52 = .ok (.iload 7, 2) := by decide +kernel
theorem dX8_best_54 : decode cX8_best 54 = .ok (.ifCond .eq 108, 3) := by decide +kernel
theorem dX8_best_57 : decode cX8_best 57 = .ok (.aload_n 0, 1) := by decide +kernel
theorem dX8_best_58 : decode cX8_best 58 = .ok (.invokevirtual 233, 3) := by decide +kernel
theorem dX8_best_61 : decode cX8_best 61 = .ok (.ifCond .eq 92, 3) := by decide +kernel
theorem dX8_best_64 : decode cX8_best 64 = .ok (.aload_n 0, 1) := by decide +kernel
theorem dX8_best_65 : decode cX8_best 65 = .ok (.aload_n 0, 1) := by decide +kernel
theorem dX8_best_66 : decode cX8_best 66 = .ok (.getfield 7, 3) := by decide +kernel
theorem dX8_best_69 : decode cX8_best 69 = .ok (.iconst 1, 1) := by decide +kernel
theorem dX8_best_70 : decode cX8_best 70 = .ok (.iaload, 1) := by decide +kernel
theorem dX8_best_71 : decode cX8_best 71 = .ok (.iload_n 2, 1) := by decide +kernel
theorem dX8_best_72 : decode cX8_best 72 = .ok (.invokevirtual 278, 3) := by decide +kernel
theorem dX8_best_75 : decode cX8_best 75 = .ok (.aload_n 0, 1) := by decide +kernel
theorem dX8_best_76 : decode cX8_best 76 = .ok (.getfield 76, 3) := by decide +kernel
theorem dX8_best_79 : decode cX8_best 79 = .ok (.iconst 0, 1) := by decide +kernel
theorem dX8_best_80 : decode cX8_best 80 = .ok (.iaload, 1) := by decide +kernel
theorem dX8_best_81 : decode cX8_best 81 = .ok (.istore 8, 2) := by decide +kernel
theorem dX8_best_83 : decode cX8_best 83 = .ok (.iload 4, 2) := by decide +kernel
theorem dX8_best_85 : decode cX8_best 85 = .ok (.iconst (-1), 1) := by decide +kernel
theorem dX8_best_86 : decode cX8_best 86 = .ok (.if_icmp .eq 15, 3) := by decide +kernel
theorem dX8_best_89 : decode cX8_best 89 = .ok (.aload_n 0, 1) := by decide +kernel
theorem dX8_best_90 : decode cX8_best 90 = .ok (.iload_n 1, 1) := by decide +kernel
theorem dX8_best_91 : decode cX8_best 91 = .ok (.iload 8, 2) := by decide +kernel
theorem dX8_best_93 : decode cX8_best 93 = .ok (.iload 4, 2) := by decide +kernel
theorem dX8_best_95 : decode cX8_best 95 = .ok (.invokevirtual 250, 3) := by decide +kernel
theorem dX8_best_98 : decode cX8_best 98 = .ok (.ifCond .eq 16, 3) := by decide +kernel
theorem dX8_best_101 : decode cX8_best 101 = .ok (.iload 8, 2) := by decide +kernel
theorem dX8_best_103 : decode cX8_best 103 = .ok (.istore 4, 2) := by decide +kernel
theorem dX8_best_105 : decode cX8_best 105 = .ok (.aload_n 0, 1) := by decide +kernel
theorem dX8_best_106 : decode cX8_best 106 = .ok (.invokevirtual 308, 3) := by decide +kernel
theorem dX8_best_109 : decode cX8_best 109 = .ok (.istore 5, 2) := by decide +kernel
theorem dX8_best_111 : decode cX8_best 111 = .ok (.iconst 0, 1) := by decide +kernel
theorem dX8_best_112 : decode cX8_best 112 = .ok (.istore 6, 2) := by decide +kernel
theorem dX8_best_114 : decode cX8_best 114 = .ok (.iload 6, 2) := by decide +kernel
theorem dX8_best_116 : decode cX8_best 116 = .ok (.aload_n 0, 1) := by decide +kernel
theorem dX8_best_117 : decode cX8_best 117 = .ok (.getfield 73, 3) := by decide +kernel
theorem dX8_best_120 : decode cX8_best 120 = .ok (.sipush 256, 3) := by decide +kernel
theorem dX8_best_123 : decode cX8_best 123 = .ok (.iload_n 1, 1) := by decide +kernel
theorem dX8_best_124 : decode cX8_best 124 = .ok (.imul, 1) := by decide +kernel
theorem dX8_best_125 : decode cX8_best 125 = .ok (.iload 8, 2) := by decide +kernel
theorem dX8_best_127 : decode cX8_best 127 = .ok (.iadd, 1) := by decide +kernel
theorem dX8_best_128 : decode cX8_best 128 = .ok (.iaload, 1) := by decide +kernel
theorem dX8_best_129 : decode cX8_best 129 = .ok (.aload_n 0, 1) := by decide +kernel
theorem dX8_best_130 : decode cX8_best 130 = .ok (.getfield 73, 3) := by decide +kernel
theorem dX8_best_133 : decode cX8_best 133 = .ok (.sipush 256, 3) := by decide +kernel
theorem dX8_best_136 : decode cX8_best 136 = .ok (.iload_n 1, 1) := by decide +kernel
theorem dX8_best_137 : decode cX8_best 137 = .ok (.imul, 1) := by decide +kernel
theorem dX8_best_138 : decode cX8_best 138 = .ok (.iload 4, 2) := by decide +kernel
theorem dX8_best_140 : decode cX8_best 140 = .ok (.iadd, 1) := by decide +kernel
theorem dX8_best_141 : decode cX8_best 141 = .ok (.iaload, 1) := by decide +kernel
theorem dX8_best_142 : decode cX8_best 142 = .ok (.if_icmp .ne 7, 3) := by decide +kernel
theorem dX8_best_145 : decode cX8_best 145 = .ok (.iconst 1, 1) := by decide +kernel
theorem dX8_best_146 : decode cX8_best 146 = .ok (.goto 4, 3) := by decide +kernel
theorem dX8_best_149 : decode cX8_best 149 = .ok (.iconst 0, 1) := by decide +kernel
theorem dX8_best_150 : decode cX8_best 150 = .ok (.iadd, 1) := by decide +kernel
theorem dX8_best_151 : decode cX8_best 151 = .ok (.istore 6, 2) := by decide +kernel
theorem dX8_best_153 : decode cX8_best 153 = .ok (.aload_n 0, 1) := by decide +kernel
theorem dX8_best_154 : decode cX8_best 154 = .ok (.invokevirtual 236, 3) := by decide +kernel
theorem dX8_best_157 : decode cX8_best 157 = .ok (.istore 7, 2) := by decide +kernel
theorem dX8_best_159 : decode cX8_best 159 = .ok (.goto (-107), 3) := by decide +kernel
theorem dX8_best_162 : decode cX8_best 162 = .ok (.iload_n 3, 1) := by decide +kernel
theorem dX8_best_163 : decode cX8_best 163 = .ok (.ifCond .ne 8, 3) := by decide +kernel
theorem dX8_best_166 : decode cX8_best 166 = .ok (.iload 4, 2) := by decide +kernel
theorem dX8_best_168 : decode cX8_best 168 = .ok (.goto 15, 3) := by decide +kernel
theorem dX8_best_171 : decode cX8_best 171 = .ok (.iload_n 3, 1) := by decide +kernel
theorem dX8_best_172 : decode cX8_best 172 = .ok (.iconst 1, 1) := by decide +kernel
theorem dX8_best_173 : decode cX8_best 173 = .ok (.if_icmp .ne 8, 3) := by decide +kernel
theorem dX8_best_176 : decode cX8_best 176 = .ok (.iload 5, 2) := by decide +kernel
theorem dX8_best_178 : decode cX8_best 178 = .ok (.goto 5, 3) := by decide +kernel
theorem dX8_best_181 : decode cX8_best 181 = .ok (.iload 6, 2) := by decide +kernel
theorem dX8_best_183 : decode cX8_best 183 = .ok (.ireturn, 1) := by decide +kernel
theorem dX8_laysOpen_0 : decode cX8_laysOpen 0 = .ok (.iconst 0, 1) := by decide +kernel
theorem dX8_laysOpen_1 : decode cX8_laysOpen 1 = .ok (.istore_n 1, 1) := by decide +kernel
theorem dX8_laysOpen_2 : decode cX8_laysOpen 2 = .ok (.iload_n 1, 1) := by decide +kernel
theorem dX8_laysOpen_3 : decode cX8_laysOpen 3 = .ok (.sipush 256, 3) := by decide +kernel
theorem dX8_laysOpen_6 : decode cX8_laysOpen 6 = .ok (.if_icmp .ge 24, 3) := by decide +kernel
theorem dX8_laysOpen_9 : decode cX8_laysOpen 9 = .ok (.aload_n 0, 1) := by decide +kernel
theorem dX8_laysOpen_10 : decode cX8_laysOpen 10 = .ok (.getfield 85, 3) := by decide +kernel
theorem dX8_laysOpen_13 : decode cX8_laysOpen 13 = .ok (.iload_n 1, 1) := by decide +kernel
theorem dX8_laysOpen_14 : decode cX8_laysOpen 14 = .ok (.iload_n 1, 1) := by decide +kernel
theorem dX8_laysOpen_15 : decode cX8_laysOpen 15 = .ok (.ifCond .ne 7, 3) := by decide +kernel
theorem dX8_laysOpen_18 : decode cX8_laysOpen 18 = .ok (.iconst 1, 1) := by decide +kernel
theorem dX8_laysOpen_19 : decode cX8_laysOpen 19 = .ok (.goto 4, 3) := by decide +kernel
theorem dX8_laysOpen_22 : decode cX8_laysOpen 22 = .ok (.iconst 0, 1) := by decide +kernel
theorem dX8_laysOpen_23 : decode cX8_laysOpen 23 = .ok (.bastore, 1) := by decide +kernel
theorem dX8_laysOpen_24 : decode cX8_laysOpen 24 = .ok (.iinc 1 1, 3) := by decide +kernel
theorem dX8_laysOpen_27 : decode cX8_laysOpen 27 = .ok (.goto (-25), 3) := by decide +kernel
theorem dX8_laysOpen_30 : decode cX8_laysOpen 30 = .ok (.iconst 0, 1) := by decide +kernel
theorem dX8_laysOpen_31 : decode cX8_laysOpen 31 = .ok (.istore_n 1, 1) := by decide +kernel
theorem dX8_laysOpen_32 : decode cX8_laysOpen 32 = .ok (.iload_n 1, 1) := by decide +kernel
theorem dX8_laysOpen_33 : decode cX8_laysOpen 33 = .ok (.iconst 1, 1) := by decide +kernel
theorem dX8_laysOpen_34 : decode cX8_laysOpen 34 = .ok (.aload_n 0, 1) := by decide +kernel
theorem dX8_laysOpen_35 : decode cX8_laysOpen 35 = .ok (.getfield 7, 3) := by decide +kernel
theorem dX8_laysOpen_38 : decode cX8_laysOpen 38 = .ok (.iconst 1, 1) := by decide +kernel
theorem dX8_laysOpen_39 : decode cX8_laysOpen 39 = .ok (.iaload, 1) := by decide +kernel
theorem dX8_laysOpen_40 : decode cX8_laysOpen 40 = .ok (.ishl, 1) := by decide +kernel
theorem dX8_laysOpen_41 : decode cX8_laysOpen 41 = .ok (.if_icmp .ge 20, 3) := by decide +kernel
theorem dX8_laysOpen_44 : decode cX8_laysOpen 44 = .ok (.aload_n 0, 1) := by decide +kernel
theorem dX8_laysOpen_45 : decode cX8_laysOpen 45 = .ok (.getfield 85, 3) := by decide +kernel
theorem dX8_laysOpen_48 : decode cX8_laysOpen 48 = .ok (.aload_n 0, 1) := by decide +kernel
theorem dX8_laysOpen_49 : decode cX8_laysOpen 49 = .ok (.iload_n 1, 1) := by decide +kernel
theorem dX8_laysOpen_50 : decode cX8_laysOpen 50 = .ok (.invokevirtual 243, 3) := by decide +kernel
theorem dX8_laysOpen_53 : decode cX8_laysOpen 53 = .ok (.iconst 1, 1) := by decide +kernel
theorem dX8_laysOpen_54 : decode cX8_laysOpen 54 = .ok (.bastore, 1) := by decide +kernel
theorem dX8_laysOpen_55 : decode cX8_laysOpen 55 = .ok (.iinc 1 1, 3) := by decide +kernel
theorem dX8_laysOpen_58 : decode cX8_laysOpen 58 = .ok (.goto (-26), 3) := by decide +kernel
theorem dX8_laysOpen_61 : decode cX8_laysOpen 61 = .ok (.iconst 0, 1) := by decide +kernel
theorem dX8_laysOpen_62 : decode cX8_laysOpen 62 = .ok (.istore_n 1, 1) := by decide +kernel
theorem dX8_laysOpen_63 : decode cX8_laysOpen 63 = .ok (.iconst 0, 1) := by decide +kernel
theorem dX8_laysOpen_64 : decode cX8_laysOpen 64 = .ok (.istore_n 2, 1) := by decide +kernel
theorem dX8_laysOpen_65 : decode cX8_laysOpen 65 = .ok (.iload_n 2, 1) := by decide +kernel
theorem dX8_laysOpen_66 : decode cX8_laysOpen 66 = .ok (.sipush 256, 3) := by decide +kernel
theorem dX8_laysOpen_69 : decode cX8_laysOpen 69 = .ok (.if_icmp .ge 26, 3) := by decide +kernel
theorem dX8_laysOpen_72 : decode cX8_laysOpen 72 = .ok (.iload_n 1, 1) := by decide +kernel
theorem dX8_laysOpen_73 : decode cX8_laysOpen 73 = .ok (.aload_n 0, 1) := by decide +kernel
theorem dX8_laysOpen_74 : decode cX8_laysOpen 74 = .ok (.getfield 85, 3) := by decide +kernel
theorem dX8_laysOpen_77 : decode cX8_laysOpen 77 = .ok (.iload_n 2, 1) := by decide +kernel
theorem dX8_laysOpen_78 : decode cX8_laysOpen 78 = .ok (.baload, 1) := by decide +kernel
theorem dX8_laysOpen_79 : decode cX8_laysOpen 79 = .ok (.ifCond .eq 7, 3) := by decide +kernel
theorem dX8_laysOpen_82 : decode cX8_laysOpen 82 = .ok (.iconst 1, 1) := by decide +kernel
theorem dX8_laysOpen_83 : decode cX8_laysOpen 83 = .ok (.goto 4, 3) := by decide +kernel
theorem dX8_laysOpen_86 : decode cX8_laysOpen 86 = .ok (.iconst 0, 1) := by decide +kernel
theorem dX8_laysOpen_87 : decode cX8_laysOpen 87 = .ok (.iadd, 1) := by decide +kernel
theorem dX8_laysOpen_88 : decode cX8_laysOpen 88 = .ok (.istore_n 1, 1) := by decide +kernel
theorem dX8_laysOpen_89 : decode cX8_laysOpen 89 = .ok (.iinc 2 1, 3) := by decide +kernel
theorem dX8_laysOpen_92 : decode cX8_laysOpen 92 = .ok (.goto (-27), 3) := by decide +kernel
theorem dX8_laysOpen_95 : decode cX8_laysOpen 95 = .ok (.aload_n 0, 1) := by decide +kernel
theorem dX8_laysOpen_96 : decode cX8_laysOpen 96 = .ok (.invokevirtual 272, 3) := by decide +kernel
theorem dX8_laysOpen_99 : decode cX8_laysOpen 99 = .ok (.iload_n 1, 1) := by decide +kernel
theorem dX8_laysOpen_100 : decode cX8_laysOpen 100 = .ok (.ireturn, 1) := by decide +kernel
theorem dX8_beats_0 : decode cX8_beats 0 = .ok (.aload_n 0, 1) := by decide +kernel
theorem dX8_beats_1 : decode cX8_beats 1 = .ok (.iload_n 1, 1) := by decide +kernel
theorem dX8_beats_2 : decode cX8_beats 2 = .ok (.iload_n 2, 1) := by decide +kernel
theorem dX8_beats_3 : decode cX8_beats 3 = .ok (.invokevirtual 259, 3) := by decide +kernel
theorem dX8_beats_6 : decode cX8_beats 6 = .ok (.aload_n 0, 1) := by decide +kernel
theorem dX8_beats_7 : decode cX8_beats 7 = .ok (.iload_n 2, 1) := by decide +kernel
theorem dX8_beats_8 : decode cX8_beats 8 = .ok (.iload_n 1, 1) := by decide +kernel
theorem dX8_beats_9 : decode cX8_beats 9 = .ok (.invokevirtual 259, 3) := by decide +kernel
theorem dX8_beats_12 : decode cX8_beats 12 = .ok (.if_icmp .le 7, 3) := by decide +kernel
theorem dX8_beats_15 : decode cX8_beats 15 = .ok (.iconst 1, 1) := by decide +kernel
theorem dX8_beats_16 : decode cX8_beats 16 = .ok (.goto 4, 3) := by decide +kernel
theorem dX8_beats_19 : decode cX8_beats 19 = .ok (.iconst 0, 1) := by decide +kernel
theorem dX8_beats_20 : decode cX8_beats 20 = .ok (.ireturn, 1) := by decide +kernel
theorem dX8_growsFrom_0 : decode cX8_growsFrom 0 = .ok (.iconst 0, 1) := by decide +kernel
theorem dX8_growsFrom_1 : decode cX8_growsFrom 1 = .ok (.istore_n 2, 1) := by decide +kernel
theorem dX8_growsFrom_2 : decode cX8_growsFrom 2 = .ok (.iload_n 2, 1) := by decide +kernel
theorem dX8_growsFrom_3 : decode cX8_growsFrom 3 = .ok (.sipush 256, 3) := by decide +kernel
theorem dX8_growsFrom_6 : decode cX8_growsFrom 6 = .ok (.if_icmp .ge 25, 3) := by decide +kernel
theorem dX8_growsFrom_9 : decode cX8_growsFrom 9 = .ok (.aload_n 0, 1) := by decide +kernel
theorem dX8_growsFrom_10 : decode cX8_growsFrom 10 = .ok (.getfield 92, 3) := by decide +kernel
theorem dX8_growsFrom_13 : decode cX8_growsFrom 13 = .ok (.iload_n 2, 1) := by decide +kernel
theorem dX8_growsFrom_14 : decode cX8_growsFrom 14 = .ok (.iload_n 2, 1) := by decide +kernel
theorem dX8_growsFrom_15 : decode cX8_growsFrom 15 = .ok (.iload_n 1, 1) := by decide +kernel
theorem dX8_growsFrom_16 : decode cX8_growsFrom 16 = .ok (.if_icmp .ne 7, 3) := by decide +kernel
theorem dX8_growsFrom_19 : decode cX8_growsFrom 19 = .ok (.iconst 1, 1) := by decide +kernel
theorem dX8_growsFrom_20 : decode cX8_growsFrom 20 = .ok (.goto 4, 3) := by decide +kernel
theorem dX8_growsFrom_23 : decode cX8_growsFrom 23 = .ok (.iconst 0, 1) := by decide +kernel
theorem dX8_growsFrom_24 : decode cX8_growsFrom 24 = .ok (.bastore, 1) := by decide +kernel
theorem dX8_growsFrom_25 : decode cX8_growsFrom 25 = .ok (.iinc 2 1, 3) := by decide +kernel
theorem dX8_growsFrom_28 : decode cX8_growsFrom 28 = .ok (.goto (-26), 3) := by decide +kernel
theorem dX8_growsFrom_31 : decode cX8_growsFrom 31 = .ok (.iconst 1, 1) := by decide +kernel
theorem dX8_growsFrom_32 : decode cX8_growsFrom 32 = .ok (.istore_n 2, 1) := by decide +kernel
theorem dX8_growsFrom_33 : decode cX8_growsFrom 33 = .ok (.iconst 1, 1) := by decide +kernel
theorem dX8_growsFrom_34 : decode cX8_growsFrom 34 = .ok (.istore_n 3, 1) := by decide +kernel
theorem dX8_growsFrom_35 : decode cX8_growsFrom 35 = .ok (.iload_n 3, 1) := by decide +kernel
theorem dX8_growsFrom_36 : decode cX8_growsFrom 36 = .ok (.ifCond .eq 67, 3) := by decide +kernel
theorem dX8_growsFrom_39 : decode cX8_growsFrom 39 = .ok (.iconst 0, 1) := by decide +kernel
theorem dX8_growsFrom_40 : decode cX8_growsFrom 40 = .ok (.istore_n 3, 1) := by decide +kernel
theorem dX8_growsFrom_41 : decode cX8_growsFrom 41 = .ok (.iconst 0, 1) := by decide +kernel
theorem dX8_growsFrom_42 : decode cX8_growsFrom 42 = .ok (.istore 4, 2) := by decide +kernel
theorem dX8_growsFrom_44 : decode cX8_growsFrom 44 = .ok (.iload 4, 2) := by decide +kernel
theorem dX8_growsFrom_46 : decode cX8_growsFrom 46 = .ok (.sipush 256, 3) := by decide +kernel
theorem dX8_growsFrom_49 : decode cX8_growsFrom 49 = .ok (.if_icmp .ge 51, 3) := by decide +kernel
theorem dX8_growsFrom_52 : decode cX8_growsFrom 52 = .ok (.aload_n 0, 1) := by decide +kernel
theorem dX8_growsFrom_53 : decode cX8_growsFrom 53 = .ok (.getfield 85, 3) := by decide +kernel
theorem dX8_growsFrom_56 : decode cX8_growsFrom 56 = .ok (.iload 4, 2) := by decide +kernel
theorem dX8_growsFrom_58 : decode cX8_growsFrom 58 = .ok (.baload, 1) := by decide +kernel
theorem dX8_growsFrom_59 : decode cX8_growsFrom 59 = .ok (.ifCond .eq 35, 3) := by decide +kernel
theorem dX8_growsFrom_62 : decode cX8_growsFrom 62 = .ok (.aload_n 0, 1) := by decide +kernel
theorem dX8_growsFrom_63 : decode cX8_growsFrom 63 = .ok (.getfield 92, 3) := by decide +kernel
theorem dX8_growsFrom_66 : decode cX8_growsFrom 66 = .ok (.iload 4, 2) := by decide +kernel
theorem dX8_growsFrom_68 : decode cX8_growsFrom 68 = .ok (.baload, 1) := by decide +kernel
theorem dX8_growsFrom_69 : decode cX8_growsFrom 69 = .ok (.ifCond .ne 25, 3) := by decide +kernel
theorem dX8_growsFrom_72 : decode cX8_growsFrom 72 = .ok (.aload_n 0, 1) := by decide +kernel
theorem dX8_growsFrom_73 : decode cX8_growsFrom 73 = .ok (.iload 4, 2) := by decide +kernel
theorem dX8_growsFrom_75 : decode cX8_growsFrom 75 = .ok (.invokevirtual 311, 3) := by decide +kernel
theorem dX8_growsFrom_78 : decode cX8_growsFrom 78 = .ok (.ifCond .ne 16, 3) := by decide +kernel
theorem dX8_growsFrom_81 : decode cX8_growsFrom 81 = .ok (.aload_n 0, 1) := by decide +kernel
theorem dX8_growsFrom_82 : decode cX8_growsFrom 82 = .ok (.getfield 92, 3) := by decide +kernel
theorem dX8_growsFrom_85 : decode cX8_growsFrom 85 = .ok (.iload 4, 2) := by decide +kernel
theorem dX8_growsFrom_87 : decode cX8_growsFrom 87 = .ok (.iconst 1, 1) := by decide +kernel
theorem dX8_growsFrom_88 : decode cX8_growsFrom 88 = .ok (.bastore, 1) := by decide +kernel
theorem dX8_growsFrom_89 : decode cX8_growsFrom 89 = .ok (.iinc 2 1, 3) := by decide +kernel
theorem dX8_growsFrom_92 : decode cX8_growsFrom 92 = .ok (.iconst 1, 1) := by decide +kernel
theorem dX8_growsFrom_93 : decode cX8_growsFrom 93 = .ok (.istore_n 3, 1) := by decide +kernel
theorem dX8_growsFrom_94 : decode cX8_growsFrom 94 = .ok (.iinc 4 1, 3) := by decide +kernel
theorem dX8_growsFrom_97 : decode cX8_growsFrom 97 = .ok (.goto (-53), 3) := by decide +kernel
theorem dX8_growsFrom_100 : decode cX8_growsFrom 100 = .ok (.goto (-65), 3) := by decide +kernel
theorem dX8_growsFrom_103 : decode cX8_growsFrom 103 = .ok (.iload_n 2, 1) := by decide +kernel
theorem dX8_growsFrom_104 : decode cX8_growsFrom 104 = .ok (.ireturn, 1) := by decide +kernel
theorem dX8_isBelow_0 : decode cX8_isBelow 0 = .ok (.iconst 0, 1) := by decide +kernel
theorem dX8_isBelow_1 : decode cX8_isBelow 1 = .ok (.istore_n 2, 1) := by decide +kernel
theorem dX8_isBelow_2 : decode cX8_isBelow 2 = .ok (.iload_n 2, 1) := by decide +kernel
theorem dX8_isBelow_3 : decode cX8_isBelow 3 = .ok (.sipush 256, 3) := by decide +kernel
theorem dX8_isBelow_6 : decode cX8_isBelow 6 = .ok (.if_icmp .ge 29, 3) := by decide +kernel
theorem dX8_isBelow_9 : decode cX8_isBelow 9 = .ok (.aload_n 0, 1) := by decide +kernel
theorem dX8_isBelow_10 : decode cX8_isBelow 10 = .ok (.getfield 92, 3) := by decide +kernel
theorem dX8_isBelow_13 : decode cX8_isBelow 13 = .ok (.iload_n 2, 1) := by decide +kernel
theorem dX8_isBelow_14 : decode cX8_isBelow 14 = .ok (.baload, 1) := by decide +kernel
theorem dX8_isBelow_15 : decode cX8_isBelow 15 = .ok (.ifCond .eq 14, 3) := by decide +kernel
theorem dX8_isBelow_18 : decode cX8_isBelow 18 = .ok (.aload_n 0, 1) := by decide +kernel
theorem dX8_isBelow_19 : decode cX8_isBelow 19 = .ok (.iload_n 2, 1) := by decide +kernel
theorem dX8_isBelow_20 : decode cX8_isBelow 20 = .ok (.iload_n 1, 1) := by decide +kernel
theorem dX8_isBelow_21 : decode cX8_isBelow 21 = .ok (.invokevirtual 314, 3) := by decide +kernel
theorem dX8_isBelow_24 : decode cX8_isBelow 24 = .ok (.ifCond .ne 5, 3) := by decide +kernel
theorem dX8_isBelow_27 : decode cX8_isBelow 27 = .ok (.iconst 0, 1) := by decide +kernel
theorem dX8_isBelow_28 : decode cX8_isBelow 28 = .ok (.ireturn, 1) := by decide +kernel
theorem dX8_isBelow_29 : decode cX8_isBelow 29 = .ok (.iinc 2 1, 3) := by decide +kernel
theorem dX8_isBelow_32 : decode cX8_isBelow 32 = .ok (.goto (-30), 3) := by decide +kernel
theorem dX8_isBelow_35 : decode cX8_isBelow 35 = .ok (.iconst 1, 1) := by decide +kernel
theorem dX8_isBelow_36 : decode cX8_isBelow 36 = .ok (.ireturn, 1) := by decide +kernel
theorem dX8_laysTop_0 : decode cX8_laysTop 0 = .ok (.iconst (-1), 1) := by decide +kernel
theorem dX8_laysTop_1 : decode cX8_laysTop 1 = .ok (.istore_n 1, 1) := by decide +kernel
theorem dX8_laysTop_2 : decode cX8_laysTop 2 = .ok (.iconst 0, 1) := by decide +kernel
theorem dX8_laysTop_3 : decode cX8_laysTop 3 = .ok (.istore_n 2, 1) := by decide +kernel
theorem dX8_laysTop_4 : decode cX8_laysTop 4 = .ok (.iload_n 2, 1) := by decide +kernel
theorem dX8_laysTop_5 : decode cX8_laysTop 5 = .ok (.sipush 256, 3) := by decide +kernel
theorem dX8_laysTop_8 : decode cX8_laysTop 8 = .ok (.if_icmp .ge 73, 3) := by decide +kernel
theorem dX8_laysTop_11 : decode cX8_laysTop 11 = .ok (.aload_n 0, 1) := by decide +kernel
theorem dX8_laysTop_12 : decode cX8_laysTop 12 = .ok (.getfield 85, 3) := by decide +kernel
theorem dX8_laysTop_15 : decode cX8_laysTop 15 = .ok (.iload_n 2, 1) := by decide +kernel
theorem dX8_laysTop_16 : decode cX8_laysTop 16 = .ok (.baload, 1) := by decide +kernel
theorem dX8_laysTop_17 : decode cX8_laysTop 17 = .ok (.ifCond .ne 6, 3) := by decide +kernel
theorem dX8_laysTop_20 : decode cX8_laysTop 20 = .ok (.goto 55, 3) := by decide +kernel
theorem dX8_laysTop_23 : decode cX8_laysTop 23 = .ok (.aload_n 0, 1) := by decide +kernel
theorem dX8_laysTop_24 : decode cX8_laysTop 24 = .ok (.iload_n 2, 1) := by decide +kernel
theorem dX8_laysTop_25 : decode cX8_laysTop 25 = .ok (.invokevirtual 317, 3) := by decide +kernel
theorem dX8_laysTop_28 : decode cX8_laysTop 28 = .ok (.istore_n 3, 1) := by decide +kernel
theorem dX8_laysTop_29 : decode cX8_laysTop 29 = .ok (.iload_n 1, 1) := by decide +kernel
theorem dX8_laysTop_30 : decode cX8_laysTop 30 = .ok (.iconst (-1), 1) := by decide +kernel
theorem dX8_laysTop_31 : decode cX8_laysTop 31 = .ok (.if_icmp .eq 11, 3) := by decide +kernel
theorem dX8_laysTop_34 : decode cX8_laysTop 34 = .ok (.iload_n 3, 1) := by decide +kernel
theorem dX8_laysTop_35 : decode cX8_laysTop 35 = .ok (.iload_n 1, 1) := by decide +kernel
theorem dX8_laysTop_36 : decode cX8_laysTop 36 = .ok (.if_icmp .lt 6, 3) := by decide +kernel
theorem dX8_laysTop_39 : decode cX8_laysTop 39 = .ok (.goto 36, 3) := by decide +kernel
theorem dX8_laysTop_42 : decode cX8_laysTop 42 = .ok (.iload_n 3, 1) := by decide +kernel
theorem dX8_laysTop_43 : decode cX8_laysTop 43 = .ok (.istore_n 1, 1) := by decide +kernel
theorem dX8_laysTop_44 : decode cX8_laysTop 44 = .ok (.iconst 0, 1) := by decide +kernel
theorem dX8_laysTop_45 : decode cX8_laysTop 45 = .ok (.istore 4, 2) := by decide +kernel
theorem dX8_laysTop_47 : decode cX8_laysTop 47 = .ok (.iload 4, 2) := by decide +kernel
theorem dX8_laysTop_49 : decode cX8_laysTop 49 = .ok (.sipush 256, 3) := by decide +kernel
theorem dX8_laysTop_52 : decode cX8_laysTop 52 = .ok (.if_icmp .ge 23, 3) := by decide +kernel
theorem dX8_laysTop_55 : decode cX8_laysTop 55 = .ok (.aload_n 0, 1) := by decide +kernel
theorem dX8_laysTop_56 : decode cX8_laysTop 56 = .ok (.getfield 89, 3) := by decide +kernel
theorem dX8_laysTop_59 : decode cX8_laysTop 59 = .ok (.iload 4, 2) := by decide +kernel
theorem dX8_laysTop_61 : decode cX8_laysTop 61 = .ok (.aload_n 0, 1) := by decide +kernel
theorem dX8_laysTop_62 : decode cX8_laysTop 62 = .ok (.getfield 92, 3) := by decide +kernel
theorem dX8_laysTop_65 : decode cX8_laysTop 65 = .ok (.iload 4, 2) := by decide +kernel
theorem dX8_laysTop_67 : decode cX8_laysTop 67 = .ok (.baload, 1) := by decide +kernel
theorem dX8_laysTop_68 : decode cX8_laysTop 68 = .ok (.bastore, 1) := by decide +kernel
theorem dX8_laysTop_69 : decode cX8_laysTop 69 = .ok (.iinc 4 1, 3) := by decide +kernel
theorem dX8_laysTop_72 : decode cX8_laysTop 72 = .ok (.goto (-25), 3) := by decide +kernel
theorem dX8_laysTop_75 : decode cX8_laysTop 75 = .ok (.iinc 2 1, 3) := by decide +kernel
theorem dX8_laysTop_78 : decode cX8_laysTop 78 = .ok (.goto (-74), 3) := by decide +kernel
theorem dX8_laysTop_81 : decode cX8_laysTop 81 = .ok (.return_, 1) := by decide +kernel
theorem dX8_covers_0 : decode cX8_covers 0 = .ok (.aload_n 0, 1) := by decide +kernel
theorem dX8_covers_1 : decode cX8_covers 1 = .ok (.iload_n 1, 1) := by decide +kernel
theorem dX8_covers_2 : decode cX8_covers 2 = .ok (.iload_n 2, 1) := by decide +kernel
theorem dX8_covers_3 : decode cX8_covers 3 = .ok (.invokevirtual 314, 3) := by decide +kernel
theorem dX8_covers_6 : decode cX8_covers 6 = .ok (.ifCond .ne 5, 3) := by decide +kernel
theorem dX8_covers_9 : decode cX8_covers 9 = .ok (.iconst 0, 1) := by decide +kernel
theorem dX8_covers_10 : decode cX8_covers 10 = .ok (.ireturn, 1) := by decide +kernel
theorem dX8_covers_11 : decode cX8_covers 11 = .ok (.iconst 0, 1) := by decide +kernel
theorem dX8_covers_12 : decode cX8_covers 12 = .ok (.istore_n 3, 1) := by decide +kernel
theorem dX8_covers_13 : decode cX8_covers 13 = .ok (.iload_n 3, 1) := by decide +kernel
theorem dX8_covers_14 : decode cX8_covers 14 = .ok (.sipush 256, 3) := by decide +kernel
theorem dX8_covers_17 : decode cX8_covers 17 = .ok (.if_icmp .ge 38, 3) := by decide +kernel
theorem dX8_covers_20 : decode cX8_covers 20 = .ok (.aload_n 0, 1) := by decide +kernel
theorem dX8_covers_21 : decode cX8_covers 21 = .ok (.getfield 85, 3) := by decide +kernel
theorem dX8_covers_24 : decode cX8_covers 24 = .ok (.iload_n 3, 1) := by decide +kernel
theorem dX8_covers_25 : decode cX8_covers 25 = .ok (.baload, 1) := by decide +kernel
theorem dX8_covers_26 : decode cX8_covers 26 = .ok (.ifCond .eq 23, 3) := by decide +kernel
theorem dX8_covers_29 : decode cX8_covers 29 = .ok (.aload_n 0, 1) := by decide +kernel
theorem dX8_covers_30 : decode cX8_covers 30 = .ok (.iload_n 2, 1) := by decide +kernel
theorem dX8_covers_31 : decode cX8_covers 31 = .ok (.iload_n 3, 1) := by decide +kernel
theorem dX8_covers_32 : decode cX8_covers 32 = .ok (.invokevirtual 314, 3) := by decide +kernel
theorem dX8_covers_35 : decode cX8_covers 35 = .ok (.ifCond .eq 14, 3) := by decide +kernel
theorem dX8_covers_38 : decode cX8_covers 38 = .ok (.aload_n 0, 1) := by decide +kernel
theorem dX8_covers_39 : decode cX8_covers 39 = .ok (.iload_n 1, 1) := by decide +kernel
theorem dX8_covers_40 : decode cX8_covers 40 = .ok (.iload_n 3, 1) := by decide +kernel
theorem dX8_covers_41 : decode cX8_covers 41 = .ok (.invokevirtual 314, 3) := by decide +kernel
theorem dX8_covers_44 : decode cX8_covers 44 = .ok (.ifCond .ne 5, 3) := by decide +kernel
theorem dX8_covers_47 : decode cX8_covers 47 = .ok (.iconst 0, 1) := by decide +kernel
theorem dX8_covers_48 : decode cX8_covers 48 = .ok (.ireturn, 1) := by decide +kernel
theorem dX8_covers_49 : decode cX8_covers 49 = .ok (.iinc 3 1, 3) := by decide +kernel
theorem dX8_covers_52 : decode cX8_covers 52 = .ok (.goto (-39), 3) := by decide +kernel
theorem dX8_covers_55 : decode cX8_covers 55 = .ok (.iconst 1, 1) := by decide +kernel
theorem dX8_covers_56 : decode cX8_covers 56 = .ok (.ireturn, 1) := by decide +kernel
theorem dX8_isCovered_0 : decode cX8_isCovered 0 = .ok (.iconst 0, 1) := by decide +kernel
theorem dX8_isCovered_1 : decode cX8_isCovered 1 = .ok (.istore_n 2, 1) := by decide +kernel
theorem dX8_isCovered_2 : decode cX8_isCovered 2 = .ok (.iload_n 2, 1) := by decide +kernel
theorem dX8_isCovered_3 : decode cX8_isCovered 3 = .ok (.sipush 256, 3) := by decide +kernel
theorem dX8_isCovered_6 : decode cX8_isCovered 6 = .ok (.if_icmp .ge 34, 3) := by decide +kernel
theorem dX8_isCovered_9 : decode cX8_isCovered 9 = .ok (.aload_n 0, 1) := by decide +kernel
theorem dX8_isCovered_10 : decode cX8_isCovered 10 = .ok (.getfield 85, 3) := by decide +kernel
theorem dX8_isCovered_13 : decode cX8_isCovered 13 = .ok (.iload_n 2, 1) := by decide +kernel
theorem dX8_isCovered_14 : decode cX8_isCovered 14 = .ok (.baload, 1) := by decide +kernel
theorem dX8_isCovered_15 : decode cX8_isCovered 15 = .ok (.ifCond .eq 19, 3) := by decide +kernel
theorem dX8_isCovered_18 : decode cX8_isCovered 18 = .ok (.iload_n 2, 1) := by decide +kernel
theorem dX8_isCovered_19 : decode cX8_isCovered 19 = .ok (.iload_n 1, 1) := by decide +kernel
theorem dX8_isCovered_20 : decode cX8_isCovered 20 = .ok (.if_icmp .eq 14, 3) := by decide +kernel
theorem dX8_isCovered_23 : decode cX8_isCovered 23 = .ok (.aload_n 0, 1) := by decide +kernel
theorem dX8_isCovered_24 : decode cX8_isCovered 24 = .ok (.iload_n 2, 1) := by decide +kernel
theorem dX8_isCovered_25 : decode cX8_isCovered 25 = .ok (.iload_n 1, 1) := by decide +kernel
theorem dX8_isCovered_26 : decode cX8_isCovered 26 = .ok (.invokevirtual 320, 3) := by decide +kernel
theorem dX8_isCovered_29 : decode cX8_isCovered 29 = .ok (.ifCond .eq 5, 3) := by decide +kernel
theorem dX8_isCovered_32 : decode cX8_isCovered 32 = .ok (.iconst 1, 1) := by decide +kernel
theorem dX8_isCovered_33 : decode cX8_isCovered 33 = .ok (.ireturn, 1) := by decide +kernel
theorem dX8_isCovered_34 : decode cX8_isCovered 34 = .ok (.iinc 2 1, 3) := by decide +kernel
theorem dX8_isCovered_37 : decode cX8_isCovered 37 = .ok (.goto (-35), 3) := by decide +kernel
theorem dX8_isCovered_40 : decode cX8_isCovered 40 = .ok (.iconst 0, 1) := by decide +kernel
theorem dX8_isCovered_41 : decode cX8_isCovered 41 = .ok (.ireturn, 1) := by decide +kernel
theorem dX8_beaten_0 : decode cX8_beaten 0 = .ok (.iconst 0, 1) := by decide +kernel
theorem dX8_beaten_1 : decode cX8_beaten 1 = .ok (.istore_n 2, 1) := by decide +kernel
theorem dX8_beaten_2 : decode cX8_beaten 2 = .ok (.iconst 0, 1) := by decide +kernel
theorem dX8_beaten_3 : decode cX8_beaten 3 = .ok (.istore_n 3, 1) := by decide +kernel
theorem dX8_beaten_4 : decode cX8_beaten 4 = .ok (.iload_n 3, 1) := by decide +kernel
theorem dX8_beaten_5 : decode cX8_beaten 5 = .ok (.sipush 256, 3) := by decide +kernel
theorem dX8_beaten_8 : decode cX8_beaten 8 = .ok (.if_icmp .ge 35, 3) := by decide +kernel
theorem dX8_beaten_11 : decode cX8_beaten 11 = .ok (.iload_n 2, 1) := by decide +kernel
theorem dX8_beaten_12 : decode cX8_beaten 12 = .ok (.aload_n 0, 1) := by decide +kernel
theorem dX8_beaten_13 : decode cX8_beaten 13 = .ok (.getfield 85, 3) := by decide +kernel
theorem dX8_beaten_16 : decode cX8_beaten 16 = .ok (.iload_n 3, 1) := by decide +kernel
theorem dX8_beaten_17 : decode cX8_beaten 17 = .ok (.baload, 1) := by decide +kernel
theorem dX8_beaten_18 : decode cX8_beaten 18 = .ok (.ifCond .eq 16, 3) := by decide +kernel
theorem dX8_beaten_21 : decode cX8_beaten 21 = .ok (.aload_n 0, 1) := by decide +kernel
theorem dX8_beaten_22 : decode cX8_beaten 22 = .ok (.iload_n 1, 1) := by decide +kernel
theorem dX8_beaten_23 : decode cX8_beaten 23 = .ok (.iload_n 3, 1) := by decide +kernel
theorem dX8_beaten_24 : decode cX8_beaten 24 = .ok (.invokevirtual 314, 3) := by decide +kernel
theorem dX8_beaten_27 : decode cX8_beaten 27 = .ok (.ifCond .eq 7, 3) := by decide +kernel
theorem dX8_beaten_30 : decode cX8_beaten 30 = .ok (.iconst 1, 1) := by decide +kernel
theorem dX8_beaten_31 : decode cX8_beaten 31 = .ok (.goto 4, 3) := by decide +kernel
theorem dX8_beaten_34 : decode cX8_beaten 34 = .ok (.iconst 0, 1) := by decide +kernel
theorem dX8_beaten_35 : decode cX8_beaten 35 = .ok (.iadd, 1) := by decide +kernel
theorem dX8_beaten_36 : decode cX8_beaten 36 = .ok (.istore_n 2, 1) := by decide +kernel
theorem dX8_beaten_37 : decode cX8_beaten 37 = .ok (.iinc 3 1, 3) := by decide +kernel
theorem dX8_beaten_40 : decode cX8_beaten 40 = .ok (.goto (-36), 3) := by decide +kernel
theorem dX8_beaten_43 : decode cX8_beaten 43 = .ok (.iload_n 2, 1) := by decide +kernel
theorem dX8_beaten_44 : decode cX8_beaten 44 = .ok (.ireturn, 1) := by decide +kernel
theorem dX8_prefers_0 : decode cX8_prefers 0 = .ok (.aload_n 0, 1) := by decide +kernel
theorem dX8_prefers_1 : decode cX8_prefers 1 = .ok (.iconst 0, 1) := by decide +kernel
theorem dX8_prefers_2 : decode cX8_prefers 2 = .ok (.putfield 95, 3) := by decide +kernel
theorem dX8_prefers_5 : decode cX8_prefers 5 = .ok (.iload_n 1, 1) := by decide +kernel
theorem dX8_prefers_6 : decode cX8_prefers 6 = .ok (.iconst 0, 1) := by decide +kernel
theorem dX8_prefers_7 : decode cX8_prefers 7 = .ok (.sipush 255, 3) := by decide +kernel
theorem dX8_prefers_10 : decode cX8_prefers 10 = .ok (.invokestatic 106, 3) := by decide +kernel
theorem dX8_prefers_13 : decode cX8_prefers 13 = .ok (.ifCond .eq 14, 3) := by decide +kernel
theorem dX8_prefers_16 : decode cX8_prefers 16 = .ok (.iload_n 2, 1) := by decide +kernel
theorem dX8_prefers_17 : decode cX8_prefers 17 = .ok (.iconst 0, 1) := by decide +kernel
theorem dX8_prefers_18 : decode cX8_prefers 18 = .ok (.sipush 255, 3) := by decide +kernel
theorem dX8_prefers_21 : decode cX8_prefers 21 = .ok (.invokestatic 106, 3) := by decide +kernel
theorem dX8_prefers_24 : decode cX8_prefers 24 = .ok (.ifCond .ne 5, 3) := by decide +kernel
theorem dX8_prefers_27 : decode cX8_prefers 27 = .ok (.iconst (-1), 1) := by decide +kernel
theorem dX8_prefers_28 : decode cX8_prefers 28 = .ok (.ireturn, 1) := by decide +kernel
theorem dX8_prefers_29 : decode cX8_prefers 29 = .ok (.aload_n 0, 1) := by decide +kernel
theorem dX8_prefers_30 : decode cX8_prefers 30 = .ok (.invokevirtual 272, 3) := by decide +kernel
theorem dX8_prefers_33 : decode cX8_prefers 33 = .ok (.aload_n 0, 1) := by decide +kernel
theorem dX8_prefers_34 : decode cX8_prefers 34 = .ok (.iload_n 1, 1) := by decide +kernel
theorem dX8_prefers_35 : decode cX8_prefers 35 = .ok (.iload_n 2, 1) := by decide +kernel
theorem dX8_prefers_36 : decode cX8_prefers 36 = .ok (.invokevirtual 259, 3) := by decide +kernel
theorem dX8_prefers_39 : decode cX8_prefers 39 = .ok (.ireturn, 1) := by decide +kernel
theorem dX8_open_0 : decode cX8_open 0 = .ok (.aload_n 0, 1) := by decide +kernel
theorem dX8_open_1 : decode cX8_open 1 = .ok (.iconst 0, 1) := by decide +kernel
theorem dX8_open_2 : decode cX8_open 2 = .ok (.putfield 95, 3) := by decide +kernel
theorem dX8_open_5 : decode cX8_open 5 = .ok (.aload_n 0, 1) := by decide +kernel
theorem dX8_open_6 : decode cX8_open 6 = .ok (.invokevirtual 323, 3) := by decide +kernel
theorem dX8_open_9 : decode cX8_open 9 = .ok (.pop, 1) := by decide +kernel
theorem dX8_open_10 : decode cX8_open 10 = .ok (.iconst 0, 1) := by decide +kernel
theorem dX8_open_11 : decode cX8_open 11 = .ok (.istore_n 2, 1) := by decide +kernel
theorem dX8_open_12 : decode cX8_open 12 = .ok (.iconst 0, 1) := by decide +kernel
theorem dX8_open_13 : decode cX8_open 13 = .ok (.istore_n 3, 1) := by decide +kernel
theorem dX8_open_14 : decode cX8_open 14 = .ok (.iload_n 3, 1) := by decide +kernel
theorem dX8_open_15 : decode cX8_open 15 = .ok (.sipush 256, 3) := by decide +kernel
theorem dX8_open_18 : decode cX8_open 18 = .ok (.if_icmp .ge 28, 3) := by decide +kernel
theorem dX8_open_21 : decode cX8_open 21 = .ok (.aload_n 0, 1) := by decide +kernel
theorem dX8_open_22 : decode cX8_open 22 = .ok (.getfield 85, 3) := by decide +kernel
theorem dX8_open_25 : decode cX8_open 25 = .ok (.iload_n 3, 1) := by decide +kernel
theorem dX8_open_26 : decode cX8_open 26 = .ok (.baload, 1) := by decide +kernel
theorem dX8_open_27 : decode cX8_open 27 = .ok (.ifCond .eq 13, 3) := by decide +kernel
theorem dX8_open_30 : decode cX8_open 30 = .ok (.iload_n 2, 1) := by decide +kernel
theorem dX8_open_31 : decode cX8_open 31 = .ok (.iload_n 1, 1) := by decide +kernel
theorem dX8_open_32 : decode cX8_open 32 = .ok (.if_icmp .ne 5, 3) := by decide +kernel
theorem dX8_open_35 : decode cX8_open 35 = .ok (.iload_n 3, 1) := by decide +kernel
theorem dX8_open_36 : decode cX8_open 36 = .ok (.ireturn, 1) := by decide +kernel
theorem dX8_open_37 : decode cX8_open 37 = .ok (.iinc 2 1, 3) := by decide +kernel
theorem dX8_open_40 : decode cX8_open 40 = .ok (.iinc 3 1, 3) := by decide +kernel
theorem dX8_open_43 : decode cX8_open 43 = .ok (.goto (-29), 3) := by decide +kernel
theorem dX8_open_46 : decode cX8_open 46 = .ok (.iconst (-1), 1) := by decide +kernel
theorem dX8_open_47 : decode cX8_open 47 = .ok (.ireturn, 1) := by decide +kernel
theorem dX8_winner_0 : decode cX8_winner 0 = .ok (.aload_n 0, 1) := by decide +kernel
theorem dX8_winner_1 : decode cX8_winner 1 = .ok (.iconst 0, 1) := by decide +kernel
theorem dX8_winner_2 : decode cX8_winner 2 = .ok (.putfield 95, 3) := by decide +kernel
theorem dX8_winner_5 : decode cX8_winner 5 = .ok (.aload_n 0, 1) := by decide +kernel
theorem dX8_winner_6 : decode cX8_winner 6 = .ok (.invokevirtual 323, 3) := by decide +kernel
theorem dX8_winner_9 : decode cX8_winner 9 = .ok (.istore_n 1, 1) := by decide +kernel
theorem dX8_winner_10 : decode cX8_winner 10 = .ok (.iconst 0, 1) := by decide +kernel
theorem dX8_winner_11 : decode cX8_winner 11 = .ok (.istore_n 2, 1) := by decide +kernel
theorem dX8_winner_12 : decode cX8_winner 12 = .ok (.iload_n 2, 1) := by decide +kernel
theorem dX8_winner_13 : decode cX8_winner 13 = .ok (.sipush 256, 3) := by decide +kernel
theorem dX8_winner_16 : decode cX8_winner 16 = .ok (.if_icmp .ge 31, 3) := by decide +kernel
theorem dX8_winner_19 : decode cX8_winner 19 = .ok (.aload_n 0, 1) := by decide +kernel
theorem dX8_winner_20 : decode cX8_winner 20 = .ok (.getfield 85, 3) := by decide +kernel
theorem dX8_winner_23 : decode cX8_winner 23 = .ok (.iload_n 2, 1) := by decide +kernel
theorem dX8_winner_24 : decode cX8_winner 24 = .ok (.baload, 1) := by decide +kernel
theorem dX8_winner_25 : decode cX8_winner 25 = .ok (.ifCond .eq 16, 3) := by decide +kernel
theorem dX8_winner_28 : decode cX8_winner 28 = .ok (.aload_n 0, 1) := by decide +kernel
theorem dX8_winner_29 : decode cX8_winner 29 = .ok (.iload_n 2, 1) := by decide +kernel
theorem dX8_winner_30 : decode cX8_winner 30 = .ok (.invokevirtual 326, 3) := by decide +kernel
theorem dX8_winner_33 : decode cX8_winner 33 = .ok (.iload_n 1, 1) := by decide +kernel
theorem dX8_winner_34 : decode cX8_winner 34 = .ok (.iconst 1, 1) := by decide +kernel
theorem dX8_winner_35 : decode cX8_winner 35 = .ok (.isub, 1) := by decide +kernel
theorem dX8_winner_36 : decode cX8_winner 36 = .ok (.if_icmp .ne 5, 3) := by decide +kernel
theorem dX8_winner_39 : decode cX8_winner 39 = .ok (.iload_n 2, 1) := by decide +kernel
theorem dX8_winner_40 : decode cX8_winner 40 = .ok (.ireturn, 1) := by decide +kernel
theorem dX8_winner_41 : decode cX8_winner 41 = .ok (.iinc 2 1, 3) := by decide +kernel
theorem dX8_winner_44 : decode cX8_winner 44 = .ok (.goto (-32), 3) := by decide +kernel
theorem dX8_winner_47 : decode cX8_winner 47 = .ok (.iconst (-1), 1) := by decide +kernel
theorem dX8_winner_48 : decode cX8_winner 48 = .ok (.ireturn, 1) := by decide +kernel
theorem dX8_standing_0 : decode cX8_standing 0 = .ok (.aload_n 0, 1) := by decide +kernel
theorem dX8_standing_1 : decode cX8_standing 1 = .ok (.iconst 0, 1) := by decide +kernel
theorem dX8_standing_2 : decode cX8_standing 2 = .ok (.putfield 95, 3) := by decide +kernel
theorem dX8_standing_5 : decode cX8_standing 5 = .ok (.aload_n 0, 1) := by decide +kernel
theorem dX8_standing_6 : decode cX8_standing 6 = .ok (.invokevirtual 323, 3) := by decide +kernel
theorem dX8_standing_9 : decode cX8_standing 9 = .ok (.pop, 1) := by decide +kernel
theorem dX8_standing_10 : decode cX8_standing 10 = .ok (.iload_n 1, 1) := by decide +kernel
theorem dX8_standing_11 : decode cX8_standing 11 = .ok (.iconst 0, 1) := by decide +kernel
theorem dX8_standing_12 : decode cX8_standing 12 = .ok (.sipush 255, 3) := by decide +kernel
theorem dX8_standing_15 : decode cX8_standing 15 = .ok (.invokestatic 106, 3) := by decide +kernel
theorem dX8_standing_18 : decode cX8_standing 18 = .ok (.ifCond .eq 21, 3) := by decide +kernel
theorem dX8_standing_21 : decode cX8_standing 21 = .ok (.aload_n 0, 1) := by decide +kernel
theorem dX8_standing_22 : decode cX8_standing 22 = .ok (.getfield 85, 3) := by decide +kernel
theorem dX8_standing_25 : decode cX8_standing 25 = .ok (.iload_n 1, 1) := by decide +kernel
theorem dX8_standing_26 : decode cX8_standing 26 = .ok (.baload, 1) := by decide +kernel
theorem dX8_standing_27 : decode cX8_standing 27 = .ok (.ifCond .eq 12, 3) := by decide +kernel
theorem dX8_standing_30 : decode cX8_standing 30 = .ok (.iload_n 2, 1) := by decide +kernel
theorem dX8_standing_31 : decode cX8_standing 31 = .ok (.iconst 0, 1) := by decide +kernel
theorem dX8_standing_32 : decode cX8_standing 32 = .ok (.iconst 2, 1) := by decide +kernel
theorem dX8_standing_33 : decode cX8_standing 33 = .ok (.invokestatic 106, 3) := by decide +kernel
theorem dX8_standing_36 : decode cX8_standing 36 = .ok (.ifCond .ne 5, 3) := by decide +kernel
theorem dX8_standing_39 : decode cX8_standing 39 = .ok (.iconst (-1), 1) := by decide +kernel
theorem dX8_standing_40 : decode cX8_standing 40 = .ok (.ireturn, 1) := by decide +kernel
theorem dX8_standing_41 : decode cX8_standing 41 = .ok (.iload_n 2, 1) := by decide +kernel
theorem dX8_standing_42 : decode cX8_standing 42 = .ok (.ifCond .ne 22, 3) := by decide +kernel
theorem dX8_standing_45 : decode cX8_standing 45 = .ok (.aload_n 0, 1) := by decide +kernel
theorem dX8_standing_46 : decode cX8_standing 46 = .ok (.invokevirtual 329, 3) := by decide +kernel
theorem dX8_standing_49 : decode cX8_standing 49 = .ok (.aload_n 0, 1) := by decide +kernel
theorem dX8_standing_50 : decode cX8_standing 50 = .ok (.getfield 89, 3) := by decide +kernel
theorem dX8_standing_53 : decode cX8_standing 53 = .ok (.iload_n 1, 1) := by decide +kernel
theorem dX8_standing_54 : decode cX8_standing 54 = .ok (.baload, 1) := by decide +kernel
theorem dX8_standing_55 : decode cX8_standing 55 = .ok (.ifCond .eq 7, 3) := by decide +kernel
theorem dX8_standing_58 : decode cX8_standing 58 = .ok (.iconst 1, 1) := by decide +kernel
theorem dX8_standing_59 : decode cX8_standing 59 = .ok (.goto 4, 3) := by decide +kernel
theorem dX8_standing_62 : decode cX8_standing 62 = .ok (.iconst 0, 1) := by decide +kernel
theorem dX8_standing_63 : decode cX8_standing 63 = .ok (.ireturn, 1) := by decide +kernel
theorem dX8_standing_64 : decode cX8_standing 64 = .ok (.iload_n 2, 1) := by decide +kernel
theorem dX8_standing_65 : decode cX8_standing 65 = .ok (.iconst 1, 1) := by decide +kernel
theorem dX8_standing_66 : decode cX8_standing 66 = .ok (.if_icmp .ne 19, 3) := by decide +kernel
theorem dX8_standing_69 : decode cX8_standing 69 = .ok (.aload_n 0, 1) := by decide +kernel
theorem dX8_standing_70 : decode cX8_standing 70 = .ok (.iload_n 1, 1) := by decide +kernel
theorem dX8_standing_71 : decode cX8_standing 71 = .ok (.invokevirtual 332, 3) := by decide +kernel
theorem dX8_standing_74 : decode cX8_standing 74 = .ok (.ifCond .eq 7, 3) := by decide +kernel
theorem dX8_standing_77 : decode cX8_standing 77 = .ok (.iconst 1, 1) := by decide +kernel
theorem dX8_standing_78 : decode cX8_standing 78 = .ok (.goto 12, 3) := by decide +kernel
theorem dX8_standing_81 : decode cX8_standing 81 = .ok (.iconst 0, 1) := by decide +kernel
theorem dX8_standing_82 : decode cX8_standing 82 = .ok (.goto 8, 3) := by decide +kernel
theorem dX8_standing_85 : decode cX8_standing 85 = .ok (.aload_n 0, 1) := by decide +kernel
theorem dX8_standing_86 : decode cX8_standing 86 = .ok (.iload_n 1, 1) := by decide +kernel
theorem dX8_standing_87 : decode cX8_standing 87 = .ok (.invokevirtual 326, 3) := by decide +kernel
theorem dX8_standing_90 : decode cX8_standing 90 = .ok (.ireturn, 1) := by decide +kernel
theorem dX8_weigh_0 : decode cX8_weigh 0 = .ok (.aload_n 0, 1) := by decide +kernel
theorem dX8_weigh_1 : decode cX8_weigh 1 = .ok (.iconst 0, 1) := by decide +kernel
theorem dX8_weigh_2 : decode cX8_weigh 2 = .ok (.putfield 95, 3) := by decide +kernel
theorem dX8_weigh_5 : decode cX8_weigh 5 = .ok (.aload_n 0, 1) := by decide +kernel
theorem dX8_weigh_6 : decode cX8_weigh 6 = .ok (.iload_n 1, 1) := by decide +kernel
theorem dX8_weigh_7 : decode cX8_weigh 7 = .ok (.invokevirtual 305, 3) := by decide +kernel
theorem dX8_weigh_10 : decode cX8_weigh 10 = .ok (.ifCond .eq 24, 3) := by decide +kernel
theorem dX8_weigh_13 : decode cX8_weigh 13 = .ok (.iload_n 2, 1) := by decide +kernel
theorem dX8_weigh_14 : decode cX8_weigh 14 = .ok (.iconst 0, 1) := by decide +kernel
theorem dX8_weigh_15 : decode cX8_weigh 15 = .ok (.bipush 7, 2) := by decide +kernel
theorem dX8_weigh_17 : decode cX8_weigh 17 = .ok (.invokestatic 106, 3) := by decide +kernel
theorem dX8_weigh_20 : decode cX8_weigh 20 = .ok (.ifCond .eq 14, 3) := by decide +kernel
theorem dX8_weigh_23 : decode cX8_weigh 23 = .ok (.iload_n 3, 1) := by decide +kernel
theorem dX8_weigh_24 : decode cX8_weigh 24 = .ok (.bipush (-9), 2) := by decide +kernel
theorem dX8_weigh_26 : decode cX8_weigh 26 = .ok (.bipush 9, 2) := by decide +kernel
theorem dX8_weigh_28 : decode cX8_weigh 28 = .ok (.invokestatic 106, 3) := by decide +kernel
theorem dX8_weigh_31 : decode cX8_weigh 31 = .ok (.ifCond .ne 5, 3) := by decide +kernel
theorem dX8_weigh_34 : decode cX8_weigh 34 = .ok (.iconst 0, 1) := by decide +kernel
theorem dX8_weigh_35 : decode cX8_weigh 35 = .ok (.ireturn, 1) := by decide +kernel
theorem dX8_weigh_36 : decode cX8_weigh 36 = .ok (.aload_n 0, 1) := by decide +kernel
theorem dX8_weigh_37 : decode cX8_weigh 37 = .ok (.getfield 40, 3) := by decide +kernel
theorem dX8_weigh_40 : decode cX8_weigh 40 = .ok (.bipush 8, 2) := by decide +kernel
theorem dX8_weigh_42 : decode cX8_weigh 42 = .ok (.iload_n 1, 1) := by decide +kernel
theorem dX8_weigh_43 : decode cX8_weigh 43 = .ok (.imul, 1) := by decide +kernel
theorem dX8_weigh_44 : decode cX8_weigh 44 = .ok (.iload_n 2, 1) := by decide +kernel
theorem dX8_weigh_45 : decode cX8_weigh 45 = .ok (.iadd, 1) := by decide +kernel
theorem dX8_weigh_46 : decode cX8_weigh 46 = .ok (.iload_n 3, 1) := by decide +kernel
theorem dX8_weigh_47 : decode cX8_weigh 47 = .ok (.iastore, 1) := by decide +kernel
theorem dX8_weigh_48 : decode cX8_weigh 48 = .ok (.iconst 1, 1) := by decide +kernel
theorem dX8_weigh_49 : decode cX8_weigh 49 = .ok (.ireturn, 1) := by decide +kernel
theorem dX8_count_0 : decode cX8_count 0 = .ok (.aload_n 0, 1) := by decide +kernel
theorem dX8_count_1 : decode cX8_count 1 = .ok (.iconst 0, 1) := by decide +kernel
theorem dX8_count_2 : decode cX8_count 2 = .ok (.putfield 95, 3) := by decide +kernel
theorem dX8_count_5 : decode cX8_count 5 = .ok (.iload_n 1, 1) := by decide +kernel
theorem dX8_count_6 : decode cX8_count 6 = .ok (.tableswitch 94 0 7 #[46, 53, 60, 67, 72, 79, 84, 89], 46) := by decide +kernel
theorem dX8_count_52 : decode cX8_count 52 = .ok (.aload_n 0, 1) := by decide +kernel
theorem dX8_count_53 : decode cX8_count 53 = .ok (.getfield 7, 3) := by decide +kernel
theorem dX8_count_56 : decode cX8_count 56 = .ok (.iconst 1, 1) := by decide +kernel
theorem dX8_count_57 : decode cX8_count 57 = .ok (.iaload, 1) := by decide +kernel
theorem dX8_count_58 : decode cX8_count 58 = .ok (.ireturn, 1) := by decide +kernel
theorem dX8_count_59 : decode cX8_count 59 = .ok (.aload_n 0, 1) := by decide +kernel
theorem dX8_count_60 : decode cX8_count 60 = .ok (.getfield 7, 3) := by decide +kernel
theorem dX8_count_63 : decode cX8_count 63 = .ok (.iconst 3, 1) := by decide +kernel
theorem dX8_count_64 : decode cX8_count 64 = .ok (.iaload, 1) := by decide +kernel
theorem dX8_count_65 : decode cX8_count 65 = .ok (.ireturn, 1) := by decide +kernel
theorem dX8_count_66 : decode cX8_count 66 = .ok (.aload_n 0, 1) := by decide +kernel
theorem dX8_count_67 : decode cX8_count 67 = .ok (.getfield 7, 3) := by decide +kernel
theorem dX8_count_70 : decode cX8_count 70 = .ok (.iconst 4, 1) := by decide +kernel
theorem dX8_count_71 : decode cX8_count 71 = .ok (.iaload, 1) := by decide +kernel
theorem dX8_count_72 : decode cX8_count 72 = .ok (.ireturn, 1) := by decide +kernel
theorem dX8_count_73 : decode cX8_count 73 = .ok (.aload_n 0, 1) := by decide +kernel
theorem dX8_count_74 : decode cX8_count 74 = .ok (.invokevirtual 262, 3) := by decide +kernel
theorem dX8_count_77 : decode cX8_count 77 = .ok (.ireturn, 1) := by decide +kernel
theorem dX8_count_78 : decode cX8_count 78 = .ok (.aload_n 0, 1) := by decide +kernel
theorem dX8_count_79 : decode cX8_count 79 = .ok (.getfield 7, 3) := by decide +kernel
theorem dX8_count_82 : decode cX8_count 82 = .ok (.iconst 0, 1) := by decide +kernel
theorem dX8_count_83 : decode cX8_count 83 = .ok (.iaload, 1) := by decide +kernel
theorem dX8_count_84 : decode cX8_count 84 = .ok (.ireturn, 1) := by decide +kernel
theorem dX8_count_85 : decode cX8_count 85 = .ok (.aload_n 0, 1) := by decide +kernel
theorem dX8_count_86 : decode cX8_count 86 = .ok (.invokevirtual 335, 3) := by decide +kernel
theorem dX8_count_89 : decode cX8_count 89 = .ok (.ireturn, 1) := by decide +kernel
theorem dX8_count_90 : decode cX8_count 90 = .ok (.aload_n 0, 1) := by decide +kernel
theorem dX8_count_91 : decode cX8_count 91 = .ok (.getfield 99, 3) := by decide +kernel
theorem dX8_count_94 : decode cX8_count 94 = .ok (.ireturn, 1) := by decide +kernel
theorem dX8_count_95 : decode cX8_count 95 = .ok (.aload_n 0, 1) := by decide +kernel
theorem dX8_count_96 : decode cX8_count 96 = .ok (.invokevirtual 323, 3) := by decide +kernel
theorem dX8_count_99 : decode cX8_count 99 = .ok (.ireturn, 1) := by decide +kernel
theorem dX8_count_100 : decode cX8_count 100 = .ok (.iconst (-1), 1) := by decide +kernel
theorem dX8_count_101 : decode cX8_count 101 = .ok (.ireturn, 1) := by decide +kernel
theorem dX8_placeOf_0 : decode cX8_placeOf 0 = .ok (.iconst 0, 1) := by decide +kernel
theorem dX8_placeOf_1 : decode cX8_placeOf 1 = .ok (.istore_n 2, 1) := by decide +kernel
theorem dX8_placeOf_2 : decode cX8_placeOf 2 = .ok (.aload_n 0, 1) := by decide +kernel
theorem dX8_placeOf_3 : decode cX8_placeOf 3 = .ok (.getfield 64, 3) := by decide +kernel
theorem dX8_placeOf_6 : decode cX8_placeOf 6 = .ok (.iload_n 2, 1) := by decide +kernel
theorem dX8_placeOf_7 : decode cX8_placeOf 7 = .ok (.iaload, 1) := by decide +kernel
theorem dX8_placeOf_8 : decode cX8_placeOf 8 = .ok (.iload_n 1, 1) := by decide +kernel
theorem dX8_placeOf_9 : decode cX8_placeOf 9 = .ok (.if_icmp .eq 9, 3) := by decide +kernel
theorem dX8_placeOf_12 : decode cX8_placeOf 12 = .ok (.iinc 2 1, 3) := by decide +kernel
theorem dX8_placeOf_15 : decode cX8_placeOf 15 = .ok (.goto (-13), 3) := by decide +kernel
theorem dX8_placeOf_18 : decode cX8_placeOf 18 = .ok (.iload_n 2, 1) := by decide +kernel
theorem dX8_placeOf_19 : decode cX8_placeOf 19 = .ok (.ireturn, 1) := by decide +kernel
theorem dX8_motion_0 : decode cX8_motion 0 = .ok (.aload_n 0, 1) := by decide +kernel
theorem dX8_motion_1 : decode cX8_motion 1 = .ok (.aload_n 0, 1) := by decide +kernel
theorem dX8_motion_2 : decode cX8_motion 2 = .ok (.iload_n 1, 1) := by decide +kernel
theorem dX8_motion_3 : decode cX8_motion 3 = .ok (.invokevirtual 299, 3) := by decide +kernel
theorem dX8_motion_6 : decode cX8_motion 6 = .ok (.ifCond .eq 16, 3) := by decide +kernel
theorem dX8_motion_9 : decode cX8_motion 9 = .ok (.iload_n 2, 1) := by decide +kernel
theorem dX8_motion_10 : decode cX8_motion 10 = .ok (.iconst 0, 1) := by decide +kernel
theorem dX8_motion_11 : decode cX8_motion 11 = .ok (.iconst 4, 1) := by decide +kernel
theorem dX8_motion_12 : decode cX8_motion 12 = .ok (.invokestatic 106, 3) := by decide +kernel
theorem dX8_motion_15 : decode cX8_motion 15 = .ok (.ifCond .eq 7, 3) := by decide +kernel
theorem dX8_motion_18 : decode cX8_motion 18 = .ok (.iconst 0, 1) := by decide +kernel
theorem dX8_motion_19 : decode cX8_motion 19 = .ok (.goto 4, 3) := by decide +kernel
theorem dX8_motion_22 : decode cX8_motion 22 = .ok (.iconst 1, 1) := by decide +kernel
theorem dX8_motion_23 : decode cX8_motion 23 = .ok (.putfield 95, 3) := by decide +kernel
theorem dX8_motion_26 : decode cX8_motion 26 = .ok (.aload_n 0, 1) := by decide +kernel
theorem dX8_motion_27 : decode cX8_motion 27 = .ok (.getfield 95, 3) := by decide +kernel
theorem dX8_motion_30 : decode cX8_motion 30 = .ok (.ifCond .le 5, 3) := by decide +kernel
theorem dX8_motion_33 : decode cX8_motion 33 = .ok (.iconst 0, 1) := by decide +kernel
theorem dX8_motion_34 : decode cX8_motion 34 = .ok (.ireturn, 1) := by decide +kernel
theorem dX8_motion_35 : decode cX8_motion 35 = .ok (.iload_n 2, 1) := by decide +kernel
theorem dX8_motion_36 : decode cX8_motion 36 = .ok (.tableswitch 60 0 3 #[32, 39, 46, 53], 32) := by decide +kernel
theorem dX8_motion_68 : decode cX8_motion 68 = .ok (.aload_n 0, 1) := by decide +kernel
theorem dX8_motion_69 : decode cX8_motion 69 = .ok (.getfield 16, 3) := by decide +kernel
theorem dX8_motion_72 : decode cX8_motion 72 = .ok (.iload_n 1, 1) := by decide +kernel
theorem dX8_motion_73 : decode cX8_motion 73 = .ok (.iaload, 1) := by decide +kernel
theorem dX8_motion_74 : decode cX8_motion 74 = .ok (.ireturn, 1) := by decide +kernel
theorem dX8_motion_75 : decode cX8_motion 75 = .ok (.aload_n 0, 1) := by decide +kernel
theorem dX8_motion_76 : decode cX8_motion 76 = .ok (.getfield 19, 3) := by decide +kernel
theorem dX8_motion_79 : decode cX8_motion 79 = .ok (.iload_n 1, 1) := by decide +kernel
theorem dX8_motion_80 : decode cX8_motion 80 = .ok (.iaload, 1) := by decide +kernel
theorem dX8_motion_81 : decode cX8_motion 81 = .ok (.ireturn, 1) := by decide +kernel
theorem dX8_motion_82 : decode cX8_motion 82 = .ok (.aload_n 0, 1) := by decide +kernel
theorem dX8_motion_83 : decode cX8_motion 83 = .ok (.getfield 22, 3) := by decide +kernel
theorem dX8_motion_86 : decode cX8_motion 86 = .ok (.iload_n 1, 1) := by decide +kernel
theorem dX8_motion_87 : decode cX8_motion 87 = .ok (.iaload, 1) := by decide +kernel
theorem dX8_motion_88 : decode cX8_motion 88 = .ok (.ireturn, 1) := by decide +kernel
theorem dX8_motion_89 : decode cX8_motion 89 = .ok (.aload_n 0, 1) := by decide +kernel
theorem dX8_motion_90 : decode cX8_motion 90 = .ok (.getfield 25, 3) := by decide +kernel
theorem dX8_motion_93 : decode cX8_motion 93 = .ok (.iload_n 1, 1) := by decide +kernel
theorem dX8_motion_94 : decode cX8_motion 94 = .ok (.iaload, 1) := by decide +kernel
theorem dX8_motion_95 : decode cX8_motion 95 = .ok (.ireturn, 1) := by decide +kernel
theorem dX8_motion_96 : decode cX8_motion 96 = .ok (.aload_n 0, 1) := by decide +kernel
theorem dX8_motion_97 : decode cX8_motion 97 = .ok (.iload_n 1, 1) := by decide +kernel
theorem dX8_motion_98 : decode cX8_motion 98 = .ok (.invokevirtual 338, 3) := by decide +kernel
theorem dX8_motion_101 : decode cX8_motion 101 = .ok (.ireturn, 1) := by decide +kernel
theorem dX8_weight_0 : decode cX8_weight 0 = .ok (.aload_n 0, 1) := by decide +kernel
theorem dX8_weight_1 : decode cX8_weight 1 = .ok (.aload_n 0, 1) := by decide +kernel
theorem dX8_weight_2 : decode cX8_weight 2 = .ok (.iload_n 1, 1) := by decide +kernel
theorem dX8_weight_3 : decode cX8_weight 3 = .ok (.invokevirtual 305, 3) := by decide +kernel
theorem dX8_weight_6 : decode cX8_weight 6 = .ok (.ifCond .eq 17, 3) := by decide +kernel
theorem dX8_weight_9 : decode cX8_weight 9 = .ok (.iload_n 2, 1) := by decide +kernel
theorem dX8_weight_10 : decode cX8_weight 10 = .ok (.iconst 0, 1) := by decide +kernel
theorem dX8_weight_11 : decode cX8_weight 11 = .ok (.bipush 7, 2) := by decide +kernel
theorem dX8_weight_13 : decode cX8_weight 13 = .ok (.invokestatic 106, 3) := by decide +kernel
theorem dX8_weight_16 : decode cX8_weight 16 = .ok (.ifCond .eq 7, 3) := by decide +kernel
theorem dX8_weight_19 : decode cX8_weight 19 = .ok (.iconst 0, 1) := by decide +kernel
theorem dX8_weight_20 : decode cX8_weight 20 = .ok (.goto 4, 3) := by decide +kernel
theorem dX8_weight_23 : decode cX8_weight 23 = .ok (.iconst 1, 1) := by decide +kernel
theorem dX8_weight_24 : decode cX8_weight 24 = .ok (.putfield 95, 3) := by decide +kernel
theorem dX8_weight_27 : decode cX8_weight 27 = .ok (.aload_n 0, 1) := by decide +kernel
theorem dX8_weight_28 : decode cX8_weight 28 = .ok (.getfield 95, 3) := by decide +kernel
theorem dX8_weight_31 : decode cX8_weight 31 = .ok (.ifCond .le 7, 3) := by decide +kernel
theorem dX8_weight_34 : decode cX8_weight 34 = .ok (.iconst 0, 1) := by decide +kernel
theorem dX8_weight_35 : decode cX8_weight 35 = .ok (.goto 14, 3) := by decide +kernel
theorem dX8_weight_38 : decode cX8_weight 38 = .ok (.aload_n 0, 1) := by decide +kernel
theorem dX8_weight_39 : decode cX8_weight 39 = .ok (.getfield 40, 3) := by decide +kernel
theorem dX8_weight_42 : decode cX8_weight 42 = .ok (.bipush 8, 2) := by decide +kernel
theorem dX8_weight_44 : decode cX8_weight 44 = .ok (.iload_n 1, 1) := by decide +kernel
theorem dX8_weight_45 : decode cX8_weight 45 = .ok (.imul, 1) := by decide +kernel
theorem dX8_weight_46 : decode cX8_weight 46 = .ok (.iload_n 2, 1) := by decide +kernel
theorem dX8_weight_47 : decode cX8_weight 47 = .ok (.iadd, 1) := by decide +kernel
theorem dX8_weight_48 : decode cX8_weight 48 = .ok (.iaload, 1) := by decide +kernel
theorem dX8_weight_49 : decode cX8_weight 49 = .ok (.ireturn, 1) := by decide +kernel
theorem dX8_likes_0 : decode cX8_likes 0 = .ok (.aload_n 0, 1) := by decide +kernel
theorem dX8_likes_1 : decode cX8_likes 1 = .ok (.aload_n 0, 1) := by decide +kernel
theorem dX8_likes_2 : decode cX8_likes 2 = .ok (.iload_n 1, 1) := by decide +kernel
theorem dX8_likes_3 : decode cX8_likes 3 = .ok (.invokevirtual 305, 3) := by decide +kernel
theorem dX8_likes_6 : decode cX8_likes 6 = .ok (.ifCond .eq 18, 3) := by decide +kernel
theorem dX8_likes_9 : decode cX8_likes 9 = .ok (.iload_n 2, 1) := by decide +kernel
theorem dX8_likes_10 : decode cX8_likes 10 = .ok (.iconst 0, 1) := by decide +kernel
theorem dX8_likes_11 : decode cX8_likes 11 = .ok (.sipush 255, 3) := by decide +kernel
theorem dX8_likes_14 : decode cX8_likes 14 = .ok (.invokestatic 106, 3) := by decide +kernel
theorem dX8_likes_17 : decode cX8_likes 17 = .ok (.ifCond .eq 7, 3) := by decide +kernel
theorem dX8_likes_20 : decode cX8_likes 20 = .ok (.iconst 0, 1) := by decide +kernel
theorem dX8_likes_21 : decode cX8_likes 21 = .ok (.goto 4, 3) := by decide +kernel
theorem dX8_likes_24 : decode cX8_likes 24 = .ok (.iconst 1, 1) := by decide +kernel
theorem dX8_likes_25 : decode cX8_likes 25 = .ok (.putfield 95, 3) := by decide +kernel
theorem dX8_likes_28 : decode cX8_likes 28 = .ok (.aload_n 0, 1) := by decide +kernel
theorem dX8_likes_29 : decode cX8_likes 29 = .ok (.getfield 95, 3) := by decide +kernel
theorem dX8_likes_32 : decode cX8_likes 32 = .ok (.ifCond .le 7, 3) := by decide +kernel
theorem dX8_likes_35 : decode cX8_likes 35 = .ok (.iconst 0, 1) := by decide +kernel
theorem dX8_likes_36 : decode cX8_likes 36 = .ok (.goto 9, 3) := by decide +kernel
theorem dX8_likes_39 : decode cX8_likes 39 = .ok (.aload_n 0, 1) := by decide +kernel
theorem dX8_likes_40 : decode cX8_likes 40 = .ok (.iload_n 1, 1) := by decide +kernel
theorem dX8_likes_41 : decode cX8_likes 41 = .ok (.iload_n 2, 1) := by decide +kernel
theorem dX8_likes_42 : decode cX8_likes 42 = .ok (.invokevirtual 247, 3) := by decide +kernel
theorem dX8_likes_45 : decode cX8_likes 45 = .ok (.ireturn, 1) := by decide +kernel
theorem dJ6_bitCount_0f7a4_0 : decode cJ6_bitCount_0f7a4 0 = .ok (.iload_n 0, 1) := by decide +kernel
theorem dJ6_bitCount_0f7a4_1 : decode cJ6_bitCount_0f7a4 1 = .ok (.iload_n 0, 1) := by decide +kernel
theorem dJ6_bitCount_0f7a4_2 : decode cJ6_bitCount_0f7a4 2 = .ok (.iconst 1, 1) := by decide +kernel
theorem dJ6_bitCount_0f7a4_3 : decode cJ6_bitCount_0f7a4 3 = .ok (.iushr, 1) := by decide +kernel
theorem dJ6_bitCount_0f7a4_4 : decode cJ6_bitCount_0f7a4 4 = .ok (.ldc_w 265, 3) := by decide +kernel
theorem dJ6_bitCount_0f7a4_7 : decode cJ6_bitCount_0f7a4 7 = .ok (.iand, 1) := by decide +kernel
theorem dJ6_bitCount_0f7a4_8 : decode cJ6_bitCount_0f7a4 8 = .ok (.isub, 1) := by decide +kernel
theorem dJ6_bitCount_0f7a4_9 : decode cJ6_bitCount_0f7a4 9 = .ok (.istore_n 0, 1) := by decide +kernel
theorem dJ6_bitCount_0f7a4_10 : decode cJ6_bitCount_0f7a4 10 = .ok (.iload_n 0, 1) := by decide +kernel
theorem dJ6_bitCount_0f7a4_11 : decode cJ6_bitCount_0f7a4 11 = .ok (.ldc_w 266, 3) := by decide +kernel
theorem dJ6_bitCount_0f7a4_14 : decode cJ6_bitCount_0f7a4 14 = .ok (.iand, 1) := by decide +kernel
theorem dJ6_bitCount_0f7a4_15 : decode cJ6_bitCount_0f7a4 15 = .ok (.iload_n 0, 1) := by decide +kernel
theorem dJ6_bitCount_0f7a4_16 : decode cJ6_bitCount_0f7a4 16 = .ok (.iconst 2, 1) := by decide +kernel
theorem dJ6_bitCount_0f7a4_17 : decode cJ6_bitCount_0f7a4 17 = .ok (.iushr, 1) := by decide +kernel
theorem dJ6_bitCount_0f7a4_18 : decode cJ6_bitCount_0f7a4 18 = .ok (.ldc_w 266, 3) := by decide +kernel
theorem dJ6_bitCount_0f7a4_21 : decode cJ6_bitCount_0f7a4 21 = .ok (.iand, 1) := by decide +kernel
theorem dJ6_bitCount_0f7a4_22 : decode cJ6_bitCount_0f7a4 22 = .ok (.iadd, 1) := by decide +kernel
theorem dJ6_bitCount_0f7a4_23 : decode cJ6_bitCount_0f7a4 23 = .ok (.istore_n 0, 1) := by decide +kernel
theorem dJ6_bitCount_0f7a4_24 : decode cJ6_bitCount_0f7a4 24 = .ok (.iload_n 0, 1) := by decide +kernel
theorem dJ6_bitCount_0f7a4_25 : decode cJ6_bitCount_0f7a4 25 = .ok (.iload_n 0, 1) := by decide +kernel
theorem dJ6_bitCount_0f7a4_26 : decode cJ6_bitCount_0f7a4 26 = .ok (.iconst 4, 1) := by decide +kernel
theorem dJ6_bitCount_0f7a4_27 : decode cJ6_bitCount_0f7a4 27 = .ok (.iushr, 1) := by decide +kernel
theorem dJ6_bitCount_0f7a4_28 : decode cJ6_bitCount_0f7a4 28 = .ok (.iadd, 1) := by decide +kernel
theorem dJ6_bitCount_0f7a4_29 : decode cJ6_bitCount_0f7a4 29 = .ok (.ldc_w 267, 3) := by decide +kernel
theorem dJ6_bitCount_0f7a4_32 : decode cJ6_bitCount_0f7a4 32 = .ok (.iand, 1) := by decide +kernel
theorem dJ6_bitCount_0f7a4_33 : decode cJ6_bitCount_0f7a4 33 = .ok (.istore_n 0, 1) := by decide +kernel
theorem dJ6_bitCount_0f7a4_34 : decode cJ6_bitCount_0f7a4 34 = .ok (.iload_n 0, 1) := by decide +kernel
theorem dJ6_bitCount_0f7a4_35 : decode cJ6_bitCount_0f7a4 35 = .ok (.iload_n 0, 1) := by decide +kernel
theorem dJ6_bitCount_0f7a4_36 : decode cJ6_bitCount_0f7a4 36 = .ok (.bipush 8, 2) := by decide +kernel
theorem dJ6_bitCount_0f7a4_38 : decode cJ6_bitCount_0f7a4 38 = .ok (.iushr, 1) := by decide +kernel
theorem dJ6_bitCount_0f7a4_39 : decode cJ6_bitCount_0f7a4 39 = .ok (.iadd, 1) := by decide +kernel
theorem dJ6_bitCount_0f7a4_40 : decode cJ6_bitCount_0f7a4 40 = .ok (.istore_n 0, 1) := by decide +kernel
theorem dJ6_bitCount_0f7a4_41 : decode cJ6_bitCount_0f7a4 41 = .ok (.iload_n 0, 1) := by decide +kernel
theorem dJ6_bitCount_0f7a4_42 : decode cJ6_bitCount_0f7a4 42 = .ok (.iload_n 0, 1) := by decide +kernel
theorem dJ6_bitCount_0f7a4_43 : decode cJ6_bitCount_0f7a4 43 = .ok (.bipush 16, 2) := by decide +kernel
theorem dJ6_bitCount_0f7a4_45 : decode cJ6_bitCount_0f7a4 45 = .ok (.iushr, 1) := by decide +kernel
theorem dJ6_bitCount_0f7a4_46 : decode cJ6_bitCount_0f7a4 46 = .ok (.iadd, 1) := by decide +kernel
theorem dJ6_bitCount_0f7a4_47 : decode cJ6_bitCount_0f7a4 47 = .ok (.istore_n 0, 1) := by decide +kernel
theorem dJ6_bitCount_0f7a4_48 : decode cJ6_bitCount_0f7a4 48 = .ok (.iload_n 0, 1) := by decide +kernel
theorem dJ6_bitCount_0f7a4_49 : decode cJ6_bitCount_0f7a4 49 = .ok (.bipush 63, 2) := by decide +kernel
theorem dJ6_bitCount_0f7a4_51 : decode cJ6_bitCount_0f7a4 51 = .ok (.iand, 1) := by decide +kernel
theorem dJ6_bitCount_0f7a4_52 : decode cJ6_bitCount_0f7a4 52 = .ok (.ireturn, 1) := by decide +kernel
theorem dJ9_max_7cf53_0 : decode cJ9_max_7cf53 0 = .ok (.iload_n 0, 1) := by decide +kernel
theorem dJ9_max_7cf53_1 : decode cJ9_max_7cf53 1 = .ok (.iload_n 1, 1) := by decide +kernel
theorem dJ9_max_7cf53_2 : decode cJ9_max_7cf53 2 = .ok (.if_icmp .lt 7, 3) := by decide +kernel
theorem dJ9_max_7cf53_5 : decode cJ9_max_7cf53 5 = .ok (.iload_n 0, 1) := by decide +kernel
theorem dJ9_max_7cf53_6 : decode cJ9_max_7cf53 6 = .ok (.goto 4, 3) := by decide +kernel
theorem dJ9_max_7cf53_9 : decode cJ9_max_7cf53 9 = .ok (.iload_n 1, 1) := by decide +kernel
theorem dJ9_max_7cf53_10 : decode cJ9_max_7cf53 10 = .ok (.ireturn, 1) := by decide +kernel
theorem dJ9_min_7cf53_0 : decode cJ9_min_7cf53 0 = .ok (.iload_n 0, 1) := by decide +kernel
theorem dJ9_min_7cf53_1 : decode cJ9_min_7cf53 1 = .ok (.iload_n 1, 1) := by decide +kernel
theorem dJ9_min_7cf53_2 : decode cJ9_min_7cf53 2 = .ok (.if_icmp .gt 7, 3) := by decide +kernel
theorem dJ9_min_7cf53_5 : decode cJ9_min_7cf53 5 = .ok (.iload_n 0, 1) := by decide +kernel
theorem dJ9_min_7cf53_6 : decode cJ9_min_7cf53 6 = .ok (.goto 4, 3) := by decide +kernel
theorem dJ9_min_7cf53_9 : decode cJ9_min_7cf53 9 = .ok (.iload_n 1, 1) := by decide +kernel
theorem dJ9_min_7cf53_10 : decode cJ9_min_7cf53 10 = .ok (.ireturn, 1) := by decide +kernel
theorem dJ0_length_8abf5_0 : decode cJ0_length_8abf5 0 = .ok (.aload_n 0, 1) := by decide +kernel
theorem dJ0_length_8abf5_1 : decode cJ0_length_8abf5 1 = .ok (.getfield 9, 3) := by decide +kernel
theorem dJ0_length_8abf5_4 : decode cJ0_length_8abf5 4 = .ok (.arraylength, 1) := by decide +kernel
theorem dJ0_length_8abf5_5 : decode cJ0_length_8abf5 5 = .ok (.aload_n 0, 1) := by decide +kernel
theorem dJ0_length_8abf5_6 : decode cJ0_length_8abf5 6 = .ok (.invokevirtual 335, 3) := by decide +kernel
theorem dJ0_length_8abf5_9 : decode cJ0_length_8abf5 9 = .ok (.ishr, 1) := by decide +kernel
theorem dJ0_length_8abf5_10 : decode cJ0_length_8abf5 10 = .ok (.ireturn, 1) := by decide +kernel
theorem dJ0_charAt_5068e_0 : decode cJ0_charAt_5068e 0 = .ok (.aload_n 0, 1) := by decide +kernel
theorem dJ0_charAt_5068e_1 : decode cJ0_charAt_5068e 1 = .ok (.invokevirtual 492, 3) := by decide +kernel
theorem dJ0_charAt_5068e_4 : decode cJ0_charAt_5068e 4 = .ok (.ifCond .eq 12, 3) := by decide +kernel
theorem dJ0_charAt_5068e_7 : decode cJ0_charAt_5068e 7 = .ok (.aload_n 0, 1) := by decide +kernel
theorem dJ0_charAt_5068e_8 : decode cJ0_charAt_5068e 8 = .ok (.getfield 9, 3) := by decide +kernel
theorem dJ0_charAt_5068e_11 : decode cJ0_charAt_5068e 11 = .ok (.iload_n 1, 1) := by decide +kernel
theorem dJ0_charAt_5068e_12 : decode cJ0_charAt_5068e 12 = .ok (.invokestatic 495, 3) := by decide +kernel
theorem dJ0_charAt_5068e_15 : decode cJ0_charAt_5068e 15 = .ok (.ireturn, 1) := by decide +kernel
theorem dJ0_charAt_5068e_16 : decode cJ0_charAt_5068e 16 = .ok (.aload_n 0, 1) := by decide +kernel
theorem dJ0_charAt_5068e_17 : decode cJ0_charAt_5068e 17 = .ok (.getfield 9, 3) := by decide +kernel
theorem dJ0_charAt_5068e_20 : decode cJ0_charAt_5068e 20 = .ok (.iload_n 1, 1) := by decide +kernel
theorem dJ0_charAt_5068e_21 : decode cJ0_charAt_5068e 21 = .ok (.invokestatic 498, 3) := by decide +kernel
theorem dJ0_charAt_5068e_24 : decode cJ0_charAt_5068e 24 = .ok (.ireturn, 1) := by decide +kernel
theorem dJ0_coder_7d493_0 : decode cJ0_coder_7d493 0 = .ok (.getstatic 38, 3) := by decide +kernel
theorem dJ0_coder_7d493_3 : decode cJ0_coder_7d493 3 = .ok (.ifCond .eq 10, 3) := by decide +kernel
theorem dJ0_coder_7d493_6 : decode cJ0_coder_7d493 6 = .ok (.aload_n 0, 1) := by decide +kernel
theorem dJ0_coder_7d493_7 : decode cJ0_coder_7d493 7 = .ok (.getfield 15, 3) := by decide +kernel
theorem dJ0_coder_7d493_10 : decode cJ0_coder_7d493 10 = .ok (.goto 4, 3) := by decide +kernel
theorem dJ0_coder_7d493_13 : decode cJ0_coder_7d493 13 = .ok (.iconst 1, 1) := by decide +kernel
theorem dJ0_coder_7d493_14 : decode cJ0_coder_7d493 14 = .ok (.ireturn, 1) := by decide +kernel
theorem dJ0_isLatin1_aae02_0 : decode cJ0_isLatin1_aae02 0 = .ok (.getstatic 38, 3) := by decide +kernel
theorem dJ0_isLatin1_aae02_3 : decode cJ0_isLatin1_aae02 3 = .ok (.ifCond .eq 14, 3) := by decide +kernel
theorem dJ0_isLatin1_aae02_6 : decode cJ0_isLatin1_aae02 6 = .ok (.aload_n 0, 1) := by decide +kernel
theorem dJ0_isLatin1_aae02_7 : decode cJ0_isLatin1_aae02 7 = .ok (.getfield 15, 3) := by decide +kernel
theorem dJ0_isLatin1_aae02_10 : decode cJ0_isLatin1_aae02 10 = .ok (.ifCond .ne 7, 3) := by decide +kernel
theorem dJ0_isLatin1_aae02_13 : decode cJ0_isLatin1_aae02 13 = .ok (.iconst 1, 1) := by decide +kernel
theorem dJ0_isLatin1_aae02_14 : decode cJ0_isLatin1_aae02 14 = .ok (.goto 4, 3) := by decide +kernel
theorem dJ0_isLatin1_aae02_17 : decode cJ0_isLatin1_aae02 17 = .ok (.iconst 0, 1) := by decide +kernel
theorem dJ0_isLatin1_aae02_18 : decode cJ0_isLatin1_aae02 18 = .ok (.ireturn, 1) := by decide +kernel
theorem dJ0_checkIndex_df160_0 : decode cJ0_checkIndex_df160 0 = .ok (.iload_n 0, 1) := by decide +kernel
theorem dJ0_checkIndex_df160_1 : decode cJ0_checkIndex_df160 1 = .ok (.iload_n 1, 1) := by decide +kernel
theorem dJ0_checkIndex_df160_2 : decode cJ0_checkIndex_df160 2 = .ok (.getstatic 1053, 3) := by decide +kernel
theorem dJ0_checkIndex_df160_5 : decode cJ0_checkIndex_df160 5 = .ok (.invokestatic 1059, 3) := by decide +kernel
theorem dJ0_checkIndex_df160_8 : decode cJ0_checkIndex_df160 8 = .ok (.pop, 1) := by decide +kernel
theorem dJ0_checkIndex_df160_9 : decode cJ0_checkIndex_df160 9 = .ok (.return_, 1) := by decide +kernel
theorem dJ1_charAt_3b067_0 : decode cJ1_charAt_3b067 0 = .ok (.iload_n 1, 1) := by decide +kernel
theorem dJ1_charAt_3b067_1 : decode cJ1_charAt_3b067 1 = .ok (.aload_n 0, 1) := by decide +kernel
theorem dJ1_charAt_3b067_2 : decode cJ1_charAt_3b067 2 = .ok (.arraylength, 1) := by decide +kernel
theorem dJ1_charAt_3b067_3 : decode cJ1_charAt_3b067 3 = .ok (.invokestatic 9, 3) := by decide +kernel
theorem dJ1_charAt_3b067_6 : decode cJ1_charAt_3b067 6 = .ok (.aload_n 0, 1) := by decide +kernel
theorem dJ1_charAt_3b067_7 : decode cJ1_charAt_3b067 7 = .ok (.iload_n 1, 1) := by decide +kernel
theorem dJ1_charAt_3b067_8 : decode cJ1_charAt_3b067 8 = .ok (.baload, 1) := by decide +kernel
theorem dJ1_charAt_3b067_9 : decode cJ1_charAt_3b067 9 = .ok (.sipush 255, 3) := by decide +kernel
theorem dJ1_charAt_3b067_12 : decode cJ1_charAt_3b067 12 = .ok (.iand, 1) := by decide +kernel
theorem dJ1_charAt_3b067_13 : decode cJ1_charAt_3b067 13 = .ok (.i2c, 1) := by decide +kernel
theorem dJ1_charAt_3b067_14 : decode cJ1_charAt_3b067 14 = .ok (.ireturn, 1) := by decide +kernel
theorem dJ2_getChar_3b067_0 : decode cJ2_getChar_3b067 0 = .ok (.getstatic 44, 3) := by decide +kernel
theorem dJ2_getChar_3b067_3 : decode cJ2_getChar_3b067 3 = .ok (.ifCond .ne 25, 3) := by decide +kernel
theorem dJ2_getChar_3b067_6 : decode cJ2_getChar_3b067 6 = .ok (.iload_n 1, 1) := by decide +kernel
theorem dJ2_getChar_3b067_7 : decode cJ2_getChar_3b067 7 = .ok (.ifCond .lt 11, 3) := by decide +kernel
theorem dJ2_getChar_3b067_10 : decode cJ2_getChar_3b067 10 = .ok (.iload_n 1, 1) := by decide +kernel
theorem dJ2_getChar_3b067_11 : decode cJ2_getChar_3b067 11 = .ok (.aload_n 0, 1) := by decide +kernel
theorem dJ2_getChar_3b067_12 : decode cJ2_getChar_3b067 12 = .ok (.invokestatic 48, 3) := by decide +kernel
theorem dJ2_getChar_3b067_15 : decode cJ2_getChar_3b067 15 = .ok (.if_icmp .lt 13, 3) := by decide +kernel
theorem dJ2_getChar_3b067_18 : decode cJ2_getChar_3b067 18 = .ok (.new 52, 3) := by decide +kernel
theorem dJ2_getChar_3b067_21 : decode cJ2_getChar_3b067 21 = .ok (.dup, 1) := by decide +kernel
theorem dJ2_getChar_3b067_22 : decode cJ2_getChar_3b067 22 = .ok (.ldc 54, 2) := by decide +kernel
theorem dJ2_getChar_3b067_24 : decode cJ2_getChar_3b067 24 = .ok (.invokespecial 56, 3) := by decide +kernel
theorem dJ2_getChar_3b067_27 : decode cJ2_getChar_3b067 27 = .ok (.athrow, 1) := by decide +kernel
theorem dJ2_getChar_3b067_28 : decode cJ2_getChar_3b067 28 = .ok (.iload_n 1, 1) := by decide +kernel
theorem dJ2_getChar_3b067_29 : decode cJ2_getChar_3b067 29 = .ok (.iconst 1, 1) := by decide +kernel
theorem dJ2_getChar_3b067_30 : decode cJ2_getChar_3b067 30 = .ok (.ishl, 1) := by decide +kernel
theorem dJ2_getChar_3b067_31 : decode cJ2_getChar_3b067 31 = .ok (.istore_n 1, 1) := by decide +kernel
theorem dJ2_getChar_3b067_32 : decode cJ2_getChar_3b067 32 = .ok (.aload_n 0, 1) := by decide +kernel
theorem dJ2_getChar_3b067_33 : decode cJ2_getChar_3b067 33 = .ok (.iload_n 1, 1) := by decide +kernel
theorem dJ2_getChar_3b067_34 : decode cJ2_getChar_3b067 34 = .ok (.iinc 1 1, 3) := by decide +kernel
theorem dJ2_getChar_3b067_37 : decode cJ2_getChar_3b067 37 = .ok (.baload, 1) := by decide +kernel
theorem dJ2_getChar_3b067_38 : decode cJ2_getChar_3b067 38 = .ok (.sipush 255, 3) := by decide +kernel
theorem dJ2_getChar_3b067_41 : decode cJ2_getChar_3b067 41 = .ok (.iand, 1) := by decide +kernel
theorem dJ2_getChar_3b067_42 : decode cJ2_getChar_3b067 42 = .ok (.getstatic 59, 3) := by decide +kernel
theorem dJ2_getChar_3b067_45 : decode cJ2_getChar_3b067 45 = .ok (.ishl, 1) := by decide +kernel
theorem dJ2_getChar_3b067_46 : decode cJ2_getChar_3b067 46 = .ok (.aload_n 0, 1) := by decide +kernel
theorem dJ2_getChar_3b067_47 : decode cJ2_getChar_3b067 47 = .ok (.iload_n 1, 1) := by decide +kernel
theorem dJ2_getChar_3b067_48 : decode cJ2_getChar_3b067 48 = .ok (.baload, 1) := by decide +kernel
theorem dJ2_getChar_3b067_49 : decode cJ2_getChar_3b067 49 = .ok (.sipush 255, 3) := by decide +kernel
theorem dJ2_getChar_3b067_52 : decode cJ2_getChar_3b067 52 = .ok (.iand, 1) := by decide +kernel
theorem dJ2_getChar_3b067_53 : decode cJ2_getChar_3b067 53 = .ok (.getstatic 63, 3) := by decide +kernel
theorem dJ2_getChar_3b067_56 : decode cJ2_getChar_3b067 56 = .ok (.ishl, 1) := by decide +kernel
theorem dJ2_getChar_3b067_57 : decode cJ2_getChar_3b067 57 = .ok (.ior, 1) := by decide +kernel
theorem dJ2_getChar_3b067_58 : decode cJ2_getChar_3b067 58 = .ok (.i2c, 1) := by decide +kernel
theorem dJ2_getChar_3b067_59 : decode cJ2_getChar_3b067 59 = .ok (.ireturn, 1) := by decide +kernel
theorem dJ2_length_9d52b_0 : decode cJ2_length_9d52b 0 = .ok (.aload_n 0, 1) := by decide +kernel
theorem dJ2_length_9d52b_1 : decode cJ2_length_9d52b 1 = .ok (.arraylength, 1) := by decide +kernel
theorem dJ2_length_9d52b_2 : decode cJ2_length_9d52b 2 = .ok (.iconst 1, 1) := by decide +kernel
theorem dJ2_length_9d52b_3 : decode cJ2_length_9d52b 3 = .ok (.ishr, 1) := by decide +kernel
theorem dJ2_length_9d52b_4 : decode cJ2_length_9d52b 4 = .ok (.ireturn, 1) := by decide +kernel
theorem dJ2_charAt_3b067_0 : decode cJ2_charAt_3b067 0 = .ok (.iload_n 1, 1) := by decide +kernel
theorem dJ2_charAt_3b067_1 : decode cJ2_charAt_3b067 1 = .ok (.aload_n 0, 1) := by decide +kernel
theorem dJ2_charAt_3b067_2 : decode cJ2_charAt_3b067 2 = .ok (.invokestatic 67, 3) := by decide +kernel
theorem dJ2_charAt_3b067_5 : decode cJ2_charAt_3b067 5 = .ok (.aload_n 0, 1) := by decide +kernel
theorem dJ2_charAt_3b067_6 : decode cJ2_charAt_3b067 6 = .ok (.iload_n 1, 1) := by decide +kernel
theorem dJ2_charAt_3b067_7 : decode cJ2_charAt_3b067 7 = .ok (.invokestatic 71, 3) := by decide +kernel
theorem dJ2_charAt_3b067_10 : decode cJ2_charAt_3b067 10 = .ok (.ireturn, 1) := by decide +kernel
theorem dJ2_checkIndex_2214a_0 : decode cJ2_checkIndex_2214a 0 = .ok (.iload_n 0, 1) := by decide +kernel
theorem dJ2_checkIndex_2214a_1 : decode cJ2_checkIndex_2214a 1 = .ok (.aload_n 1, 1) := by decide +kernel
theorem dJ2_checkIndex_2214a_2 : decode cJ2_checkIndex_2214a 2 = .ok (.invokestatic 48, 3) := by decide +kernel
theorem dJ2_checkIndex_2214a_5 : decode cJ2_checkIndex_2214a 5 = .ok (.invokestatic 414, 3) := by decide +kernel
theorem dJ2_checkIndex_2214a_8 : decode cJ2_checkIndex_2214a 8 = .ok (.return_, 1) := by decide +kernel
theorem dJ7_fill_53178_0 : decode cJ7_fill_53178 0 = .ok (.iconst 0, 1) := by decide +kernel
theorem dJ7_fill_53178_1 : decode cJ7_fill_53178 1 = .ok (.istore_n 2, 1) := by decide +kernel
theorem dJ7_fill_53178_2 : decode cJ7_fill_53178 2 = .ok (.aload_n 0, 1) := by decide +kernel
theorem dJ7_fill_53178_3 : decode cJ7_fill_53178 3 = .ok (.arraylength, 1) := by decide +kernel
theorem dJ7_fill_53178_4 : decode cJ7_fill_53178 4 = .ok (.istore_n 3, 1) := by decide +kernel
theorem dJ7_fill_53178_5 : decode cJ7_fill_53178 5 = .ok (.iload_n 2, 1) := by decide +kernel
theorem dJ7_fill_53178_6 : decode cJ7_fill_53178 6 = .ok (.iload_n 3, 1) := by decide +kernel
theorem dJ7_fill_53178_7 : decode cJ7_fill_53178 7 = .ok (.if_icmp .ge 13, 3) := by decide +kernel
theorem dJ7_fill_53178_10 : decode cJ7_fill_53178 10 = .ok (.aload_n 0, 1) := by decide +kernel
theorem dJ7_fill_53178_11 : decode cJ7_fill_53178 11 = .ok (.iload_n 2, 1) := by decide +kernel
theorem dJ7_fill_53178_12 : decode cJ7_fill_53178 12 = .ok (.iload_n 1, 1) := by decide +kernel
theorem dJ7_fill_53178_13 : decode cJ7_fill_53178 13 = .ok (.iastore, 1) := by decide +kernel
theorem dJ7_fill_53178_14 : decode cJ7_fill_53178 14 = .ok (.iinc 2 1, 3) := by decide +kernel
theorem dJ7_fill_53178_17 : decode cJ7_fill_53178 17 = .ok (.goto (-12), 3) := by decide +kernel
theorem dJ7_fill_53178_20 : decode cJ7_fill_53178 20 = .ok (.return_, 1) := by decide +kernel
theorem dJ3_checkIndex_8e157_0 : decode cJ3_checkIndex_8e157 0 = .ok (.iload_n 0, 1) := by decide +kernel
theorem dJ3_checkIndex_8e157_1 : decode cJ3_checkIndex_8e157 1 = .ok (.ifCond .lt 8, 3) := by decide +kernel
theorem dJ3_checkIndex_8e157_4 : decode cJ3_checkIndex_8e157 4 = .ok (.iload_n 0, 1) := by decide +kernel
theorem dJ3_checkIndex_8e157_5 : decode cJ3_checkIndex_8e157 5 = .ok (.iload_n 1, 1) := by decide +kernel
theorem dJ3_checkIndex_8e157_6 : decode cJ3_checkIndex_8e157 6 = .ok (.if_icmp .lt 10, 3) := by decide +kernel
theorem dJ3_checkIndex_8e157_9 : decode cJ3_checkIndex_8e157 9 = .ok (.aload_n 2, 1) := by decide +kernel
theorem dJ3_checkIndex_8e157_10 : decode cJ3_checkIndex_8e157 10 = .ok (.iload_n 0, 1) := by decide +kernel
theorem dJ3_checkIndex_8e157_11 : decode cJ3_checkIndex_8e157 11 = .ok (.iload_n 1, 1) := by decide +kernel
theorem dJ3_checkIndex_8e157_12 : decode cJ3_checkIndex_8e157 12 = .ok (.invokestatic 95, 3) := by decide +kernel
theorem dJ3_checkIndex_8e157_15 : decode cJ3_checkIndex_8e157 15 = .ok (.athrow, 1) := by decide +kernel
theorem dJ3_checkIndex_8e157_16 : decode cJ3_checkIndex_8e157 16 = .ok (.iload_n 0, 1) := by decide +kernel
theorem dJ3_checkIndex_8e157_17 : decode cJ3_checkIndex_8e157 17 = .ok (.ireturn, 1) := by decide +kernel
theorem dL_motion_0 : decode cL_motion 0 = .ok (.aload_n 3, 1) := by decide +kernel
theorem dL_motion_1 : decode cL_motion 1 = .ok (.iconst 0, 1) := by decide +kernel
theorem dL_motion_2 : decode cL_motion 2 = .ok (.aload_n 0, 1) := by decide +kernel
theorem dL_motion_3 : decode cL_motion 3 = .ok (.iload_n 1, 1) := by decide +kernel
theorem dL_motion_4 : decode cL_motion 4 = .ok (.iload_n 2, 1) := by decide +kernel
theorem dL_motion_5 : decode cL_motion 5 = .ok (.invokevirtual 7, 3) := by decide +kernel
theorem dL_motion_8 : decode cL_motion 8 = .ok (.i2l, 1) := by decide +kernel
theorem dL_motion_9 : decode cL_motion 9 = .ok (.lastore, 1) := by decide +kernel
theorem dL_motion_10 : decode cL_motion 10 = .ok (.goto 7, 3) := by decide +kernel
theorem dL_motion_13 : decode cL_motion 13 = .ok (.astore 4, 2) := by decide +kernel
theorem dL_motion_15 : decode cL_motion 15 = .ok (.iconst 1, 1) := by decide +kernel
theorem dL_motion_16 : decode cL_motion 16 = .ok (.ireturn, 1) := by decide +kernel
theorem dL_motion_17 : decode cL_motion 17 = .ok (.iconst 0, 1) := by decide +kernel
theorem dL_motion_18 : decode cL_motion 18 = .ok (.ireturn, 1) := by decide +kernel
theorem dL_weight_0 : decode cL_weight 0 = .ok (.aload_n 3, 1) := by decide +kernel
theorem dL_weight_1 : decode cL_weight 1 = .ok (.iconst 0, 1) := by decide +kernel
theorem dL_weight_2 : decode cL_weight 2 = .ok (.aload_n 0, 1) := by decide +kernel
theorem dL_weight_3 : decode cL_weight 3 = .ok (.iload_n 1, 1) := by decide +kernel
theorem dL_weight_4 : decode cL_weight 4 = .ok (.iload_n 2, 1) := by decide +kernel
theorem dL_weight_5 : decode cL_weight 5 = .ok (.invokevirtual 15, 3) := by decide +kernel
theorem dL_weight_8 : decode cL_weight 8 = .ok (.i2l, 1) := by decide +kernel
theorem dL_weight_9 : decode cL_weight 9 = .ok (.lastore, 1) := by decide +kernel
theorem dL_weight_10 : decode cL_weight 10 = .ok (.goto 7, 3) := by decide +kernel
theorem dL_weight_13 : decode cL_weight 13 = .ok (.astore 4, 2) := by decide +kernel
theorem dL_weight_15 : decode cL_weight 15 = .ok (.iconst 1, 1) := by decide +kernel
theorem dL_weight_16 : decode cL_weight 16 = .ok (.ireturn, 1) := by decide +kernel
theorem dL_weight_17 : decode cL_weight 17 = .ok (.iconst 0, 1) := by decide +kernel
theorem dL_weight_18 : decode cL_weight 18 = .ok (.ireturn, 1) := by decide +kernel
theorem dL_likes_0 : decode cL_likes 0 = .ok (.aload_n 3, 1) := by decide +kernel
theorem dL_likes_1 : decode cL_likes 1 = .ok (.iconst 0, 1) := by decide +kernel
theorem dL_likes_2 : decode cL_likes 2 = .ok (.aload_n 0, 1) := by decide +kernel
theorem dL_likes_3 : decode cL_likes 3 = .ok (.iload_n 1, 1) := by decide +kernel
theorem dL_likes_4 : decode cL_likes 4 = .ok (.iload_n 2, 1) := by decide +kernel
theorem dL_likes_5 : decode cL_likes 5 = .ok (.invokevirtual 18, 3) := by decide +kernel
theorem dL_likes_8 : decode cL_likes 8 = .ok (.i2l, 1) := by decide +kernel
theorem dL_likes_9 : decode cL_likes 9 = .ok (.lastore, 1) := by decide +kernel
theorem dL_likes_10 : decode cL_likes 10 = .ok (.goto 7, 3) := by decide +kernel
theorem dL_likes_13 : decode cL_likes 13 = .ok (.astore 4, 2) := by decide +kernel
theorem dL_likes_15 : decode cL_likes 15 = .ok (.iconst 1, 1) := by decide +kernel
theorem dL_likes_16 : decode cL_likes 16 = .ok (.ireturn, 1) := by decide +kernel
theorem dL_likes_17 : decode cL_likes 17 = .ok (.iconst 0, 1) := by decide +kernel
theorem dL_likes_18 : decode cL_likes 18 = .ok (.ireturn, 1) := by decide +kernel
theorem dL_law_0 : decode cL_law 0 = .ok (.new 8, 3) := by decide +kernel
theorem dL_law_3 : decode cL_law 3 = .ok (.dup, 1) := by decide +kernel
theorem dL_law_4 : decode cL_law 4 = .ok (.invokespecial 21, 3) := by decide +kernel
theorem dL_law_7 : decode cL_law 7 = .ok (.astore_n 1, 1) := by decide +kernel
theorem dL_law_8 : decode cL_law 8 = .ok (.new 22, 3) := by decide +kernel
theorem dL_law_11 : decode cL_law 11 = .ok (.dup, 1) := by decide +kernel
theorem dL_law_12 : decode cL_law 12 = .ok (.invokespecial 24, 3) := by decide +kernel
theorem dL_law_15 : decode cL_law 15 = .ok (.astore_n 2, 1) := by decide +kernel
theorem dL_law_16 : decode cL_law 16 = .ok (.iconst 1, 1) := by decide +kernel
theorem dL_law_17 : decode cL_law 17 = .ok (.newarray .long, 2) := by decide +kernel
theorem dL_law_19 : decode cL_law 19 = .ok (.astore_n 3, 1) := by decide +kernel
theorem dL_law_20 : decode cL_law 20 = .ok (.iconst 0, 1) := by decide +kernel
theorem dL_law_21 : decode cL_law 21 = .ok (.istore 4, 2) := by decide +kernel
theorem dL_law_23 : decode cL_law 23 = .ok (.iload 4, 2) := by decide +kernel
theorem dL_law_25 : decode cL_law 25 = .ok (.aload_n 0, 1) := by decide +kernel
theorem dL_law_26 : decode cL_law 26 = .ok (.arraylength, 1) := by decide +kernel
theorem dL_law_27 : decode cL_law 27 = .ok (.bipush 6, 2) := by decide +kernel
theorem dL_law_29 : decode cL_law 29 = .ok (.isub, 1) := by decide +kernel
theorem dL_law_30 : decode cL_law 30 = .ok (.if_icmp .gt 919, 3) := by decide +kernel
theorem dL_law_33 : decode cL_law 33 = .ok (.aload_n 0, 1) := by decide +kernel
theorem dL_law_34 : decode cL_law 34 = .ok (.iload 4, 2) := by decide +kernel
theorem dL_law_36 : decode cL_law 36 = .ok (.iaload, 1) := by decide +kernel
theorem dL_law_37 : decode cL_law 37 = .ok (.bipush 31, 2) := by decide +kernel
theorem dL_law_39 : decode cL_law 39 = .ok (.iand, 1) := by decide +kernel
theorem dL_law_40 : decode cL_law 40 = .ok (.tableswitch 903 0 21 #[104, 177, 202, 215, 228, 277, 302, 327, 395, 463, 531, 556, 581, 606, 643, 680, 717, 742, 791, 828, 853, 866], 104) := by decide +kernel
theorem dL_law_144 : decode cL_law 144 = .ok (.aload_n 1, 1) := by decide +kernel
theorem dL_law_145 : decode cL_law 145 = .ok (.aload_n 0, 1) := by decide +kernel
theorem dL_law_146 : decode cL_law 146 = .ok (.iload 4, 2) := by decide +kernel
theorem dL_law_148 : decode cL_law 148 = .ok (.iconst 1, 1) := by decide +kernel
theorem dL_law_149 : decode cL_law 149 = .ok (.iadd, 1) := by decide +kernel
theorem dL_law_150 : decode cL_law 150 = .ok (.iaload, 1) := by decide +kernel
theorem dL_law_151 : decode cL_law 151 = .ok (.aload_n 0, 1) := by decide +kernel
theorem dL_law_152 : decode cL_law 152 = .ok (.iload 4, 2) := by decide +kernel
theorem dL_law_154 : decode cL_law 154 = .ok (.iconst 2, 1) := by decide +kernel
theorem dL_law_155 : decode cL_law 155 = .ok (.iadd, 1) := by decide +kernel
theorem dL_law_156 : decode cL_law 156 = .ok (.iaload, 1) := by decide +kernel
theorem dL_law_157 : decode cL_law 157 = .ok (.aload_n 0, 1) := by decide +kernel
theorem dL_law_158 : decode cL_law 158 = .ok (.iload 4, 2) := by decide +kernel
theorem dL_law_160 : decode cL_law 160 = .ok (.iconst 3, 1) := by decide +kernel
theorem dL_law_161 : decode cL_law 161 = .ok (.iadd, 1) := by decide +kernel
theorem dL_law_162 : decode cL_law 162 = .ok (.iaload, 1) := by decide +kernel
theorem dL_law_163 : decode cL_law 163 = .ok (.aload_n 0, 1) := by decide +kernel
theorem dL_law_164 : decode cL_law 164 = .ok (.iload 4, 2) := by decide +kernel
theorem dL_law_166 : decode cL_law 166 = .ok (.iconst 4, 1) := by decide +kernel
theorem dL_law_167 : decode cL_law 167 = .ok (.iadd, 1) := by decide +kernel
theorem dL_law_168 : decode cL_law 168 = .ok (.iaload, 1) := by decide +kernel
theorem dL_law_169 : decode cL_law 169 = .ok (.aload_n 0, 1) := by decide +kernel
theorem dL_law_170 : decode cL_law 170 = .ok (.iload 4, 2) := by decide +kernel
theorem dL_law_172 : decode cL_law 172 = .ok (.iconst 5, 1) := by decide +kernel
theorem dL_law_173 : decode cL_law 173 = .ok (.iadd, 1) := by decide +kernel
theorem dL_law_174 : decode cL_law 174 = .ok (.iaload, 1) := by decide +kernel
theorem dL_law_175 : decode cL_law 175 = .ok (.invokevirtual 25, 3) := by decide +kernel
theorem dL_law_178 : decode cL_law 178 = .ok (.aload_n 2, 1) := by decide +kernel
theorem dL_law_179 : decode cL_law 179 = .ok (.aload_n 0, 1) := by decide +kernel
theorem dL_law_180 : decode cL_law 180 = .ok (.iload 4, 2) := by decide +kernel
theorem dL_law_182 : decode cL_law 182 = .ok (.iconst 1, 1) := by decide +kernel
theorem dL_law_183 : decode cL_law 183 = .ok (.iadd, 1) := by decide +kernel
theorem dL_law_184 : decode cL_law 184 = .ok (.iaload, 1) := by decide +kernel
theorem dL_law_185 : decode cL_law 185 = .ok (.aload_n 0, 1) := by decide +kernel
theorem dL_law_186 : decode cL_law 186 = .ok (.iload 4, 2) := by decide +kernel
theorem dL_law_188 : decode cL_law 188 = .ok (.iconst 2, 1) := by decide +kernel
theorem dL_law_189 : decode cL_law 189 = .ok (.iadd, 1) := by decide +kernel
theorem dL_law_190 : decode cL_law 190 = .ok (.iaload, 1) := by decide +kernel
theorem dL_law_191 : decode cL_law 191 = .ok (.aload_n 0, 1) := by decide +kernel
theorem dL_law_192 : decode cL_law 192 = .ok (.iload 4, 2) := by decide +kernel
theorem dL_law_194 : decode cL_law 194 = .ok (.iconst 3, 1) := by decide +kernel
theorem dL_law_195 : decode cL_law 195 = .ok (.iadd, 1) := by decide +kernel
theorem dL_law_196 : decode cL_law 196 = .ok (.iaload, 1) := by decide +kernel
theorem dL_law_197 : decode cL_law 197 = .ok (.aload_n 0, 1) := by decide +kernel
theorem dL_law_198 : decode cL_law 198 = .ok (.iload 4, 2) := by decide +kernel
theorem dL_law_200 : decode cL_law 200 = .ok (.iconst 4, 1) := by decide +kernel
theorem dL_law_201 : decode cL_law 201 = .ok (.iadd, 1) := by decide +kernel
theorem dL_law_202 : decode cL_law 202 = .ok (.iaload, 1) := by decide +kernel
theorem dL_law_203 : decode cL_law 203 = .ok (.aload_n 0, 1) := by decide +kernel
theorem dL_law_204 : decode cL_law 204 = .ok (.iload 4, 2) := by decide +kernel
theorem dL_law_206 : decode cL_law 206 = .ok (.iconst 5, 1) := by decide +kernel
theorem dL_law_207 : decode cL_law 207 = .ok (.iadd, 1) := by decide +kernel
theorem dL_law_208 : decode cL_law 208 = .ok (.iaload, 1) := by decide +kernel
theorem dL_law_209 : decode cL_law 209 = .ok (.invokevirtual 29, 3) := by decide +kernel
