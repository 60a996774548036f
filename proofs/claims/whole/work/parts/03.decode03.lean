theorem dX3_voter_94 : decode cX3_voter 94 = .ok (.iload_n 2, 1) := by decide +kernel
theorem dX3_voter_95 : decode cX3_voter 95 = .ok (.invokestatic 145, 3) := by decide +kernel
theorem dX3_voter_98 : decode cX3_voter 98 = .ok (.ifCond .eq 9, 3) := by decide +kernel
theorem dX3_voter_101 : decode cX3_voter 101 = .ok (.aload_n 0, 1) := by decide +kernel
theorem dX3_voter_102 : decode cX3_voter 102 = .ok (.iconst 3, 1) := by decide +kernel
theorem dX3_voter_103 : decode cX3_voter 103 = .ok (.invokevirtual 87, 3) := by decide +kernel
theorem dX3_voter_106 : decode cX3_voter 106 = .ok (.ireturn, 1) := by decide +kernel
theorem dX3_voter_107 : decode cX3_voter 107 = .ok (.iload_n 2, 1) := by decide +kernel
theorem dX3_voter_108 : decode cX3_voter 108 = .ok (.iconst 1, 1) := by decide +kernel
theorem dX3_voter_109 : decode cX3_voter 109 = .ok (.iload 4, 2) := by decide +kernel
theorem dX3_voter_111 : decode cX3_voter 111 = .ok (.ishl, 1) := by decide +kernel
theorem dX3_voter_112 : decode cX3_voter 112 = .ok (.ior, 1) := by decide +kernel
theorem dX3_voter_113 : decode cX3_voter 113 = .ok (.istore_n 2, 1) := by decide +kernel
theorem dX3_voter_114 : decode cX3_voter 114 = .ok (.aload_n 0, 1) := by decide +kernel
theorem dX3_voter_115 : decode cX3_voter 115 = .ok (.invokevirtual 47, 3) := by decide +kernel
theorem dX3_voter_118 : decode cX3_voter 118 = .ok (.aload_n 0, 1) := by decide +kernel
theorem dX3_voter_119 : decode cX3_voter 119 = .ok (.invokevirtual 149, 3) := by decide +kernel
theorem dX3_voter_122 : decode cX3_voter 122 = .ok (.ifCond .ne 5, 3) := by decide +kernel
theorem dX3_voter_125 : decode cX3_voter 125 = .ok (.iconst 0, 1) := by decide +kernel
theorem dX3_voter_126 : decode cX3_voter 126 = .ok (.ireturn, 1) := by decide +kernel
theorem dX3_voter_127 : decode cX3_voter 127 = .ok (.aload_n 0, 1) := by decide +kernel
theorem dX3_voter_128 : decode cX3_voter 128 = .ok (.getfield 15, 3) := by decide +kernel
theorem dX3_voter_131 : decode cX3_voter 131 = .ok (.getfield 152, 3) := by decide +kernel
theorem dX3_voter_134 : decode cX3_voter 134 = .ok (.iload_n 1, 1) := by decide +kernel
theorem dX3_voter_135 : decode cX3_voter 135 = .ok (.iload 4, 2) := by decide +kernel
theorem dX3_voter_137 : decode cX3_voter 137 = .ok (.iadd, 1) := by decide +kernel
theorem dX3_voter_138 : decode cX3_voter 138 = .ok (.aload_n 0, 1) := by decide +kernel
theorem dX3_voter_139 : decode cX3_voter 139 = .ok (.getfield 155, 3) := by decide +kernel
theorem dX3_voter_142 : decode cX3_voter 142 = .ok (.iastore, 1) := by decide +kernel
theorem dX3_voter_143 : decode cX3_voter 143 = .ok (.iinc 3 1, 3) := by decide +kernel
theorem dX3_voter_146 : decode cX3_voter 146 = .ok (.goto (-109), 3) := by decide +kernel
theorem dX3_voter_149 : decode cX3_voter 149 = .ok (.aload_n 0, 1) := by decide +kernel
theorem dX3_voter_150 : decode cX3_voter 150 = .ok (.getfield 15, 3) := by decide +kernel
theorem dX3_voter_153 : decode cX3_voter 153 = .ok (.dup, 1) := by decide +kernel
theorem dX3_voter_154 : decode cX3_voter 154 = .ok (.getfield 136, 3) := by decide +kernel
theorem dX3_voter_157 : decode cX3_voter 157 = .ok (.iconst 1, 1) := by decide +kernel
theorem dX3_voter_158 : decode cX3_voter 158 = .ok (.iadd, 1) := by decide +kernel
theorem dX3_voter_159 : decode cX3_voter 159 = .ok (.putfield 136, 3) := by decide +kernel
theorem dX3_voter_162 : decode cX3_voter 162 = .ok (.iconst 1, 1) := by decide +kernel
theorem dX3_voter_163 : decode cX3_voter 163 = .ok (.ireturn, 1) := by decide +kernel
theorem dX3_joint_0 : decode cX3_joint 0 = .ok (.aload_n 0, 1) := by decide +kernel
theorem dX3_joint_1 : decode cX3_joint 1 = .ok (.getfield 15, 3) := by decide +kernel
theorem dX3_joint_4 : decode cX3_joint 4 = .ok (.getfield 158, 3) := by decide +kernel
theorem dX3_joint_7 : decode cX3_joint 7 = .ok (.bipush 6, 2) := by decide +kernel
theorem dX3_joint_9 : decode cX3_joint 9 = .ok (.if_icmp .lt 9, 3) := by decide +kernel
theorem dX3_joint_12 : decode cX3_joint 12 = .ok (.aload_n 0, 1) := by decide +kernel
theorem dX3_joint_13 : decode cX3_joint 13 = .ok (.iconst 4, 1) := by decide +kernel
theorem dX3_joint_14 : decode cX3_joint 14 = .ok (.invokevirtual 87, 3) := by decide +kernel
theorem dX3_joint_17 : decode cX3_joint 17 = .ok (.ireturn, 1) := by decide +kernel
theorem dX3_joint_18 : decode cX3_joint 18 = .ok (.aload_n 0, 1) := by decide +kernel
theorem dX3_joint_19 : decode cX3_joint 19 = .ok (.invokevirtual 47, 3) := by decide +kernel
theorem dX3_joint_22 : decode cX3_joint 22 = .ok (.aload_n 0, 1) := by decide +kernel
theorem dX3_joint_23 : decode cX3_joint 23 = .ok (.getfield 50, 3) := by decide +kernel
theorem dX3_joint_26 : decode cX3_joint 26 = .ok (.iconst 2, 1) := by decide +kernel
theorem dX3_joint_27 : decode cX3_joint 27 = .ok (.if_icmp .eq 9, 3) := by decide +kernel
theorem dX3_joint_30 : decode cX3_joint 30 = .ok (.aload_n 0, 1) := by decide +kernel
theorem dX3_joint_31 : decode cX3_joint 31 = .ok (.iconst 1, 1) := by decide +kernel
theorem dX3_joint_32 : decode cX3_joint 32 = .ok (.invokevirtual 87, 3) := by decide +kernel
theorem dX3_joint_35 : decode cX3_joint 35 = .ok (.ireturn, 1) := by decide +kernel
theorem dX3_joint_36 : decode cX3_joint 36 = .ok (.aload_n 0, 1) := by decide +kernel
theorem dX3_joint_37 : decode cX3_joint 37 = .ok (.getfield 124, 3) := by decide +kernel
theorem dX3_joint_40 : decode cX3_joint 40 = .ok (.istore_n 1, 1) := by decide +kernel
theorem dX3_joint_41 : decode cX3_joint 41 = .ok (.aload_n 0, 1) := by decide +kernel
theorem dX3_joint_42 : decode cX3_joint 42 = .ok (.getfield 15, 3) := by decide +kernel
theorem dX3_joint_45 : decode cX3_joint 45 = .ok (.iload_n 1, 1) := by decide +kernel
theorem dX3_joint_46 : decode cX3_joint 46 = .ok (.invokevirtual 161, 3) := by decide +kernel
theorem dX3_joint_49 : decode cX3_joint 49 = .ok (.ifCond .ne 9, 3) := by decide +kernel
theorem dX3_joint_52 : decode cX3_joint 52 = .ok (.aload_n 0, 1) := by decide +kernel
theorem dX3_joint_53 : decode cX3_joint 53 = .ok (.iconst 2, 1) := by decide +kernel
theorem dX3_joint_54 : decode cX3_joint 54 = .ok (.invokevirtual 87, 3) := by decide +kernel
theorem dX3_joint_57 : decode cX3_joint 57 = .ok (.ireturn, 1) := by decide +kernel
theorem dX3_joint_58 : decode cX3_joint 58 = .ok (.aload_n 0, 1) := by decide +kernel
theorem dX3_joint_59 : decode cX3_joint 59 = .ok (.invokevirtual 47, 3) := by decide +kernel
theorem dX3_joint_62 : decode cX3_joint 62 = .ok (.aload_n 0, 1) := by decide +kernel
theorem dX3_joint_63 : decode cX3_joint 63 = .ok (.iconst 2, 1) := by decide +kernel
theorem dX3_joint_64 : decode cX3_joint 64 = .ok (.invokevirtual 98, 3) := by decide +kernel
theorem dX3_joint_67 : decode cX3_joint 67 = .ok (.ifCond .eq 10, 3) := by decide +kernel
theorem dX3_joint_70 : decode cX3_joint 70 = .ok (.aload_n 0, 1) := by decide +kernel
theorem dX3_joint_71 : decode cX3_joint 71 = .ok (.invokevirtual 149, 3) := by decide +kernel
theorem dX3_joint_74 : decode cX3_joint 74 = .ok (.ifCond .ne 5, 3) := by decide +kernel
theorem dX3_joint_77 : decode cX3_joint 77 = .ok (.iconst 0, 1) := by decide +kernel
theorem dX3_joint_78 : decode cX3_joint 78 = .ok (.ireturn, 1) := by decide +kernel
theorem dX3_joint_79 : decode cX3_joint 79 = .ok (.aload_n 0, 1) := by decide +kernel
theorem dX3_joint_80 : decode cX3_joint 80 = .ok (.getfield 15, 3) := by decide +kernel
theorem dX3_joint_83 : decode cX3_joint 83 = .ok (.iload_n 1, 1) := by decide +kernel
theorem dX3_joint_84 : decode cX3_joint 84 = .ok (.aload_n 0, 1) := by decide +kernel
theorem dX3_joint_85 : decode cX3_joint 85 = .ok (.getfield 101, 3) := by decide +kernel
theorem dX3_joint_88 : decode cX3_joint 88 = .ok (.aload_n 0, 1) := by decide +kernel
theorem dX3_joint_89 : decode cX3_joint 89 = .ok (.getfield 155, 3) := by decide +kernel
theorem dX3_joint_92 : decode cX3_joint 92 = .ok (.invokevirtual 164, 3) := by decide +kernel
theorem dX3_joint_95 : decode cX3_joint 95 = .ok (.iconst 1, 1) := by decide +kernel
theorem dX3_joint_96 : decode cX3_joint 96 = .ok (.ireturn, 1) := by decide +kernel
theorem dX3_quota_0 : decode cX3_quota 0 = .ok (.aload_n 0, 1) := by decide +kernel
theorem dX3_quota_1 : decode cX3_quota 1 = .ok (.getfield 15, 3) := by decide +kernel
theorem dX3_quota_4 : decode cX3_quota 4 = .ok (.getfield 168, 3) := by decide +kernel
theorem dX3_quota_7 : decode cX3_quota 7 = .ok (.ifCond .eq 9, 3) := by decide +kernel
theorem dX3_quota_10 : decode cX3_quota 10 = .ok (.aload_n 0, 1) := by decide +kernel
theorem dX3_quota_11 : decode cX3_quota 11 = .ok (.iconst 3, 1) := by decide +kernel
theorem dX3_quota_12 : decode cX3_quota 12 = .ok (.invokevirtual 87, 3) := by decide +kernel
theorem dX3_quota_15 : decode cX3_quota 15 = .ok (.ireturn, 1) := by decide +kernel
theorem dX3_quota_16 : decode cX3_quota 16 = .ok (.aload_n 0, 1) := by decide +kernel
theorem dX3_quota_17 : decode cX3_quota 17 = .ok (.invokevirtual 47, 3) := by decide +kernel
theorem dX3_quota_20 : decode cX3_quota 20 = .ok (.aload_n 0, 1) := by decide +kernel
theorem dX3_quota_21 : decode cX3_quota 21 = .ok (.getfield 50, 3) := by decide +kernel
theorem dX3_quota_24 : decode cX3_quota 24 = .ok (.iconst 2, 1) := by decide +kernel
theorem dX3_quota_25 : decode cX3_quota 25 = .ok (.if_icmp .eq 9, 3) := by decide +kernel
theorem dX3_quota_28 : decode cX3_quota 28 = .ok (.aload_n 0, 1) := by decide +kernel
theorem dX3_quota_29 : decode cX3_quota 29 = .ok (.iconst 1, 1) := by decide +kernel
theorem dX3_quota_30 : decode cX3_quota 30 = .ok (.invokevirtual 87, 3) := by decide +kernel
theorem dX3_quota_33 : decode cX3_quota 33 = .ok (.ireturn, 1) := by decide +kernel
theorem dX3_quota_34 : decode cX3_quota 34 = .ok (.aload_n 0, 1) := by decide +kernel
theorem dX3_quota_35 : decode cX3_quota 35 = .ok (.getfield 124, 3) := by decide +kernel
theorem dX3_quota_38 : decode cX3_quota 38 = .ok (.iconst 1, 1) := by decide +kernel
theorem dX3_quota_39 : decode cX3_quota 39 = .ok (.if_icmp .lt 12, 3) := by decide +kernel
theorem dX3_quota_42 : decode cX3_quota 42 = .ok (.aload_n 0, 1) := by decide +kernel
theorem dX3_quota_43 : decode cX3_quota 43 = .ok (.getfield 124, 3) := by decide +kernel
theorem dX3_quota_46 : decode cX3_quota 46 = .ok (.bipush 9, 2) := by decide +kernel
theorem dX3_quota_48 : decode cX3_quota 48 = .ok (.if_icmp .le 9, 3) := by decide +kernel
theorem dX3_quota_51 : decode cX3_quota 51 = .ok (.aload_n 0, 1) := by decide +kernel
theorem dX3_quota_52 : decode cX3_quota 52 = .ok (.iconst 2, 1) := by decide +kernel
theorem dX3_quota_53 : decode cX3_quota 53 = .ok (.invokevirtual 87, 3) := by decide +kernel
theorem dX3_quota_56 : decode cX3_quota 56 = .ok (.ireturn, 1) := by decide +kernel
theorem dX3_quota_57 : decode cX3_quota 57 = .ok (.aload_n 0, 1) := by decide +kernel
theorem dX3_quota_58 : decode cX3_quota 58 = .ok (.getfield 15, 3) := by decide +kernel
theorem dX3_quota_61 : decode cX3_quota 61 = .ok (.aload_n 0, 1) := by decide +kernel
theorem dX3_quota_62 : decode cX3_quota 62 = .ok (.getfield 124, 3) := by decide +kernel
theorem dX3_quota_65 : decode cX3_quota 65 = .ok (.putfield 168, 3) := by decide +kernel
theorem dX3_quota_68 : decode cX3_quota 68 = .ok (.aload_n 0, 1) := by decide +kernel
theorem dX3_quota_69 : decode cX3_quota 69 = .ok (.invokevirtual 47, 3) := by decide +kernel
theorem dX3_quota_72 : decode cX3_quota 72 = .ok (.iconst 1, 1) := by decide +kernel
theorem dX3_quota_73 : decode cX3_quota 73 = .ok (.ireturn, 1) := by decide +kernel
theorem dX3_clauseSet_0 : decode cX3_clauseSet 0 = .ok (.iconst 0, 1) := by decide +kernel
theorem dX3_clauseSet_1 : decode cX3_clauseSet 1 = .ok (.istore_n 2, 1) := by decide +kernel
theorem dX3_clauseSet_2 : decode cX3_clauseSet 2 = .ok (.aload_n 0, 1) := by decide +kernel
theorem dX3_clauseSet_3 : decode cX3_clauseSet 3 = .ok (.getfield 50, 3) := by decide +kernel
theorem dX3_clauseSet_6 : decode cX3_clauseSet 6 = .ok (.iconst 1, 1) := by decide +kernel
theorem dX3_clauseSet_7 : decode cX3_clauseSet 7 = .ok (.if_icmp .ne 16, 3) := by decide +kernel
theorem dX3_clauseSet_10 : decode cX3_clauseSet 10 = .ok (.aload_n 0, 1) := by decide +kernel
theorem dX3_clauseSet_11 : decode cX3_clauseSet 11 = .ok (.getfield 44, 3) := by decide +kernel
theorem dX3_clauseSet_14 : decode cX3_clauseSet 14 = .ok (.aload_n 0, 1) := by decide +kernel
theorem dX3_clauseSet_15 : decode cX3_clauseSet 15 = .ok (.getfield 139, 3) := by decide +kernel
theorem dX3_clauseSet_18 : decode cX3_clauseSet 18 = .ok (.isub, 1) := by decide +kernel
theorem dX3_clauseSet_19 : decode cX3_clauseSet 19 = .ok (.iload_n 1, 1) := by decide +kernel
theorem dX3_clauseSet_20 : decode cX3_clauseSet 20 = .ok (.if_icmp .ge 9, 3) := by decide +kernel
theorem dX3_clauseSet_23 : decode cX3_clauseSet 23 = .ok (.aload_n 0, 1) := by decide +kernel
theorem dX3_clauseSet_24 : decode cX3_clauseSet 24 = .ok (.iconst 1, 1) := by decide +kernel
theorem dX3_clauseSet_25 : decode cX3_clauseSet 25 = .ok (.invokevirtual 87, 3) := by decide +kernel
theorem dX3_clauseSet_28 : decode cX3_clauseSet 28 = .ok (.ireturn, 1) := by decide +kernel
theorem dX3_clauseSet_29 : decode cX3_clauseSet 29 = .ok (.aload_n 0, 1) := by decide +kernel
theorem dX3_clauseSet_30 : decode cX3_clauseSet 30 = .ok (.getfield 139, 3) := by decide +kernel
theorem dX3_clauseSet_33 : decode cX3_clauseSet 33 = .ok (.istore_n 3, 1) := by decide +kernel
theorem dX3_clauseSet_34 : decode cX3_clauseSet 34 = .ok (.iload_n 3, 1) := by decide +kernel
theorem dX3_clauseSet_35 : decode cX3_clauseSet 35 = .ok (.aload_n 0, 1) := by decide +kernel
theorem dX3_clauseSet_36 : decode cX3_clauseSet 36 = .ok (.getfield 44, 3) := by decide +kernel
theorem dX3_clauseSet_39 : decode cX3_clauseSet 39 = .ok (.if_icmp .ge 50, 3) := by decide +kernel
theorem dX3_clauseSet_42 : decode cX3_clauseSet 42 = .ok (.aload_n 0, 1) := by decide +kernel
theorem dX3_clauseSet_43 : decode cX3_clauseSet 43 = .ok (.getfield 9, 3) := by decide +kernel
theorem dX3_clauseSet_46 : decode cX3_clauseSet 46 = .ok (.iload_n 3, 1) := by decide +kernel
theorem dX3_clauseSet_47 : decode cX3_clauseSet 47 = .ok (.iaload, 1) := by decide +kernel
theorem dX3_clauseSet_48 : decode cX3_clauseSet 48 = .ok (.bipush 97, 2) := by decide +kernel
theorem dX3_clauseSet_50 : decode cX3_clauseSet 50 = .ok (.isub, 1) := by decide +kernel
theorem dX3_clauseSet_51 : decode cX3_clauseSet 51 = .ok (.istore 4, 2) := by decide +kernel
theorem dX3_clauseSet_53 : decode cX3_clauseSet 53 = .ok (.iload 4, 2) := by decide +kernel
theorem dX3_clauseSet_55 : decode cX3_clauseSet 55 = .ok (.invokestatic 142, 3) := by decide +kernel
theorem dX3_clauseSet_58 : decode cX3_clauseSet 58 = .ok (.ifCond .eq 12, 3) := by decide +kernel
theorem dX3_clauseSet_61 : decode cX3_clauseSet 61 = .ok (.iload 4, 2) := by decide +kernel
theorem dX3_clauseSet_63 : decode cX3_clauseSet 63 = .ok (.iload_n 2, 1) := by decide +kernel
theorem dX3_clauseSet_64 : decode cX3_clauseSet 64 = .ok (.invokestatic 145, 3) := by decide +kernel
theorem dX3_clauseSet_67 : decode cX3_clauseSet 67 = .ok (.ifCond .eq 9, 3) := by decide +kernel
theorem dX3_clauseSet_70 : decode cX3_clauseSet 70 = .ok (.aload_n 0, 1) := by decide +kernel
theorem dX3_clauseSet_71 : decode cX3_clauseSet 71 = .ok (.iconst 1, 1) := by decide +kernel
theorem dX3_clauseSet_72 : decode cX3_clauseSet 72 = .ok (.invokevirtual 87, 3) := by decide +kernel
theorem dX3_clauseSet_75 : decode cX3_clauseSet 75 = .ok (.ireturn, 1) := by decide +kernel
theorem dX3_clauseSet_76 : decode cX3_clauseSet 76 = .ok (.iload_n 2, 1) := by decide +kernel
theorem dX3_clauseSet_77 : decode cX3_clauseSet 77 = .ok (.iconst 1, 1) := by decide +kernel
theorem dX3_clauseSet_78 : decode cX3_clauseSet 78 = .ok (.iload 4, 2) := by decide +kernel
theorem dX3_clauseSet_80 : decode cX3_clauseSet 80 = .ok (.ishl, 1) := by decide +kernel
theorem dX3_clauseSet_81 : decode cX3_clauseSet 81 = .ok (.ior, 1) := by decide +kernel
theorem dX3_clauseSet_82 : decode cX3_clauseSet 82 = .ok (.istore_n 2, 1) := by decide +kernel
theorem dX3_clauseSet_83 : decode cX3_clauseSet 83 = .ok (.iinc 3 1, 3) := by decide +kernel
theorem dX3_clauseSet_86 : decode cX3_clauseSet 86 = .ok (.goto (-52), 3) := by decide +kernel
theorem dX3_clauseSet_89 : decode cX3_clauseSet 89 = .ok (.aload_n 0, 1) := by decide +kernel
theorem dX3_clauseSet_90 : decode cX3_clauseSet 90 = .ok (.iload_n 2, 1) := by decide +kernel
theorem dX3_clauseSet_91 : decode cX3_clauseSet 91 = .ok (.putfield 101, 3) := by decide +kernel
theorem dX3_clauseSet_94 : decode cX3_clauseSet 94 = .ok (.aload_n 0, 1) := by decide +kernel
theorem dX3_clauseSet_95 : decode cX3_clauseSet 95 = .ok (.invokevirtual 47, 3) := by decide +kernel
theorem dX3_clauseSet_98 : decode cX3_clauseSet 98 = .ok (.iconst 1, 1) := by decide +kernel
theorem dX3_clauseSet_99 : decode cX3_clauseSet 99 = .ok (.ireturn, 1) := by decide +kernel
theorem dX3_signedWeight_0 : decode cX3_signedWeight 0 = .ok (.aload_n 0, 1) := by decide +kernel
theorem dX3_signedWeight_1 : decode cX3_signedWeight 1 = .ok (.bipush 45, 2) := by decide +kernel
theorem dX3_signedWeight_3 : decode cX3_signedWeight 3 = .ok (.invokevirtual 94, 3) := by decide +kernel
theorem dX3_signedWeight_6 : decode cX3_signedWeight 6 = .ok (.istore_n 1, 1) := by decide +kernel
theorem dX3_signedWeight_7 : decode cX3_signedWeight 7 = .ok (.iload_n 1, 1) := by decide +kernel
theorem dX3_signedWeight_8 : decode cX3_signedWeight 8 = .ok (.ifCond .eq 7, 3) := by decide +kernel
theorem dX3_signedWeight_11 : decode cX3_signedWeight 11 = .ok (.aload_n 0, 1) := by decide +kernel
theorem dX3_signedWeight_12 : decode cX3_signedWeight 12 = .ok (.invokevirtual 47, 3) := by decide +kernel
theorem dX3_signedWeight_15 : decode cX3_signedWeight 15 = .ok (.aload_n 0, 1) := by decide +kernel
theorem dX3_signedWeight_16 : decode cX3_signedWeight 16 = .ok (.getfield 50, 3) := by decide +kernel
theorem dX3_signedWeight_19 : decode cX3_signedWeight 19 = .ok (.iconst 2, 1) := by decide +kernel
theorem dX3_signedWeight_20 : decode cX3_signedWeight 20 = .ok (.if_icmp .eq 9, 3) := by decide +kernel
theorem dX3_signedWeight_23 : decode cX3_signedWeight 23 = .ok (.aload_n 0, 1) := by decide +kernel
theorem dX3_signedWeight_24 : decode cX3_signedWeight 24 = .ok (.iconst 1, 1) := by decide +kernel
theorem dX3_signedWeight_25 : decode cX3_signedWeight 25 = .ok (.invokevirtual 87, 3) := by decide +kernel
theorem dX3_signedWeight_28 : decode cX3_signedWeight 28 = .ok (.ireturn, 1) := by decide +kernel
theorem dX3_signedWeight_29 : decode cX3_signedWeight 29 = .ok (.aload_n 0, 1) := by decide +kernel
theorem dX3_signedWeight_30 : decode cX3_signedWeight 30 = .ok (.getfield 124, 3) := by decide +kernel
theorem dX3_signedWeight_33 : decode cX3_signedWeight 33 = .ok (.bipush 9, 2) := by decide +kernel
theorem dX3_signedWeight_35 : decode cX3_signedWeight 35 = .ok (.if_icmp .le 9, 3) := by decide +kernel
theorem dX3_signedWeight_38 : decode cX3_signedWeight 38 = .ok (.aload_n 0, 1) := by decide +kernel
theorem dX3_signedWeight_39 : decode cX3_signedWeight 39 = .ok (.iconst 2, 1) := by decide +kernel
theorem dX3_signedWeight_40 : decode cX3_signedWeight 40 = .ok (.invokevirtual 87, 3) := by decide +kernel
theorem dX3_signedWeight_43 : decode cX3_signedWeight 43 = .ok (.ireturn, 1) := by decide +kernel
theorem dX3_signedWeight_44 : decode cX3_signedWeight 44 = .ok (.aload_n 0, 1) := by decide +kernel
theorem dX3_signedWeight_45 : decode cX3_signedWeight 45 = .ok (.iload_n 1, 1) := by decide +kernel
theorem dX3_signedWeight_46 : decode cX3_signedWeight 46 = .ok (.ifCond .eq 11, 3) := by decide +kernel
theorem dX3_signedWeight_49 : decode cX3_signedWeight 49 = .ok (.aload_n 0, 1) := by decide +kernel
theorem dX3_signedWeight_50 : decode cX3_signedWeight 50 = .ok (.getfield 124, 3) := by decide +kernel
theorem dX3_signedWeight_53 : decode cX3_signedWeight 53 = .ok (.ineg, 1) := by decide +kernel
theorem dX3_signedWeight_54 : decode cX3_signedWeight 54 = .ok (.goto 7, 3) := by decide +kernel
theorem dX3_signedWeight_57 : decode cX3_signedWeight 57 = .ok (.aload_n 0, 1) := by decide +kernel
theorem dX3_signedWeight_58 : decode cX3_signedWeight 58 = .ok (.getfield 124, 3) := by decide +kernel
theorem dX3_signedWeight_61 : decode cX3_signedWeight 61 = .ok (.putfield 155, 3) := by decide +kernel
theorem dX3_signedWeight_64 : decode cX3_signedWeight 64 = .ok (.aload_n 0, 1) := by decide +kernel
theorem dX3_signedWeight_65 : decode cX3_signedWeight 65 = .ok (.invokevirtual 47, 3) := by decide +kernel
theorem dX3_signedWeight_68 : decode cX3_signedWeight 68 = .ok (.iconst 1, 1) := by decide +kernel
theorem dX3_signedWeight_69 : decode cX3_signedWeight 69 = .ok (.ireturn, 1) := by decide +kernel
theorem dX3_refuse_0 : decode cX3_refuse 0 = .ok (.aload_n 0, 1) := by decide +kernel
theorem dX3_refuse_1 : decode cX3_refuse 1 = .ok (.iload_n 1, 1) := by decide +kernel
theorem dX3_refuse_2 : decode cX3_refuse 2 = .ok (.bipush 8, 2) := by decide +kernel
theorem dX3_refuse_4 : decode cX3_refuse 4 = .ok (.aload_n 0, 1) := by decide +kernel
theorem dX3_refuse_5 : decode cX3_refuse 5 = .ok (.getfield 139, 3) := by decide +kernel
theorem dX3_refuse_8 : decode cX3_refuse 8 = .ok (.imul, 1) := by decide +kernel
theorem dX3_refuse_9 : decode cX3_refuse 9 = .ok (.iadd, 1) := by decide +kernel
theorem dX3_refuse_10 : decode cX3_refuse 10 = .ok (.putfield 41, 3) := by decide +kernel
theorem dX3_refuse_13 : decode cX3_refuse 13 = .ok (.iconst 0, 1) := by decide +kernel
theorem dX3_refuse_14 : decode cX3_refuse 14 = .ok (.ireturn, 1) := by decide +kernel
theorem dX3_isSign_0 : decode cX3_isSign 0 = .ok (.aload_n 0, 1) := by decide +kernel
theorem dX3_isSign_1 : decode cX3_isSign 1 = .ok (.getfield 50, 3) := by decide +kernel
theorem dX3_isSign_4 : decode cX3_isSign 4 = .ok (.iconst 3, 1) := by decide +kernel
theorem dX3_isSign_5 : decode cX3_isSign 5 = .ok (.if_icmp .ne 15, 3) := by decide +kernel
theorem dX3_isSign_8 : decode cX3_isSign 8 = .ok (.aload_n 0, 1) := by decide +kernel
theorem dX3_isSign_9 : decode cX3_isSign 9 = .ok (.getfield 124, 3) := by decide +kernel
theorem dX3_isSign_12 : decode cX3_isSign 12 = .ok (.iload_n 1, 1) := by decide +kernel
theorem dX3_isSign_13 : decode cX3_isSign 13 = .ok (.if_icmp .ne 7, 3) := by decide +kernel
theorem dX3_isSign_16 : decode cX3_isSign 16 = .ok (.iconst 1, 1) := by decide +kernel
theorem dX3_isSign_17 : decode cX3_isSign 17 = .ok (.goto 4, 3) := by decide +kernel
theorem dX3_isSign_20 : decode cX3_isSign 20 = .ok (.iconst 0, 1) := by decide +kernel
theorem dX3_isSign_21 : decode cX3_isSign 21 = .ok (.ireturn, 1) := by decide +kernel
theorem dX3_isWord_0 : decode cX3_isWord 0 = .ok (.aload_n 0, 1) := by decide +kernel
theorem dX3_isWord_1 : decode cX3_isWord 1 = .ok (.getfield 50, 3) := by decide +kernel
theorem dX3_isWord_4 : decode cX3_isWord 4 = .ok (.iconst 1, 1) := by decide +kernel
theorem dX3_isWord_5 : decode cX3_isWord 5 = .ok (.if_icmp .ne 19, 3) := by decide +kernel
theorem dX3_isWord_8 : decode cX3_isWord 8 = .ok (.aload_n 0, 1) := by decide +kernel
theorem dX3_isWord_9 : decode cX3_isWord 9 = .ok (.getfield 44, 3) := by decide +kernel
theorem dX3_isWord_12 : decode cX3_isWord 12 = .ok (.aload_n 0, 1) := by decide +kernel
theorem dX3_isWord_13 : decode cX3_isWord 13 = .ok (.getfield 139, 3) := by decide +kernel
theorem dX3_isWord_16 : decode cX3_isWord 16 = .ok (.isub, 1) := by decide +kernel
theorem dX3_isWord_17 : decode cX3_isWord 17 = .ok (.aload_n 1, 1) := by decide +kernel
theorem dX3_isWord_18 : decode cX3_isWord 18 = .ok (.invokevirtual 171, 3) := by decide +kernel
theorem dX3_isWord_21 : decode cX3_isWord 21 = .ok (.if_icmp .eq 5, 3) := by decide +kernel
theorem dX3_isWord_24 : decode cX3_isWord 24 = .ok (.iconst 0, 1) := by decide +kernel
theorem dX3_isWord_25 : decode cX3_isWord 25 = .ok (.ireturn, 1) := by decide +kernel
theorem dX3_isWord_26 : decode cX3_isWord 26 = .ok (.iconst 0, 1) := by decide +kernel
theorem dX3_isWord_27 : decode cX3_isWord 27 = .ok (.istore_n 2, 1) := by decide +kernel
theorem dX3_isWord_28 : decode cX3_isWord 28 = .ok (.iload_n 2, 1) := by decide +kernel
theorem dX3_isWord_29 : decode cX3_isWord 29 = .ok (.aload_n 1, 1) := by decide +kernel
theorem dX3_isWord_30 : decode cX3_isWord 30 = .ok (.invokevirtual 171, 3) := by decide +kernel
theorem dX3_isWord_33 : decode cX3_isWord 33 = .ok (.if_icmp .ge 30, 3) := by decide +kernel
theorem dX3_isWord_36 : decode cX3_isWord 36 = .ok (.aload_n 0, 1) := by decide +kernel
theorem dX3_isWord_37 : decode cX3_isWord 37 = .ok (.getfield 9, 3) := by decide +kernel
theorem dX3_isWord_40 : decode cX3_isWord 40 = .ok (.aload_n 0, 1) := by decide +kernel
theorem dX3_isWord_41 : decode cX3_isWord 41 = .ok (.getfield 139, 3) := by decide +kernel
theorem dX3_isWord_44 : decode cX3_isWord 44 = .ok (.iload_n 2, 1) := by decide +kernel
theorem dX3_isWord_45 : decode cX3_isWord 45 = .ok (.iadd, 1) := by decide +kernel
theorem dX3_isWord_46 : decode cX3_isWord 46 = .ok (.iaload, 1) := by decide +kernel
theorem dX3_isWord_47 : decode cX3_isWord 47 = .ok (.aload_n 1, 1) := by decide +kernel
theorem dX3_isWord_48 : decode cX3_isWord 48 = .ok (.iload_n 2, 1) := by decide +kernel
theorem dX3_isWord_49 : decode cX3_isWord 49 = .ok (.invokevirtual 176, 3) := by decide +kernel
theorem dX3_isWord_52 : decode cX3_isWord 52 = .ok (.if_icmp .eq 5, 3) := by decide +kernel
theorem dX3_isWord_55 : decode cX3_isWord 55 = .ok (.iconst 0, 1) := by decide +kernel
theorem dX3_isWord_56 : decode cX3_isWord 56 = .ok (.ireturn, 1) := by decide +kernel
theorem dX3_isWord_57 : decode cX3_isWord 57 = .ok (.iinc 2 1, 3) := by decide +kernel
theorem dX3_isWord_60 : decode cX3_isWord 60 = .ok (.goto (-32), 3) := by decide +kernel
theorem dX3_isWord_63 : decode cX3_isWord 63 = .ok (.iconst 1, 1) := by decide +kernel
theorem dX3_isWord_64 : decode cX3_isWord 64 = .ok (.ireturn, 1) := by decide +kernel
theorem dX3_step_0 : decode cX3_step 0 = .ok (.aload_n 0, 1) := by decide +kernel
theorem dX3_step_1 : decode cX3_step 1 = .ok (.aload_n 0, 1) := by decide +kernel
theorem dX3_step_2 : decode cX3_step 2 = .ok (.getfield 44, 3) := by decide +kernel
theorem dX3_step_5 : decode cX3_step 5 = .ok (.putfield 139, 3) := by decide +kernel
theorem dX3_step_8 : decode cX3_step 8 = .ok (.aload_n 0, 1) := by decide +kernel
theorem dX3_step_9 : decode cX3_step 9 = .ok (.getfield 139, 3) := by decide +kernel
theorem dX3_step_12 : decode cX3_step 12 = .ok (.aload_n 0, 1) := by decide +kernel
theorem dX3_step_13 : decode cX3_step 13 = .ok (.getfield 28, 3) := by decide +kernel
theorem dX3_step_16 : decode cX3_step 16 = .ok (.if_icmp .ge 44, 3) := by decide +kernel
theorem dX3_step_19 : decode cX3_step 19 = .ok (.aload_n 0, 1) := by decide +kernel
theorem dX3_step_20 : decode cX3_step 20 = .ok (.getfield 9, 3) := by decide +kernel
theorem dX3_step_23 : decode cX3_step 23 = .ok (.aload_n 0, 1) := by decide +kernel
theorem dX3_step_24 : decode cX3_step 24 = .ok (.getfield 139, 3) := by decide +kernel
theorem dX3_step_27 : decode cX3_step 27 = .ok (.iaload, 1) := by decide +kernel
theorem dX3_step_28 : decode cX3_step 28 = .ok (.bipush 32, 2) := by decide +kernel
theorem dX3_step_30 : decode cX3_step 30 = .ok (.if_icmp .eq 17, 3) := by decide +kernel
theorem dX3_step_33 : decode cX3_step 33 = .ok (.aload_n 0, 1) := by decide +kernel
theorem dX3_step_34 : decode cX3_step 34 = .ok (.getfield 9, 3) := by decide +kernel
theorem dX3_step_37 : decode cX3_step 37 = .ok (.aload_n 0, 1) := by decide +kernel
theorem dX3_step_38 : decode cX3_step 38 = .ok (.getfield 139, 3) := by decide +kernel
theorem dX3_step_41 : decode cX3_step 41 = .ok (.iaload, 1) := by decide +kernel
theorem dX3_step_42 : decode cX3_step 42 = .ok (.bipush 10, 2) := by decide +kernel
theorem dX3_step_44 : decode cX3_step 44 = .ok (.if_icmp .ne 16, 3) := by decide +kernel
theorem dX3_step_47 : decode cX3_step 47 = .ok (.aload_n 0, 1) := by decide +kernel
theorem dX3_step_48 : decode cX3_step 48 = .ok (.dup, 1) := by decide +kernel
theorem dX3_step_49 : decode cX3_step 49 = .ok (.getfield 139, 3) := by decide +kernel
theorem dX3_step_52 : decode cX3_step 52 = .ok (.iconst 1, 1) := by decide +kernel
theorem dX3_step_53 : decode cX3_step 53 = .ok (.iadd, 1) := by decide +kernel
theorem dX3_step_54 : decode cX3_step 54 = .ok (.putfield 139, 3) := by decide +kernel
theorem dX3_step_57 : decode cX3_step 57 = .ok (.goto (-49), 3) := by decide +kernel
theorem dX3_step_60 : decode cX3_step 60 = .ok (.aload_n 0, 1) := by decide +kernel
theorem dX3_step_61 : decode cX3_step 61 = .ok (.getfield 139, 3) := by decide +kernel
theorem dX3_step_64 : decode cX3_step 64 = .ok (.aload_n 0, 1) := by decide +kernel
theorem dX3_step_65 : decode cX3_step 65 = .ok (.getfield 28, 3) := by decide +kernel
theorem dX3_step_68 : decode cX3_step 68 = .ok (.if_icmp .lt 17, 3) := by decide +kernel
theorem dX3_step_71 : decode cX3_step 71 = .ok (.aload_n 0, 1) := by decide +kernel
theorem dX3_step_72 : decode cX3_step 72 = .ok (.iconst 0, 1) := by decide +kernel
theorem dX3_step_73 : decode cX3_step 73 = .ok (.putfield 50, 3) := by decide +kernel
theorem dX3_step_76 : decode cX3_step 76 = .ok (.aload_n 0, 1) := by decide +kernel
theorem dX3_step_77 : decode cX3_step 77 = .ok (.aload_n 0, 1) := by decide +kernel
theorem dX3_step_78 : decode cX3_step 78 = .ok (.getfield 139, 3) := by decide +kernel
theorem dX3_step_81 : decode cX3_step 81 = .ok (.putfield 44, 3) := by decide +kernel
theorem dX3_step_84 : decode cX3_step 84 = .ok (.return_, 1) := by decide +kernel
theorem dX3_step_85 : decode cX3_step 85 = .ok (.aload_n 0, 1) := by decide +kernel
theorem dX3_step_86 : decode cX3_step 86 = .ok (.aload_n 0, 1) := by decide +kernel
theorem dX3_step_87 : decode cX3_step 87 = .ok (.bipush 97, 2) := by decide +kernel
theorem dX3_step_89 : decode cX3_step 89 = .ok (.bipush 122, 2) := by decide +kernel
theorem dX3_step_91 : decode cX3_step 91 = .ok (.invokevirtual 180, 3) := by decide +kernel
theorem dX3_step_94 : decode cX3_step 94 = .ok (.putfield 44, 3) := by decide +kernel
theorem dX3_step_97 : decode cX3_step 97 = .ok (.aload_n 0, 1) := by decide +kernel
theorem dX3_step_98 : decode cX3_step 98 = .ok (.getfield 44, 3) := by decide +kernel
theorem dX3_step_101 : decode cX3_step 101 = .ok (.aload_n 0, 1) := by decide +kernel
theorem dX3_step_102 : decode cX3_step 102 = .ok (.getfield 139, 3) := by decide +kernel
theorem dX3_step_105 : decode cX3_step 105 = .ok (.if_icmp .le 9, 3) := by decide +kernel
theorem dX3_step_108 : decode cX3_step 108 = .ok (.aload_n 0, 1) := by decide +kernel
theorem dX3_step_109 : decode cX3_step 109 = .ok (.iconst 1, 1) := by decide +kernel
theorem dX3_step_110 : decode cX3_step 110 = .ok (.putfield 50, 3) := by decide +kernel
theorem dX3_step_113 : decode cX3_step 113 = .ok (.return_, 1) := by decide +kernel
theorem dX3_step_114 : decode cX3_step 114 = .ok (.aload_n 0, 1) := by decide +kernel
theorem dX3_step_115 : decode cX3_step 115 = .ok (.aload_n 0, 1) := by decide +kernel
theorem dX3_step_116 : decode cX3_step 116 = .ok (.bipush 48, 2) := by decide +kernel
theorem dX3_step_118 : decode cX3_step 118 = .ok (.bipush 57, 2) := by decide +kernel
theorem dX3_step_120 : decode cX3_step 120 = .ok (.invokevirtual 180, 3) := by decide +kernel
theorem dX3_step_123 : decode cX3_step 123 = .ok (.putfield 44, 3) := by decide +kernel
theorem dX3_step_126 : decode cX3_step 126 = .ok (.aload_n 0, 1) := by decide +kernel
theorem dX3_step_127 : decode cX3_step 127 = .ok (.getfield 44, 3) := by decide +kernel
theorem dX3_step_130 : decode cX3_step 130 = .ok (.aload_n 0, 1) := by decide +kernel
theorem dX3_step_131 : decode cX3_step 131 = .ok (.getfield 139, 3) := by decide +kernel
theorem dX3_step_134 : decode cX3_step 134 = .ok (.if_icmp .le 8, 3) := by decide +kernel
theorem dX3_step_137 : decode cX3_step 137 = .ok (.aload_n 0, 1) := by decide +kernel
theorem dX3_step_138 : decode cX3_step 138 = .ok (.invokevirtual 184, 3) := by decide +kernel
theorem dX3_step_141 : decode cX3_step 141 = .ok (.return_, 1) := by decide +kernel
theorem dX3_step_142 : decode cX3_step 142 = .ok (.aload_n 0, 1) := by decide +kernel
theorem dX3_step_143 : decode cX3_step 143 = .ok (.iconst 3, 1) := by decide +kernel
theorem dX3_step_144 : decode cX3_step 144 = .ok (.putfield 50, 3) := by decide +kernel
theorem dX3_step_147 : decode cX3_step 147 = .ok (.aload_n 0, 1) := by decide +kernel
theorem dX3_step_148 : decode cX3_step 148 = .ok (.aload_n 0, 1) := by decide +kernel
theorem dX3_step_149 : decode cX3_step 149 = .ok (.getfield 9, 3) := by decide +kernel
theorem dX3_step_152 : decode cX3_step 152 = .ok (.aload_n 0, 1) := by decide +kernel
theorem dX3_step_153 : decode cX3_step 153 = .ok (.getfield 139, 3) := by decide +kernel
theorem dX3_step_156 : decode cX3_step 156 = .ok (.iaload, 1) := by decide +kernel
theorem dX3_step_157 : decode cX3_step 157 = .ok (.putfield 124, 3) := by decide +kernel
theorem dX3_step_160 : decode cX3_step 160 = .ok (.aload_n 0, 1) := by decide +kernel
theorem dX3_step_161 : decode cX3_step 161 = .ok (.aload_n 0, 1) := by decide +kernel
theorem dX3_step_162 : decode cX3_step 162 = .ok (.getfield 139, 3) := by decide +kernel
theorem dX3_step_165 : decode cX3_step 165 = .ok (.iconst 1, 1) := by decide +kernel
theorem dX3_step_166 : decode cX3_step 166 = .ok (.iadd, 1) := by decide +kernel
theorem dX3_step_167 : decode cX3_step 167 = .ok (.putfield 44, 3) := by decide +kernel
theorem dX3_step_170 : decode cX3_step 170 = .ok (.return_, 1) := by decide +kernel
theorem dX3_endOfRun_0 : decode cX3_endOfRun 0 = .ok (.aload_n 0, 1) := by decide +kernel
theorem dX3_endOfRun_1 : decode cX3_endOfRun 1 = .ok (.getfield 139, 3) := by decide +kernel
theorem dX3_endOfRun_4 : decode cX3_endOfRun 4 = .ok (.istore_n 3, 1) := by decide +kernel
theorem dX3_endOfRun_5 : decode cX3_endOfRun 5 = .ok (.iload_n 3, 1) := by decide +kernel
theorem dX3_endOfRun_6 : decode cX3_endOfRun 6 = .ok (.aload_n 0, 1) := by decide +kernel
theorem dX3_endOfRun_7 : decode cX3_endOfRun 7 = .ok (.getfield 28, 3) := by decide +kernel
theorem dX3_endOfRun_10 : decode cX3_endOfRun 10 = .ok (.if_icmp .ge 29, 3) := by decide +kernel
theorem dX3_endOfRun_13 : decode cX3_endOfRun 13 = .ok (.aload_n 0, 1) := by decide +kernel
theorem dX3_endOfRun_14 : decode cX3_endOfRun 14 = .ok (.getfield 9, 3) := by decide +kernel
theorem dX3_endOfRun_17 : decode cX3_endOfRun 17 = .ok (.iload_n 3, 1) := by decide +kernel
theorem dX3_endOfRun_18 : decode cX3_endOfRun 18 = .ok (.iaload, 1) := by decide +kernel
theorem dX3_endOfRun_19 : decode cX3_endOfRun 19 = .ok (.iload_n 1, 1) := by decide +kernel
theorem dX3_endOfRun_20 : decode cX3_endOfRun 20 = .ok (.if_icmp .lt 19, 3) := by decide +kernel
theorem dX3_endOfRun_23 : decode cX3_endOfRun 23 = .ok (.aload_n 0, 1) := by decide +kernel
theorem dX3_endOfRun_24 : decode cX3_endOfRun 24 = .ok (.getfield 9, 3) := by decide +kernel
theorem dX3_endOfRun_27 : decode cX3_endOfRun 27 = .ok (.iload_n 3, 1) := by decide +kernel
theorem dX3_endOfRun_28 : decode cX3_endOfRun 28 = .ok (.iaload, 1) := by decide +kernel
theorem dX3_endOfRun_29 : decode cX3_endOfRun 29 = .ok (.iload_n 2, 1) := by decide +kernel
theorem dX3_endOfRun_30 : decode cX3_endOfRun 30 = .ok (.if_icmp .gt 9, 3) := by decide +kernel
theorem dX3_endOfRun_33 : decode cX3_endOfRun 33 = .ok (.iinc 3 1, 3) := by decide +kernel
theorem dX3_endOfRun_36 : decode cX3_endOfRun 36 = .ok (.goto (-31), 3) := by decide +kernel
theorem dX3_endOfRun_39 : decode cX3_endOfRun 39 = .ok (.iload_n 3, 1) := by decide +kernel
theorem dX3_endOfRun_40 : decode cX3_endOfRun 40 = .ok (.ireturn, 1) := by decide +kernel
theorem dX3_takeNumber_0 : decode cX3_takeNumber 0 = .ok (.aload_n 0, 1) := by decide +kernel
theorem dX3_takeNumber_1 : decode cX3_takeNumber 1 = .ok (.iconst 0, 1) := by decide +kernel
theorem dX3_takeNumber_2 : decode cX3_takeNumber 2 = .ok (.putfield 124, 3) := by decide +kernel
theorem dX3_takeNumber_5 : decode cX3_takeNumber 5 = .ok (.aload_n 0, 1) := by decide +kernel
theorem dX3_takeNumber_6 : decode cX3_takeNumber 6 = .ok (.aload_n 0, 1) := by decide +kernel
theorem dX3_takeNumber_7 : decode cX3_takeNumber 7 = .ok (.getfield 44, 3) := by decide +kernel
theorem dX3_takeNumber_10 : decode cX3_takeNumber 10 = .ok (.aload_n 0, 1) := by decide +kernel
theorem dX3_takeNumber_11 : decode cX3_takeNumber 11 = .ok (.getfield 139, 3) := by decide +kernel
theorem dX3_takeNumber_14 : decode cX3_takeNumber 14 = .ok (.isub, 1) := by decide +kernel
theorem dX3_takeNumber_15 : decode cX3_takeNumber 15 = .ok (.iconst 3, 1) := by decide +kernel
theorem dX3_takeNumber_16 : decode cX3_takeNumber 16 = .ok (.if_icmp .le 7, 3) := by decide +kernel
theorem dX3_takeNumber_19 : decode cX3_takeNumber 19 = .ok (.iconst 4, 1) := by decide +kernel
theorem dX3_takeNumber_20 : decode cX3_takeNumber 20 = .ok (.goto 4, 3) := by decide +kernel
theorem dX3_takeNumber_23 : decode cX3_takeNumber 23 = .ok (.iconst 2, 1) := by decide +kernel
theorem dX3_takeNumber_24 : decode cX3_takeNumber 24 = .ok (.putfield 50, 3) := by decide +kernel
theorem dX3_takeNumber_27 : decode cX3_takeNumber 27 = .ok (.aload_n 0, 1) := by decide +kernel
theorem dX3_takeNumber_28 : decode cX3_takeNumber 28 = .ok (.getfield 139, 3) := by decide +kernel
theorem dX3_takeNumber_31 : decode cX3_takeNumber 31 = .ok (.istore_n 1, 1) := by decide +kernel
theorem dX3_takeNumber_32 : decode cX3_takeNumber 32 = .ok (.iload_n 1, 1) := by decide +kernel
theorem dX3_takeNumber_33 : decode cX3_takeNumber 33 = .ok (.aload_n 0, 1) := by decide +kernel
theorem dX3_takeNumber_34 : decode cX3_takeNumber 34 = .ok (.getfield 44, 3) := by decide +kernel
theorem dX3_takeNumber_37 : decode cX3_takeNumber 37 = .ok (.if_icmp .ge 38, 3) := by decide +kernel
theorem dX3_takeNumber_40 : decode cX3_takeNumber 40 = .ok (.aload_n 0, 1) := by decide +kernel
theorem dX3_takeNumber_41 : decode cX3_takeNumber 41 = .ok (.getfield 50, 3) := by decide +kernel
theorem dX3_takeNumber_44 : decode cX3_takeNumber 44 = .ok (.iconst 2, 1) := by decide +kernel
theorem dX3_takeNumber_45 : decode cX3_takeNumber 45 = .ok (.if_icmp .ne 30, 3) := by decide +kernel
theorem dX3_takeNumber_48 : decode cX3_takeNumber 48 = .ok (.aload_n 0, 1) := by decide +kernel
theorem dX3_takeNumber_49 : decode cX3_takeNumber 49 = .ok (.aload_n 0, 1) := by decide +kernel
theorem dX3_takeNumber_50 : decode cX3_takeNumber 50 = .ok (.getfield 124, 3) := by decide +kernel
theorem dX3_takeNumber_53 : decode cX3_takeNumber 53 = .ok (.bipush 10, 2) := by decide +kernel
theorem dX3_takeNumber_55 : decode cX3_takeNumber 55 = .ok (.imul, 1) := by decide +kernel
theorem dX3_takeNumber_56 : decode cX3_takeNumber 56 = .ok (.aload_n 0, 1) := by decide +kernel
theorem dX3_takeNumber_57 : decode cX3_takeNumber 57 = .ok (.getfield 9, 3) := by decide +kernel
theorem dX3_takeNumber_60 : decode cX3_takeNumber 60 = .ok (.iload_n 1, 1) := by decide +kernel
theorem dX3_takeNumber_61 : decode cX3_takeNumber 61 = .ok (.iaload, 1) := by decide +kernel
theorem dX3_takeNumber_62 : decode cX3_takeNumber 62 = .ok (.iadd, 1) := by decide +kernel
theorem dX3_takeNumber_63 : decode cX3_takeNumber 63 = .ok (.bipush 48, 2) := by decide +kernel
theorem dX3_takeNumber_65 : decode cX3_takeNumber 65 = .ok (.isub, 1) := by decide +kernel
theorem dX3_takeNumber_66 : decode cX3_takeNumber 66 = .ok (.putfield 124, 3) := by decide +kernel
theorem dX3_takeNumber_69 : decode cX3_takeNumber 69 = .ok (.iinc 1 1, 3) := by decide +kernel
theorem dX3_takeNumber_72 : decode cX3_takeNumber 72 = .ok (.goto (-40), 3) := by decide +kernel
theorem dX3_takeNumber_75 : decode cX3_takeNumber 75 = .ok (.return_, 1) := by decide +kernel
theorem dX8_init_0 : decode cX8_init 0 = .ok (.aload_n 0, 1) := by decide +kernel
theorem dX8_init_1 : decode cX8_init 1 = .ok (.invokespecial 1, 3) := by decide +kernel
theorem dX8_init_4 : decode cX8_init 4 = .ok (.aload_n 0, 1) := by decide +kernel
theorem dX8_init_5 : decode cX8_init 5 = .ok (.bipush 6, 2) := by decide +kernel
theorem dX8_init_7 : decode cX8_init 7 = .ok (.newarray .int, 2) := by decide +kernel
theorem dX8_init_9 : decode cX8_init 9 = .ok (.dup, 1) := by decide +kernel
theorem dX8_init_10 : decode cX8_init 10 = .ok (.iconst 0, 1) := by decide +kernel
theorem dX8_init_11 : decode cX8_init 11 = .ok (.iconst 0, 1) := by decide +kernel
theorem dX8_init_12 : decode cX8_init 12 = .ok (.iastore, 1) := by decide +kernel
theorem dX8_init_13 : decode cX8_init 13 = .ok (.dup, 1) := by decide +kernel
theorem dX8_init_14 : decode cX8_init 14 = .ok (.iconst 1, 1) := by decide +kernel
theorem dX8_init_15 : decode cX8_init 15 = .ok (.iconst 0, 1) := by decide +kernel
theorem dX8_init_16 : decode cX8_init 16 = .ok (.iastore, 1) := by decide +kernel
theorem dX8_init_17 : decode cX8_init 17 = .ok (.dup, 1) := by decide +kernel
theorem dX8_init_18 : decode cX8_init 18 = .ok (.iconst 2, 1) := by decide +kernel
theorem dX8_init_19 : decode cX8_init 19 = .ok (.iconst (-1), 1) := by decide +kernel
theorem dX8_init_20 : decode cX8_init 20 = .ok (.iastore, 1) := by decide +kernel
theorem dX8_init_21 : decode cX8_init 21 = .ok (.dup, 1) := by decide +kernel
theorem dX8_init_22 : decode cX8_init 22 = .ok (.iconst 3, 1) := by decide +kernel
theorem dX8_init_23 : decode cX8_init 23 = .ok (.iconst 0, 1) := by decide +kernel
theorem dX8_init_24 : decode cX8_init 24 = .ok (.iastore, 1) := by decide +kernel
theorem dX8_init_25 : decode cX8_init 25 = .ok (.dup, 1) := by decide +kernel
theorem dX8_init_26 : decode cX8_init 26 = .ok (.iconst 4, 1) := by decide +kernel
theorem dX8_init_27 : decode cX8_init 27 = .ok (.iconst 0, 1) := by decide +kernel
theorem dX8_init_28 : decode cX8_init 28 = .ok (.iastore, 1) := by decide +kernel
theorem dX8_init_29 : decode cX8_init 29 = .ok (.dup, 1) := by decide +kernel
theorem dX8_init_30 : decode cX8_init 30 = .ok (.iconst 5, 1) := by decide +kernel
theorem dX8_init_31 : decode cX8_init 31 = .ok (.iconst 0, 1) := by decide +kernel
theorem dX8_init_32 : decode cX8_init 32 = .ok (.iastore, 1) := by decide +kernel
theorem dX8_init_33 : decode cX8_init 33 = .ok (.putfield 7, 3) := by decide +kernel
theorem dX8_init_36 : decode cX8_init 36 = .ok (.aload_n 0, 1) := by decide +kernel
theorem dX8_init_37 : decode cX8_init 37 = .ok (.bipush 6, 2) := by decide +kernel
theorem dX8_init_39 : decode cX8_init 39 = .ok (.newarray .int, 2) := by decide +kernel
theorem dX8_init_41 : decode cX8_init 41 = .ok (.putfield 13, 3) := by decide +kernel
theorem dX8_init_44 : decode cX8_init 44 = .ok (.aload_n 0, 1) := by decide +kernel
theorem dX8_init_45 : decode cX8_init 45 = .ok (.bipush 6, 2) := by decide +kernel
theorem dX8_init_47 : decode cX8_init 47 = .ok (.newarray .int, 2) := by decide +kernel
theorem dX8_init_49 : decode cX8_init 49 = .ok (.putfield 16, 3) := by decide +kernel
theorem dX8_init_52 : decode cX8_init 52 = .ok (.aload_n 0, 1) := by decide +kernel
theorem dX8_init_53 : decode cX8_init 53 = .ok (.bipush 6, 2) := by decide +kernel
theorem dX8_init_55 : decode cX8_init 55 = .ok (.newarray .int, 2) := by decide +kernel
theorem dX8_init_57 : decode cX8_init 57 = .ok (.putfield 19, 3) := by decide +kernel
theorem dX8_init_60 : decode cX8_init 60 = .ok (.aload_n 0, 1) := by decide +kernel
theorem dX8_init_61 : decode cX8_init 61 = .ok (.bipush 6, 2) := by decide +kernel
theorem dX8_init_63 : decode cX8_init 63 = .ok (.newarray .int, 2) := by decide +kernel
theorem dX8_init_65 : decode cX8_init 65 = .ok (.putfield 22, 3) := by decide +kernel
theorem dX8_init_68 : decode cX8_init 68 = .ok (.aload_n 0, 1) := by decide +kernel
theorem dX8_init_69 : decode cX8_init 69 = .ok (.bipush 6, 2) := by decide +kernel
theorem dX8_init_71 : decode cX8_init 71 = .ok (.newarray .int, 2) := by decide +kernel
theorem dX8_init_73 : decode cX8_init 73 = .ok (.putfield 25, 3) := by decide +kernel
theorem dX8_init_76 : decode cX8_init 76 = .ok (.aload_n 0, 1) := by decide +kernel
theorem dX8_init_77 : decode cX8_init 77 = .ok (.bipush 6, 2) := by decide +kernel
theorem dX8_init_79 : decode cX8_init 79 = .ok (.newarray .int, 2) := by decide +kernel
theorem dX8_init_81 : decode cX8_init 81 = .ok (.putfield 28, 3) := by decide +kernel
theorem dX8_init_84 : decode cX8_init 84 = .ok (.aload_n 0, 1) := by decide +kernel
theorem dX8_init_85 : decode cX8_init 85 = .ok (.bipush 6, 2) := by decide +kernel
theorem dX8_init_87 : decode cX8_init 87 = .ok (.newarray .int, 2) := by decide +kernel
theorem dX8_init_89 : decode cX8_init 89 = .ok (.putfield 31, 3) := by decide +kernel
theorem dX8_init_92 : decode cX8_init 92 = .ok (.aload_n 0, 1) := by decide +kernel
theorem dX8_init_93 : decode cX8_init 93 = .ok (.bipush 6, 2) := by decide +kernel
theorem dX8_init_95 : decode cX8_init 95 = .ok (.newarray .int, 2) := by decide +kernel
theorem dX8_init_97 : decode cX8_init 97 = .ok (.putfield 34, 3) := by decide +kernel
theorem dX8_init_100 : decode cX8_init 100 = .ok (.aload_n 0, 1) := by decide +kernel
theorem dX8_init_101 : decode cX8_init 101 = .ok (.bipush 6, 2) := by decide +kernel
theorem dX8_init_103 : decode cX8_init 103 = .ok (.newarray .int, 2) := by decide +kernel
theorem dX8_init_105 : decode cX8_init 105 = .ok (.putfield 37, 3) := by decide +kernel
theorem dX8_init_108 : decode cX8_init 108 = .ok (.aload_n 0, 1) := by decide +kernel
theorem dX8_init_109 : decode cX8_init 109 = .ok (.bipush 72, 2) := by decide +kernel
theorem dX8_init_111 : decode cX8_init 111 = .ok (.newarray .int, 2) := by decide +kernel
theorem dX8_init_113 : decode cX8_init 113 = .ok (.putfield 40, 3) := by decide +kernel
theorem dX8_init_116 : decode cX8_init 116 = .ok (.aload_n 0, 1) := by decide +kernel
theorem dX8_init_117 : decode cX8_init 117 = .ok (.bipush 72, 2) := by decide +kernel
theorem dX8_init_119 : decode cX8_init 119 = .ok (.newarray .int, 2) := by decide +kernel
theorem dX8_init_121 : decode cX8_init 121 = .ok (.putfield 43, 3) := by decide +kernel
theorem dX8_init_124 : decode cX8_init 124 = .ok (.aload_n 0, 1) := by decide +kernel
theorem dX8_init_125 : decode cX8_init 125 = .ok (.bipush 6, 2) := by decide +kernel
theorem dX8_init_127 : decode cX8_init 127 = .ok (.newarray .int, 2) := by decide +kernel
theorem dX8_init_129 : decode cX8_init 129 = .ok (.putfield 46, 3) := by decide +kernel
theorem dX8_init_132 : decode cX8_init 132 = .ok (.aload_n 0, 1) := by decide +kernel
theorem dX8_init_133 : decode cX8_init 133 = .ok (.bipush 6, 2) := by decide +kernel
theorem dX8_init_135 : decode cX8_init 135 = .ok (.newarray .int, 2) := by decide +kernel
theorem dX8_init_137 : decode cX8_init 137 = .ok (.putfield 49, 3) := by decide +kernel
theorem dX8_init_140 : decode cX8_init 140 = .ok (.aload_n 0, 1) := by decide +kernel
theorem dX8_init_141 : decode cX8_init 141 = .ok (.bipush 6, 2) := by decide +kernel
theorem dX8_init_143 : decode cX8_init 143 = .ok (.newarray .int, 2) := by decide +kernel
theorem dX8_init_145 : decode cX8_init 145 = .ok (.putfield 52, 3) := by decide +kernel
theorem dX8_init_148 : decode cX8_init 148 = .ok (.aload_n 0, 1) := by decide +kernel
theorem dX8_init_149 : decode cX8_init 149 = .ok (.bipush 6, 2) := by decide +kernel
theorem dX8_init_151 : decode cX8_init 151 = .ok (.newarray .int, 2) := by decide +kernel
theorem dX8_init_153 : decode cX8_init 153 = .ok (.putfield 55, 3) := by decide +kernel
theorem dX8_init_156 : decode cX8_init 156 = .ok (.aload_n 0, 1) := by decide +kernel
theorem dX8_init_157 : decode cX8_init 157 = .ok (.bipush 6, 2) := by decide +kernel
theorem dX8_init_159 : decode cX8_init 159 = .ok (.newarray .int, 2) := by decide +kernel
theorem dX8_init_161 : decode cX8_init 161 = .ok (.putfield 58, 3) := by decide +kernel
theorem dX8_init_164 : decode cX8_init 164 = .ok (.aload_n 0, 1) := by decide +kernel
theorem dX8_init_165 : decode cX8_init 165 = .ok (.bipush 6, 2) := by decide +kernel
theorem dX8_init_167 : decode cX8_init 167 = .ok (.newarray .int, 2) := by decide +kernel
theorem dX8_init_169 : decode cX8_init 169 = .ok (.putfield 61, 3) := by decide +kernel
theorem dX8_init_172 : decode cX8_init 172 = .ok (.aload_n 0, 1) := by decide +kernel
theorem dX8_init_173 : decode cX8_init 173 = .ok (.bipush 6, 2) := by decide +kernel
theorem dX8_init_175 : decode cX8_init 175 = .ok (.newarray .int, 2) := by decide +kernel
theorem dX8_init_177 : decode cX8_init 177 = .ok (.putfield 64, 3) := by decide +kernel
theorem dX8_init_180 : decode cX8_init 180 = .ok (.aload_n 0, 1) := by decide +kernel
theorem dX8_init_181 : decode cX8_init 181 = .ok (.sipush 400, 3) := by decide +kernel
theorem dX8_init_184 : decode cX8_init 184 = .ok (.newarray .int, 2) := by decide +kernel
theorem dX8_init_186 : decode cX8_init 186 = .ok (.putfield 67, 3) := by decide +kernel
theorem dX8_init_189 : decode cX8_init 189 = .ok (.aload_n 0, 1) := by decide +kernel
theorem dX8_init_190 : decode cX8_init 190 = .ok (.bipush 6, 2) := by decide +kernel
theorem dX8_init_192 : decode cX8_init 192 = .ok (.newarray .int, 2) := by decide +kernel
theorem dX8_init_194 : decode cX8_init 194 = .ok (.putfield 70, 3) := by decide +kernel
theorem dX8_init_197 : decode cX8_init 197 = .ok (.aload_n 0, 1) := by decide +kernel
theorem dX8_init_198 : decode cX8_init 198 = .ok (.sipush 2304, 3) := by decide +kernel
theorem dX8_init_201 : decode cX8_init 201 = .ok (.newarray .int, 2) := by decide +kernel
theorem dX8_init_203 : decode cX8_init 203 = .ok (.putfield 73, 3) := by decide +kernel
theorem dX8_init_206 : decode cX8_init 206 = .ok (.aload_n 0, 1) := by decide +kernel
theorem dX8_init_207 : decode cX8_init 207 = .ok (.sipush 448, 3) := by decide +kernel
theorem dX8_init_210 : decode cX8_init 210 = .ok (.newarray .int, 2) := by decide +kernel
theorem dX8_init_212 : decode cX8_init 212 = .ok (.putfield 76, 3) := by decide +kernel
theorem dX8_init_215 : decode cX8_init 215 = .ok (.aload_n 0, 1) := by decide +kernel
theorem dX8_init_216 : decode cX8_init 216 = .ok (.sipush 448, 3) := by decide +kernel
theorem dX8_init_219 : decode cX8_init 219 = .ok (.newarray .int, 2) := by decide +kernel
theorem dX8_init_221 : decode cX8_init 221 = .ok (.putfield 79, 3) := by decide +kernel
theorem dX8_init_224 : decode cX8_init 224 = .ok (.aload_n 0, 1) := by decide +kernel
theorem dX8_init_225 : decode cX8_init 225 = .ok (.bipush 80, 2) := by decide +kernel
theorem dX8_init_227 : decode cX8_init 227 = .ok (.newarray .int, 2) := by decide +kernel
theorem dX8_init_229 : decode cX8_init 229 = .ok (.putfield 82, 3) := by decide +kernel
theorem dX8_init_232 : decode cX8_init 232 = .ok (.aload_n 0, 1) := by decide +kernel
theorem dX8_init_233 : decode cX8_init 233 = .ok (.sipush 256, 3) := by decide +kernel
theorem dX8_init_236 : decode cX8_init 236 = .ok (.newarray .boolean, 2) := by decide +kernel
theorem dX8_init_238 : decode cX8_init 238 = .ok (.putfield 85, 3) := by decide +kernel
theorem dX8_init_241 : decode cX8_init 241 = .ok (.aload_n 0, 1) := by decide +kernel
theorem dX8_init_242 : decode cX8_init 242 = .ok (.sipush 256, 3) := by decide +kernel
theorem dX8_init_245 : decode cX8_init 245 = .ok (.newarray .boolean, 2) := by decide +kernel
theorem dX8_init_247 : decode cX8_init 247 = .ok (.putfield 89, 3) := by decide +kernel
theorem dX8_init_250 : decode cX8_init 250 = .ok (.aload_n 0, 1) := by decide +kernel
theorem dX8_init_251 : decode cX8_init 251 = .ok (.sipush 256, 3) := by decide +kernel
theorem dX8_init_254 : decode cX8_init 254 = .ok (.newarray .boolean, 2) := by decide +kernel
theorem dX8_init_256 : decode cX8_init 256 = .ok (.putfield 92, 3) := by decide +kernel
theorem dX8_init_259 : decode cX8_init 259 = .ok (.return_, 1) := by decide +kernel
theorem dX8_thrown_0 : decode cX8_thrown 0 = .ok (.aload_n 0, 1) := by decide +kernel
theorem dX8_thrown_1 : decode cX8_thrown 1 = .ok (.getfield 95, 3) := by decide +kernel
theorem dX8_thrown_4 : decode cX8_thrown 4 = .ok (.ireturn, 1) := by decide +kernel
theorem dX8_in_0 : decode cX8_in 0 = .ok (.iload_n 0, 1) := by decide +kernel
theorem dX8_in_1 : decode cX8_in 1 = .ok (.iload_n 1, 1) := by decide +kernel
theorem dX8_in_2 : decode cX8_in 2 = .ok (.if_icmp .lt 12, 3) := by decide +kernel
theorem dX8_in_5 : decode cX8_in 5 = .ok (.iload_n 0, 1) := by decide +kernel
theorem dX8_in_6 : decode cX8_in 6 = .ok (.iload_n 2, 1) := by decide +kernel
theorem dX8_in_7 : decode cX8_in 7 = .ok (.if_icmp .gt 7, 3) := by decide +kernel
theorem dX8_in_10 : decode cX8_in 10 = .ok (.iconst 1, 1) := by decide +kernel
theorem dX8_in_11 : decode cX8_in 11 = .ok (.goto 4, 3) := by decide +kernel
theorem dX8_in_14 : decode cX8_in 14 = .ok (.iconst 0, 1) := by decide +kernel
theorem dX8_in_15 : decode cX8_in 15 = .ok (.ireturn, 1) := by decide +kernel
theorem dX8_has_0 : decode cX8_has 0 = .ok (.iload_n 0, 1) := by decide +kernel
theorem dX8_has_1 : decode cX8_has 1 = .ok (.iload_n 1, 1) := by decide +kernel
theorem dX8_has_2 : decode cX8_has 2 = .ok (.ishr, 1) := by decide +kernel
theorem dX8_has_3 : decode cX8_has 3 = .ok (.iconst 1, 1) := by decide +kernel
theorem dX8_has_4 : decode cX8_has 4 = .ok (.iand, 1) := by decide +kernel
theorem dX8_has_5 : decode cX8_has 5 = .ok (.iconst 1, 1) := by decide +kernel
theorem dX8_has_6 : decode cX8_has 6 = .ok (.if_icmp .ne 7, 3) := by decide +kernel
theorem dX8_has_9 : decode cX8_has 9 = .ok (.iconst 1, 1) := by decide +kernel
theorem dX8_has_10 : decode cX8_has 10 = .ok (.goto 4, 3) := by decide +kernel
theorem dX8_has_13 : decode cX8_has 13 = .ok (.iconst 0, 1) := by decide +kernel
theorem dX8_has_14 : decode cX8_has 14 = .ok (.ireturn, 1) := by decide +kernel
theorem dX8_four_0 : decode cX8_four 0 = .ok (.bipush 24, 2) := by decide +kernel
theorem dX8_four_2 : decode cX8_four 2 = .ok (.istore_n 2, 1) := by decide +kernel
theorem dX8_four_3 : decode cX8_four 3 = .ok (.iload_n 2, 1) := by decide +kernel
theorem dX8_four_4 : decode cX8_four 4 = .ok (.ifCond .lt 35, 3) := by decide +kernel
theorem dX8_four_7 : decode cX8_four 7 = .ok (.aload_n 0, 1) := by decide +kernel
theorem dX8_four_8 : decode cX8_four 8 = .ok (.getfield 67, 3) := by decide +kernel
theorem dX8_four_11 : decode cX8_four 11 = .ok (.aload_n 0, 1) := by decide +kernel
theorem dX8_four_12 : decode cX8_four 12 = .ok (.getfield 99, 3) := by decide +kernel
theorem dX8_four_15 : decode cX8_four 15 = .ok (.iload_n 1, 1) := by decide +kernel
theorem dX8_four_16 : decode cX8_four 16 = .ok (.iload_n 2, 1) := by decide +kernel
theorem dX8_four_17 : decode cX8_four 17 = .ok (.ishr, 1) := by decide +kernel
theorem dX8_four_18 : decode cX8_four 18 = .ok (.sipush 255, 3) := by decide +kernel
theorem dX8_four_21 : decode cX8_four 21 = .ok (.iand, 1) := by decide +kernel
theorem dX8_four_22 : decode cX8_four 22 = .ok (.iastore, 1) := by decide +kernel
theorem dX8_four_23 : decode cX8_four 23 = .ok (.aload_n 0, 1) := by decide +kernel
theorem dX8_four_24 : decode cX8_four 24 = .ok (.dup, 1) := by decide +kernel
theorem dX8_four_25 : decode cX8_four 25 = .ok (.getfield 99, 3) := by decide +kernel
theorem dX8_four_28 : decode cX8_four 28 = .ok (.iconst 1, 1) := by decide +kernel
theorem dX8_four_29 : decode cX8_four 29 = .ok (.iadd, 1) := by decide +kernel
theorem dX8_four_30 : decode cX8_four 30 = .ok (.putfield 99, 3) := by decide +kernel
theorem dX8_four_33 : decode cX8_four 33 = .ok (.iinc 2 (-8), 3) := by decide +kernel
theorem dX8_four_36 : decode cX8_four 36 = .ok (.goto (-33), 3) := by decide +kernel
theorem dX8_four_39 : decode cX8_four 39 = .ok (.return_, 1) := by decide +kernel
theorem dX8_feed_0 : decode cX8_feed 0 = .ok (.aload_n 0, 1) := by decide +kernel
theorem dX8_feed_1 : decode cX8_feed 1 = .ok (.iconst 0, 1) := by decide +kernel
theorem dX8_feed_2 : decode cX8_feed 2 = .ok (.putfield 95, 3) := by decide +kernel
theorem dX8_feed_5 : decode cX8_feed 5 = .ok (.aload_n 0, 1) := by decide +kernel
theorem dX8_feed_6 : decode cX8_feed 6 = .ok (.getfield 99, 3) := by decide +kernel
theorem dX8_feed_9 : decode cX8_feed 9 = .ok (.bipush 20, 2) := by decide +kernel
theorem dX8_feed_11 : decode cX8_feed 11 = .ok (.iadd, 1) := by decide +kernel
theorem dX8_feed_12 : decode cX8_feed 12 = .ok (.sipush 400, 3) := by decide +kernel
theorem dX8_feed_15 : decode cX8_feed 15 = .ok (.if_icmp .le 5, 3) := by decide +kernel
theorem dX8_feed_18 : decode cX8_feed 18 = .ok (.iconst (-1), 1) := by decide +kernel
theorem dX8_feed_19 : decode cX8_feed 19 = .ok (.ireturn, 1) := by decide +kernel
theorem dX8_feed_20 : decode cX8_feed 20 = .ok (.aload_n 0, 1) := by decide +kernel
theorem dX8_feed_21 : decode cX8_feed 21 = .ok (.iload_n 1, 1) := by decide +kernel
theorem dX8_feed_22 : decode cX8_feed 22 = .ok (.invokevirtual 102, 3) := by decide +kernel
theorem dX8_feed_25 : decode cX8_feed 25 = .ok (.aload_n 0, 1) := by decide +kernel
theorem dX8_feed_26 : decode cX8_feed 26 = .ok (.iload_n 2, 1) := by decide +kernel
theorem dX8_feed_27 : decode cX8_feed 27 = .ok (.invokevirtual 102, 3) := by decide +kernel
theorem dX8_feed_30 : decode cX8_feed 30 = .ok (.aload_n 0, 1) := by decide +kernel
theorem dX8_feed_31 : decode cX8_feed 31 = .ok (.iload_n 3, 1) := by decide +kernel
theorem dX8_feed_32 : decode cX8_feed 32 = .ok (.invokevirtual 102, 3) := by decide +kernel
theorem dX8_feed_35 : decode cX8_feed 35 = .ok (.aload_n 0, 1) := by decide +kernel
theorem dX8_feed_36 : decode cX8_feed 36 = .ok (.iload 4, 2) := by decide +kernel
theorem dX8_feed_38 : decode cX8_feed 38 = .ok (.invokevirtual 102, 3) := by decide +kernel
theorem dX8_feed_41 : decode cX8_feed 41 = .ok (.aload_n 0, 1) := by decide +kernel
theorem dX8_feed_42 : decode cX8_feed 42 = .ok (.iload 5, 2) := by decide +kernel
theorem dX8_feed_44 : decode cX8_feed 44 = .ok (.invokevirtual 102, 3) := by decide +kernel
theorem dX8_feed_47 : decode cX8_feed 47 = .ok (.aload_n 0, 1) := by decide +kernel
theorem dX8_feed_48 : decode cX8_feed 48 = .ok (.getfield 99, 3) := by decide +kernel
theorem dX8_feed_51 : decode cX8_feed 51 = .ok (.ireturn, 1) := by decide +kernel
theorem dX8_end_0 : decode cX8_end 0 = .ok (.aload_n 0, 1) := by decide +kernel
theorem dX8_end_1 : decode cX8_end 1 = .ok (.iconst 0, 1) := by decide +kernel
theorem dX8_end_2 : decode cX8_end 2 = .ok (.putfield 95, 3) := by decide +kernel
theorem dX8_end_5 : decode cX8_end 5 = .ok (.iload_n 1, 1) := by decide +kernel
theorem dX8_end_6 : decode cX8_end 6 = .ok (.iconst 0, 1) := by decide +kernel
theorem dX8_end_7 : decode cX8_end 7 = .ok (.aload_n 0, 1) := by decide +kernel
theorem dX8_end_8 : decode cX8_end 8 = .ok (.getfield 99, 3) := by decide +kernel
theorem dX8_end_11 : decode cX8_end 11 = .ok (.invokestatic 106, 3) := by decide +kernel
theorem dX8_end_14 : decode cX8_end 14 = .ok (.ifCond .ne 5, 3) := by decide +kernel
theorem dX8_end_17 : decode cX8_end 17 = .ok (.iconst 0, 1) := by decide +kernel
theorem dX8_end_18 : decode cX8_end 18 = .ok (.ireturn, 1) := by decide +kernel
theorem dX8_end_19 : decode cX8_end 19 = .ok (.aload_n 0, 1) := by decide +kernel
theorem dX8_end_20 : decode cX8_end 20 = .ok (.iload_n 1, 1) := by decide +kernel
theorem dX8_end_21 : decode cX8_end 21 = .ok (.putfield 99, 3) := by decide +kernel
theorem dX8_end_24 : decode cX8_end 24 = .ok (.iconst 1, 1) := by decide +kernel
theorem dX8_end_25 : decode cX8_end 25 = .ok (.ireturn, 1) := by decide +kernel
theorem dX8_here_0 : decode cX8_here 0 = .ok (.aload_n 0, 1) := by decide +kernel
theorem dX8_here_1 : decode cX8_here 1 = .ok (.getfield 110, 3) := by decide +kernel
theorem dX8_here_4 : decode cX8_here 4 = .ok (.aload_n 0, 1) := by decide +kernel
theorem dX8_here_5 : decode cX8_here 5 = .ok (.getfield 99, 3) := by decide +kernel
theorem dX8_here_8 : decode cX8_here 8 = .ok (.if_icmp .ge 44, 3) := by decide +kernel
theorem dX8_here_11 : decode cX8_here 11 = .ok (.aload_n 0, 1) := by decide +kernel
theorem dX8_here_12 : decode cX8_here 12 = .ok (.getfield 67, 3) := by decide +kernel
theorem dX8_here_15 : decode cX8_here 15 = .ok (.aload_n 0, 1) := by decide +kernel
theorem dX8_here_16 : decode cX8_here 16 = .ok (.getfield 110, 3) := by decide +kernel
theorem dX8_here_19 : decode cX8_here 19 = .ok (.iaload, 1) := by decide +kernel
theorem dX8_here_20 : decode cX8_here 20 = .ok (.bipush 32, 2) := by decide +kernel
theorem dX8_here_22 : decode cX8_here 22 = .ok (.if_icmp .eq 17, 3) := by decide +kernel
theorem dX8_here_25 : decode cX8_here 25 = .ok (.aload_n 0, 1) := by decide +kernel
theorem dX8_here_26 : decode cX8_here 26 = .ok (.getfield 67, 3) := by decide +kernel
theorem dX8_here_29 : decode cX8_here 29 = .ok (.aload_n 0, 1) := by decide +kernel
theorem dX8_here_30 : decode cX8_here 30 = .ok (.getfield 110, 3) := by decide +kernel
theorem dX8_here_33 : decode cX8_here 33 = .ok (.iaload, 1) := by decide +kernel
theorem dX8_here_34 : decode cX8_here 34 = .ok (.bipush 10, 2) := by decide +kernel
theorem dX8_here_36 : decode cX8_here 36 = .ok (.if_icmp .ne 16, 3) := by decide +kernel
theorem dX8_here_39 : decode cX8_here 39 = .ok (.aload_n 0, 1) := by decide +kernel
theorem dX8_here_40 : decode cX8_here 40 = .ok (.dup, 1) := by decide +kernel
theorem dX8_here_41 : decode cX8_here 41 = .ok (.getfield 110, 3) := by decide +kernel
theorem dX8_here_44 : decode cX8_here 44 = .ok (.iconst 1, 1) := by decide +kernel
theorem dX8_here_45 : decode cX8_here 45 = .ok (.iadd, 1) := by decide +kernel
theorem dX8_here_46 : decode cX8_here 46 = .ok (.putfield 110, 3) := by decide +kernel
theorem dX8_here_49 : decode cX8_here 49 = .ok (.goto (-49), 3) := by decide +kernel
theorem dX8_here_52 : decode cX8_here 52 = .ok (.aload_n 0, 1) := by decide +kernel
theorem dX8_here_53 : decode cX8_here 53 = .ok (.getfield 110, 3) := by decide +kernel
theorem dX8_here_56 : decode cX8_here 56 = .ok (.aload_n 0, 1) := by decide +kernel
theorem dX8_here_57 : decode cX8_here 57 = .ok (.getfield 99, 3) := by decide +kernel
theorem dX8_here_60 : decode cX8_here 60 = .ok (.if_icmp .ge 15, 3) := by decide +kernel
theorem dX8_here_63 : decode cX8_here 63 = .ok (.aload_n 0, 1) := by decide +kernel
theorem dX8_here_64 : decode cX8_here 64 = .ok (.getfield 67, 3) := by decide +kernel
theorem dX8_here_67 : decode cX8_here 67 = .ok (.aload_n 0, 1) := by decide +kernel
theorem dX8_here_68 : decode cX8_here 68 = .ok (.getfield 110, 3) := by decide +kernel
theorem dX8_here_71 : decode cX8_here 71 = .ok (.iaload, 1) := by decide +kernel
theorem dX8_here_72 : decode cX8_here 72 = .ok (.goto 4, 3) := by decide +kernel
theorem dX8_here_75 : decode cX8_here 75 = .ok (.iconst (-1), 1) := by decide +kernel
theorem dX8_here_76 : decode cX8_here 76 = .ok (.ireturn, 1) := by decide +kernel
theorem dX8_fails_0 : decode cX8_fails 0 = .ok (.aload_n 0, 1) := by decide +kernel
theorem dX8_fails_1 : decode cX8_fails 1 = .ok (.iload_n 1, 1) := by decide +kernel
theorem dX8_fails_2 : decode cX8_fails 2 = .ok (.bipush 8, 2) := by decide +kernel
theorem dX8_fails_4 : decode cX8_fails 4 = .ok (.iload_n 2, 1) := by decide +kernel
theorem dX8_fails_5 : decode cX8_fails 5 = .ok (.imul, 1) := by decide +kernel
theorem dX8_fails_6 : decode cX8_fails 6 = .ok (.iadd, 1) := by decide +kernel
theorem dX8_fails_7 : decode cX8_fails 7 = .ok (.putfield 113, 3) := by decide +kernel
theorem dX8_fails_10 : decode cX8_fails 10 = .ok (.iconst 0, 1) := by decide +kernel
theorem dX8_fails_11 : decode cX8_fails 11 = .ok (.ireturn, 1) := by decide +kernel
theorem dX8_isWord_0 : decode cX8_isWord 0 = .ok (.aload_n 0, 1) := by decide +kernel
theorem dX8_isWord_1 : decode cX8_isWord 1 = .ok (.invokevirtual 116, 3) := by decide +kernel
theorem dX8_isWord_4 : decode cX8_isWord 4 = .ok (.bipush 97, 2) := by decide +kernel
theorem dX8_isWord_6 : decode cX8_isWord 6 = .ok (.bipush 122, 2) := by decide +kernel
theorem dX8_isWord_8 : decode cX8_isWord 8 = .ok (.invokestatic 106, 3) := by decide +kernel
theorem dX8_isWord_11 : decode cX8_isWord 11 = .ok (.ireturn, 1) := by decide +kernel
theorem dX8_readWord_0 : decode cX8_readWord 0 = .ok (.lconst 0, 1) := by decide +kernel
theorem dX8_readWord_1 : decode cX8_readWord 1 = .ok (.lstore_n 1, 1) := by decide +kernel
theorem dX8_readWord_2 : decode cX8_readWord 2 = .ok (.aload_n 0, 1) := by decide +kernel
theorem dX8_readWord_3 : decode cX8_readWord 3 = .ok (.iconst 0, 1) := by decide +kernel
theorem dX8_readWord_4 : decode cX8_readWord 4 = .ok (.putfield 120, 3) := by decide +kernel
theorem dX8_readWord_7 : decode cX8_readWord 7 = .ok (.aload_n 0, 1) := by decide +kernel
theorem dX8_readWord_8 : decode cX8_readWord 8 = .ok (.iconst 0, 1) := by decide +kernel
theorem dX8_readWord_9 : decode cX8_readWord 9 = .ok (.putfield 123, 3) := by decide +kernel
theorem dX8_readWord_12 : decode cX8_readWord 12 = .ok (.aload_n 0, 1) := by decide +kernel
theorem dX8_readWord_13 : decode cX8_readWord 13 = .ok (.aload_n 0, 1) := by decide +kernel
theorem dX8_readWord_14 : decode cX8_readWord 14 = .ok (.getfield 110, 3) := by decide +kernel
theorem dX8_readWord_17 : decode cX8_readWord 17 = .ok (.putfield 126, 3) := by decide +kernel
theorem dX8_readWord_20 : decode cX8_readWord 20 = .ok (.aload_n 0, 1) := by decide +kernel
theorem dX8_readWord_21 : decode cX8_readWord 21 = .ok (.getfield 110, 3) := by decide +kernel
theorem dX8_readWord_24 : decode cX8_readWord 24 = .ok (.aload_n 0, 1) := by decide +kernel
theorem dX8_readWord_25 : decode cX8_readWord 25 = .ok (.getfield 99, 3) := by decide +kernel
theorem dX8_readWord_28 : decode cX8_readWord 28 = .ok (.if_icmp .ge 124, 3) := by decide +kernel
theorem dX8_readWord_31 : decode cX8_readWord 31 = .ok (.aload_n 0, 1) := by decide +kernel
theorem dX8_readWord_32 : decode cX8_readWord 32 = .ok (.getfield 67, 3) := by decide +kernel
theorem dX8_readWord_35 : decode cX8_readWord 35 = .ok (.aload_n 0, 1) := by decide +kernel
theorem dX8_readWord_36 : decode cX8_readWord 36 = .ok (.getfield 110, 3) := by decide +kernel
theorem dX8_readWord_39 : decode cX8_readWord 39 = .ok (.iaload, 1) := by decide +kernel
theorem dX8_readWord_40 : decode cX8_readWord 40 = .ok (.bipush 97, 2) := by decide +kernel
theorem dX8_readWord_42 : decode cX8_readWord 42 = .ok (.bipush 122, 2) := by decide +kernel
theorem dX8_readWord_44 : decode cX8_readWord 44 = .ok (.invokestatic 106, 3) := by decide +kernel
theorem dX8_readWord_47 : decode cX8_readWord 47 = .ok (.ifCond .eq 105, 3) := by decide +kernel
theorem dX8_readWord_50 : decode cX8_readWord 50 = .ok (.aload_n 0, 1) := by decide +kernel
theorem dX8_readWord_51 : decode cX8_readWord 51 = .ok (.getfield 67, 3) := by decide +kernel
theorem dX8_readWord_54 : decode cX8_readWord 54 = .ok (.aload_n 0, 1) := by decide +kernel
theorem dX8_readWord_55 : decode cX8_readWord 55 = .ok (.getfield 110, 3) := by decide +kernel
theorem dX8_readWord_58 : decode cX8_readWord 58 = .ok (.iaload, 1) := by decide +kernel
theorem dX8_readWord_59 : decode cX8_readWord 59 = .ok (.bipush 97, 2) := by decide +kernel
theorem dX8_readWord_61 : decode cX8_readWord 61 = .ok (.isub, 1) := by decide +kernel
theorem dX8_readWord_62 : decode cX8_readWord 62 = .ok (.istore_n 3, 1) := by decide +kernel
theorem dX8_readWord_63 : decode cX8_readWord 63 = .ok (.aload_n 0, 1) := by decide +kernel
theorem dX8_readWord_64 : decode cX8_readWord 64 = .ok (.getfield 120, 3) := by decide +kernel
theorem dX8_readWord_67 : decode cX8_readWord 67 = .ok (.bipush 7, 2) := by decide +kernel
theorem dX8_readWord_69 : decode cX8_readWord 69 = .ok (.if_icmp .ge 16, 3) := by decide +kernel
theorem dX8_readWord_72 : decode cX8_readWord 72 = .ok (.lload_n 1, 1) := by decide +kernel
theorem dX8_readWord_73 : decode cX8_readWord 73 = .ok (.ldc2_w 129, 3) := by decide +kernel
theorem dX8_readWord_76 : decode cX8_readWord 76 = .ok (.lmul, 1) := by decide +kernel
theorem dX8_readWord_77 : decode cX8_readWord 77 = .ok (.iload_n 3, 1) := by decide +kernel
theorem dX8_readWord_78 : decode cX8_readWord 78 = .ok (.i2l, 1) := by decide +kernel
theorem dX8_readWord_79 : decode cX8_readWord 79 = .ok (.ladd, 1) := by decide +kernel
theorem dX8_readWord_80 : decode cX8_readWord 80 = .ok (.lconst 1, 1) := by decide +kernel
theorem dX8_readWord_81 : decode cX8_readWord 81 = .ok (.ladd, 1) := by decide +kernel
theorem dX8_readWord_82 : decode cX8_readWord 82 = .ok (.goto 6, 3) := by decide +kernel
theorem dX8_readWord_85 : decode cX8_readWord 85 = .ok (.ldc2_w 131, 3) := by decide +kernel
theorem dX8_readWord_88 : decode cX8_readWord 88 = .ok (.lstore_n 1, 1) := by decide +kernel
theorem dX8_readWord_89 : decode cX8_readWord 89 = .ok (.aload_n 0, 1) := by decide +kernel
theorem dX8_readWord_90 : decode cX8_readWord 90 = .ok (.aload_n 0, 1) := by decide +kernel
theorem dX8_readWord_91 : decode cX8_readWord 91 = .ok (.getfield 123, 3) := by decide +kernel
theorem dX8_readWord_94 : decode cX8_readWord 94 = .ok (.ifCond .lt 20, 3) := by decide +kernel
theorem dX8_readWord_97 : decode cX8_readWord 97 = .ok (.iload_n 3, 1) := by decide +kernel
theorem dX8_readWord_98 : decode cX8_readWord 98 = .ok (.bipush 7, 2) := by decide +kernel
theorem dX8_readWord_100 : decode cX8_readWord 100 = .ok (.if_icmp .gt 14, 3) := by decide +kernel
theorem dX8_readWord_103 : decode cX8_readWord 103 = .ok (.aload_n 0, 1) := by decide +kernel
theorem dX8_readWord_104 : decode cX8_readWord 104 = .ok (.getfield 123, 3) := by decide +kernel
theorem dX8_readWord_107 : decode cX8_readWord 107 = .ok (.iload_n 3, 1) := by decide +kernel
theorem dX8_readWord_108 : decode cX8_readWord 108 = .ok (.invokestatic 133, 3) := by decide +kernel
theorem dX8_readWord_111 : decode cX8_readWord 111 = .ok (.ifCond .eq 7, 3) := by decide +kernel
theorem dX8_readWord_114 : decode cX8_readWord 114 = .ok (.iconst (-1), 1) := by decide +kernel
theorem dX8_readWord_115 : decode cX8_readWord 115 = .ok (.goto 11, 3) := by decide +kernel
theorem dX8_readWord_118 : decode cX8_readWord 118 = .ok (.aload_n 0, 1) := by decide +kernel
theorem dX8_readWord_119 : decode cX8_readWord 119 = .ok (.getfield 123, 3) := by decide +kernel
theorem dX8_readWord_122 : decode cX8_readWord 122 = .ok (.iconst 1, 1) := by decide +kernel
theorem dX8_readWord_123 : decode cX8_readWord 123 = .ok (.iload_n 3, 1) := by decide +kernel
theorem dX8_readWord_124 : decode cX8_readWord 124 = .ok (.ishl, 1) := by decide +kernel
theorem dX8_readWord_125 : decode cX8_readWord 125 = .ok (.ior, 1) := by decide +kernel
theorem dX8_readWord_126 : decode cX8_readWord 126 = .ok (.putfield 123, 3) := by decide +kernel
theorem dX8_readWord_129 : decode cX8_readWord 129 = .ok (.aload_n 0, 1) := by decide +kernel
theorem dX8_readWord_130 : decode cX8_readWord 130 = .ok (.dup, 1) := by decide +kernel
theorem dX8_readWord_131 : decode cX8_readWord 131 = .ok (.getfield 120, 3) := by decide +kernel
theorem dX8_readWord_134 : decode cX8_readWord 134 = .ok (.iconst 1, 1) := by decide +kernel
theorem dX8_readWord_135 : decode cX8_readWord 135 = .ok (.iadd, 1) := by decide +kernel
theorem dX8_readWord_136 : decode cX8_readWord 136 = .ok (.putfield 120, 3) := by decide +kernel
theorem dX8_readWord_139 : decode cX8_readWord 139 = .ok (.aload_n 0, 1) := by decide +kernel
theorem dX8_readWord_140 : decode cX8_readWord 140 = .ok (.dup, 1) := by decide +kernel
theorem dX8_readWord_141 : decode cX8_readWord 141 = .ok (.getfield 110, 3) := by decide +kernel
theorem dX8_readWord_144 : decode cX8_readWord 144 = .ok (.iconst 1, 1) := by decide +kernel
theorem dX8_readWord_145 : decode cX8_readWord 145 = .ok (.iadd, 1) := by decide +kernel
theorem dX8_readWord_146 : decode cX8_readWord 146 = .ok (.putfield 110, 3) := by decide +kernel
theorem dX8_readWord_149 : decode cX8_readWord 149 = .ok (.goto (-129), 3) := by decide +kernel
theorem dX8_readWord_152 : decode cX8_readWord 152 = .ok (.lload_n 1, 1) := by decide +kernel
theorem dX8_readWord_153 : decode cX8_readWord 153 = .ok (.lreturn, 1) := by decide +kernel
theorem dX8_readNumber_0 : decode cX8_readNumber 0 = .ok (.aload_n 0, 1) := by decide +kernel
theorem dX8_readNumber_1 : decode cX8_readNumber 1 = .ok (.invokevirtual 116, 3) := by decide +kernel
theorem dX8_readNumber_4 : decode cX8_readNumber 4 = .ok (.bipush 48, 2) := by decide +kernel
theorem dX8_readNumber_6 : decode cX8_readNumber 6 = .ok (.bipush 57, 2) := by decide +kernel
theorem dX8_readNumber_8 : decode cX8_readNumber 8 = .ok (.invokestatic 106, 3) := by decide +kernel
theorem dX8_readNumber_11 : decode cX8_readNumber 11 = .ok (.ifCond .ne 13, 3) := by decide +kernel
theorem dX8_readNumber_14 : decode cX8_readNumber 14 = .ok (.aload_n 0, 1) := by decide +kernel
theorem dX8_readNumber_15 : decode cX8_readNumber 15 = .ok (.iconst 1, 1) := by decide +kernel
theorem dX8_readNumber_16 : decode cX8_readNumber 16 = .ok (.aload_n 0, 1) := by decide +kernel
theorem dX8_readNumber_17 : decode cX8_readNumber 17 = .ok (.getfield 110, 3) := by decide +kernel
theorem dX8_readNumber_20 : decode cX8_readNumber 20 = .ok (.invokevirtual 137, 3) := by decide +kernel
theorem dX8_readNumber_23 : decode cX8_readNumber 23 = .ok (.ireturn, 1) := by decide +kernel
theorem dX8_readNumber_24 : decode cX8_readNumber 24 = .ok (.aload_n 0, 1) := by decide +kernel
theorem dX8_readNumber_25 : decode cX8_readNumber 25 = .ok (.getfield 110, 3) := by decide +kernel
theorem dX8_readNumber_28 : decode cX8_readNumber 28 = .ok (.istore_n 3, 1) := by decide +kernel
theorem dX8_readNumber_29 : decode cX8_readNumber 29 = .ok (.aload_n 0, 1) := by decide +kernel
theorem dX8_readNumber_30 : decode cX8_readNumber 30 = .ok (.iconst 0, 1) := by decide +kernel
theorem dX8_readNumber_31 : decode cX8_readNumber 31 = .ok (.putfield 140, 3) := by decide +kernel
theorem dX8_readNumber_34 : decode cX8_readNumber 34 = .ok (.aload_n 0, 1) := by decide +kernel
theorem dX8_readNumber_35 : decode cX8_readNumber 35 = .ok (.getfield 110, 3) := by decide +kernel
theorem dX8_readNumber_38 : decode cX8_readNumber 38 = .ok (.aload_n 0, 1) := by decide +kernel
theorem dX8_readNumber_39 : decode cX8_readNumber 39 = .ok (.getfield 99, 3) := by decide +kernel
theorem dX8_readNumber_42 : decode cX8_readNumber 42 = .ok (.if_icmp .ge 76, 3) := by decide +kernel
theorem dX8_readNumber_45 : decode cX8_readNumber 45 = .ok (.aload_n 0, 1) := by decide +kernel
theorem dX8_readNumber_46 : decode cX8_readNumber 46 = .ok (.getfield 67, 3) := by decide +kernel
theorem dX8_readNumber_49 : decode cX8_readNumber 49 = .ok (.aload_n 0, 1) := by decide +kernel
theorem dX8_readNumber_50 : decode cX8_readNumber 50 = .ok (.getfield 110, 3) := by decide +kernel
theorem dX8_readNumber_53 : decode cX8_readNumber 53 = .ok (.iaload, 1) := by decide +kernel
theorem dX8_readNumber_54 : decode cX8_readNumber 54 = .ok (.bipush 48, 2) := by decide +kernel
theorem dX8_readNumber_56 : decode cX8_readNumber 56 = .ok (.bipush 57, 2) := by decide +kernel
theorem dX8_readNumber_58 : decode cX8_readNumber 58 = .ok (.invokestatic 106, 3) := by decide +kernel
theorem dX8_readNumber_61 : decode cX8_readNumber 61 = .ok (.ifCond .eq 57, 3) := by decide +kernel
theorem dX8_readNumber_64 : decode cX8_readNumber 64 = .ok (.aload_n 0, 1) := by decide +kernel
theorem dX8_readNumber_65 : decode cX8_readNumber 65 = .ok (.aload_n 0, 1) := by decide +kernel
theorem dX8_readNumber_66 : decode cX8_readNumber 66 = .ok (.getfield 110, 3) := by decide +kernel
theorem dX8_readNumber_69 : decode cX8_readNumber 69 = .ok (.iload_n 3, 1) := by decide +kernel
theorem dX8_readNumber_70 : decode cX8_readNumber 70 = .ok (.isub, 1) := by decide +kernel
theorem dX8_readNumber_71 : decode cX8_readNumber 71 = .ok (.iconst 3, 1) := by decide +kernel
theorem dX8_readNumber_72 : decode cX8_readNumber 72 = .ok (.if_icmp .ge 26, 3) := by decide +kernel
theorem dX8_readNumber_75 : decode cX8_readNumber 75 = .ok (.bipush 10, 2) := by decide +kernel
theorem dX8_readNumber_77 : decode cX8_readNumber 77 = .ok (.aload_n 0, 1) := by decide +kernel
theorem dX8_readNumber_78 : decode cX8_readNumber 78 = .ok (.getfield 140, 3) := by decide +kernel
theorem dX8_readNumber_81 : decode cX8_readNumber 81 = .ok (.imul, 1) := by decide +kernel
theorem dX8_readNumber_82 : decode cX8_readNumber 82 = .ok (.aload_n 0, 1) := by decide +kernel
theorem dX8_readNumber_83 : decode cX8_readNumber 83 = .ok (.getfield 67, 3) := by decide +kernel
theorem dX8_readNumber_86 : decode cX8_readNumber 86 = .ok (.aload_n 0, 1) := by decide +kernel
theorem dX8_readNumber_87 : decode cX8_readNumber 87 = .ok (.getfield 110, 3) := by decide +kernel
theorem dX8_readNumber_90 : decode cX8_readNumber 90 = .ok (.iaload, 1) := by decide +kernel
theorem dX8_readNumber_91 : decode cX8_readNumber 91 = .ok (.iadd, 1) := by decide +kernel
theorem dX8_readNumber_92 : decode cX8_readNumber 92 = .ok (.bipush 48, 2) := by decide +kernel
theorem dX8_readNumber_94 : decode cX8_readNumber 94 = .ok (.isub, 1) := by decide +kernel
theorem dX8_readNumber_95 : decode cX8_readNumber 95 = .ok (.goto 7, 3) := by decide +kernel
theorem dX8_readNumber_98 : decode cX8_readNumber 98 = .ok (.aload_n 0, 1) := by decide +kernel
theorem dX8_readNumber_99 : decode cX8_readNumber 99 = .ok (.getfield 140, 3) := by decide +kernel
theorem dX8_readNumber_102 : decode cX8_readNumber 102 = .ok (.putfield 140, 3) := by decide +kernel
theorem dX8_readNumber_105 : decode cX8_readNumber 105 = .ok (.aload_n 0, 1) := by decide +kernel
theorem dX8_readNumber_106 : decode cX8_readNumber 106 = .ok (.dup, 1) := by decide +kernel
theorem dX8_readNumber_107 : decode cX8_readNumber 107 = .ok (.getfield 110, 3) := by decide +kernel
theorem dX8_readNumber_110 : decode cX8_readNumber 110 = .ok (.iconst 1, 1) := by decide +kernel
theorem dX8_readNumber_111 : decode cX8_readNumber 111 = .ok (.iadd, 1) := by decide +kernel
theorem dX8_readNumber_112 : decode cX8_readNumber 112 = .ok (.putfield 110, 3) := by decide +kernel
theorem dX8_readNumber_115 : decode cX8_readNumber 115 = .ok (.goto (-81), 3) := by decide +kernel
theorem dX8_readNumber_118 : decode cX8_readNumber 118 = .ok (.aload_n 0, 1) := by decide +kernel
theorem dX8_readNumber_119 : decode cX8_readNumber 119 = .ok (.getfield 110, 3) := by decide +kernel
theorem dX8_readNumber_122 : decode cX8_readNumber 122 = .ok (.iload_n 3, 1) := by decide +kernel
theorem dX8_readNumber_123 : decode cX8_readNumber 123 = .ok (.isub, 1) := by decide +kernel
theorem dX8_readNumber_124 : decode cX8_readNumber 124 = .ok (.iconst 3, 1) := by decide +kernel
theorem dX8_readNumber_125 : decode cX8_readNumber 125 = .ok (.if_icmp .le 10, 3) := by decide +kernel
theorem dX8_readNumber_128 : decode cX8_readNumber 128 = .ok (.aload_n 0, 1) := by decide +kernel
theorem dX8_readNumber_129 : decode cX8_readNumber 129 = .ok (.iconst 1, 1) := by decide +kernel
theorem dX8_readNumber_130 : decode cX8_readNumber 130 = .ok (.iload_n 3, 1) := by decide +kernel
theorem dX8_readNumber_131 : decode cX8_readNumber 131 = .ok (.invokevirtual 137, 3) := by decide +kernel
theorem dX8_readNumber_134 : decode cX8_readNumber 134 = .ok (.ireturn, 1) := by decide +kernel
theorem dX8_readNumber_135 : decode cX8_readNumber 135 = .ok (.aload_n 0, 1) := by decide +kernel
theorem dX8_readNumber_136 : decode cX8_readNumber 136 = .ok (.getfield 140, 3) := by decide +kernel
theorem dX8_readNumber_139 : decode cX8_readNumber 139 = .ok (.iload_n 1, 1) := by decide +kernel
theorem dX8_readNumber_140 : decode cX8_readNumber 140 = .ok (.iload_n 2, 1) := by decide +kernel
theorem dX8_readNumber_141 : decode cX8_readNumber 141 = .ok (.invokestatic 106, 3) := by decide +kernel
theorem dX8_readNumber_144 : decode cX8_readNumber 144 = .ok (.ifCond .ne 12, 3) := by decide +kernel
theorem dX8_readNumber_147 : decode cX8_readNumber 147 = .ok (.aload_n 0, 1) := by decide +kernel
theorem dX8_readNumber_148 : decode cX8_readNumber 148 = .ok (.iconst 2, 1) := by decide +kernel
theorem dX8_readNumber_149 : decode cX8_readNumber 149 = .ok (.iload_n 3, 1) := by decide +kernel
theorem dX8_readNumber_150 : decode cX8_readNumber 150 = .ok (.invokevirtual 137, 3) := by decide +kernel
theorem dX8_readNumber_153 : decode cX8_readNumber 153 = .ok (.ifCond .eq 7, 3) := by decide +kernel
theorem dX8_readNumber_156 : decode cX8_readNumber 156 = .ok (.iconst 1, 1) := by decide +kernel
theorem dX8_readNumber_157 : decode cX8_readNumber 157 = .ok (.goto 4, 3) := by decide +kernel
theorem dX8_readNumber_160 : decode cX8_readNumber 160 = .ok (.iconst 0, 1) := by decide +kernel
theorem dX8_readNumber_161 : decode cX8_readNumber 161 = .ok (.ireturn, 1) := by decide +kernel
theorem dX8_readSet_0 : decode cX8_readSet 0 = .ok (.aload_n 0, 1) := by decide +kernel
theorem dX8_readSet_1 : decode cX8_readSet 1 = .ok (.invokevirtual 143, 3) := by decide +kernel
theorem dX8_readSet_4 : decode cX8_readSet 4 = .ok (.ifCond .ne 13, 3) := by decide +kernel
theorem dX8_readSet_7 : decode cX8_readSet 7 = .ok (.aload_n 0, 1) := by decide +kernel
theorem dX8_readSet_8 : decode cX8_readSet 8 = .ok (.iconst 1, 1) := by decide +kernel
theorem dX8_readSet_9 : decode cX8_readSet 9 = .ok (.aload_n 0, 1) := by decide +kernel
theorem dX8_readSet_10 : decode cX8_readSet 10 = .ok (.getfield 110, 3) := by decide +kernel
theorem dX8_readSet_13 : decode cX8_readSet 13 = .ok (.invokevirtual 137, 3) := by decide +kernel
theorem dX8_readSet_16 : decode cX8_readSet 16 = .ok (.ireturn, 1) := by decide +kernel
theorem dX8_readSet_17 : decode cX8_readSet 17 = .ok (.aload_n 0, 1) := by decide +kernel
theorem dX8_readSet_18 : decode cX8_readSet 18 = .ok (.invokevirtual 147, 3) := by decide +kernel
theorem dX8_readSet_21 : decode cX8_readSet 21 = .ok (.pop2, 1) := by decide +kernel
theorem dX8_readSet_22 : decode cX8_readSet 22 = .ok (.aload_n 0, 1) := by decide +kernel
theorem dX8_readSet_23 : decode cX8_readSet 23 = .ok (.getfield 123, 3) := by decide +kernel
theorem dX8_readSet_26 : decode cX8_readSet 26 = .ok (.ifCond .lt 11, 3) := by decide +kernel
theorem dX8_readSet_29 : decode cX8_readSet 29 = .ok (.aload_n 0, 1) := by decide +kernel
theorem dX8_readSet_30 : decode cX8_readSet 30 = .ok (.getfield 120, 3) := by decide +kernel
theorem dX8_readSet_33 : decode cX8_readSet 33 = .ok (.iload_n 1, 1) := by decide +kernel
theorem dX8_readSet_34 : decode cX8_readSet 34 = .ok (.if_icmp .ge 15, 3) := by decide +kernel
theorem dX8_readSet_37 : decode cX8_readSet 37 = .ok (.aload_n 0, 1) := by decide +kernel
theorem dX8_readSet_38 : decode cX8_readSet 38 = .ok (.iconst 1, 1) := by decide +kernel
theorem dX8_readSet_39 : decode cX8_readSet 39 = .ok (.aload_n 0, 1) := by decide +kernel
theorem dX8_readSet_40 : decode cX8_readSet 40 = .ok (.getfield 126, 3) := by decide +kernel
theorem dX8_readSet_43 : decode cX8_readSet 43 = .ok (.invokevirtual 137, 3) := by decide +kernel
theorem dX8_readSet_46 : decode cX8_readSet 46 = .ok (.ifCond .eq 7, 3) := by decide +kernel
theorem dX8_readSet_49 : decode cX8_readSet 49 = .ok (.iconst 1, 1) := by decide +kernel
theorem dX8_readSet_50 : decode cX8_readSet 50 = .ok (.goto 4, 3) := by decide +kernel
theorem dX8_readSet_53 : decode cX8_readSet 53 = .ok (.iconst 0, 1) := by decide +kernel
theorem dX8_readSet_54 : decode cX8_readSet 54 = .ok (.ireturn, 1) := by decide +kernel
theorem dX8_readWeight_0 : decode cX8_readWeight 0 = .ok (.aload_n 0, 1) := by decide +kernel
theorem dX8_readWeight_1 : decode cX8_readWeight 1 = .ok (.invokevirtual 116, 3) := by decide +kernel
theorem dX8_readWeight_4 : decode cX8_readWeight 4 = .ok (.bipush 45, 2) := by decide +kernel
theorem dX8_readWeight_6 : decode cX8_readWeight 6 = .ok (.if_icmp .ne 7, 3) := by decide +kernel
theorem dX8_readWeight_9 : decode cX8_readWeight 9 = .ok (.iconst 1, 1) := by decide +kernel
theorem dX8_readWeight_10 : decode cX8_readWeight 10 = .ok (.goto 4, 3) := by decide +kernel
theorem dX8_readWeight_13 : decode cX8_readWeight 13 = .ok (.iconst 0, 1) := by decide +kernel
theorem dX8_readWeight_14 : decode cX8_readWeight 14 = .ok (.istore_n 1, 1) := by decide +kernel
theorem dX8_readWeight_15 : decode cX8_readWeight 15 = .ok (.aload_n 0, 1) := by decide +kernel
theorem dX8_readWeight_16 : decode cX8_readWeight 16 = .ok (.dup, 1) := by decide +kernel
theorem dX8_readWeight_17 : decode cX8_readWeight 17 = .ok (.getfield 110, 3) := by decide +kernel
theorem dX8_readWeight_20 : decode cX8_readWeight 20 = .ok (.iload_n 1, 1) := by decide +kernel
theorem dX8_readWeight_21 : decode cX8_readWeight 21 = .ok (.ifCond .eq 7, 3) := by decide +kernel
theorem dX8_readWeight_24 : decode cX8_readWeight 24 = .ok (.iconst 1, 1) := by decide +kernel
theorem dX8_readWeight_25 : decode cX8_readWeight 25 = .ok (.goto 4, 3) := by decide +kernel
theorem dX8_readWeight_28 : decode cX8_readWeight 28 = .ok (.iconst 0, 1) := by decide +kernel
theorem dX8_readWeight_29 : decode cX8_readWeight 29 = .ok (.iadd, 1) := by decide +kernel
theorem dX8_readWeight_30 : decode cX8_readWeight 30 = .ok (.putfield 110, 3) := by decide +kernel
theorem dX8_readWeight_33 : decode cX8_readWeight 33 = .ok (.aload_n 0, 1) := by decide +kernel
theorem dX8_readWeight_34 : decode cX8_readWeight 34 = .ok (.iconst 0, 1) := by decide +kernel
theorem dX8_readWeight_35 : decode cX8_readWeight 35 = .ok (.bipush 9, 2) := by decide +kernel
theorem dX8_readWeight_37 : decode cX8_readWeight 37 = .ok (.invokevirtual 151, 3) := by decide +kernel
theorem dX8_readWeight_40 : decode cX8_readWeight 40 = .ok (.ifCond .ne 5, 3) := by decide +kernel
theorem dX8_readWeight_43 : decode cX8_readWeight 43 = .ok (.iconst 0, 1) := by decide +kernel
theorem dX8_readWeight_44 : decode cX8_readWeight 44 = .ok (.ireturn, 1) := by decide +kernel
theorem dX8_readWeight_45 : decode cX8_readWeight 45 = .ok (.aload_n 0, 1) := by decide +kernel
theorem dX8_readWeight_46 : decode cX8_readWeight 46 = .ok (.iload_n 1, 1) := by decide +kernel
theorem dX8_readWeight_47 : decode cX8_readWeight 47 = .ok (.ifCond .eq 11, 3) := by decide +kernel
theorem dX8_readWeight_50 : decode cX8_readWeight 50 = .ok (.aload_n 0, 1) := by decide +kernel
theorem dX8_readWeight_51 : decode cX8_readWeight 51 = .ok (.getfield 140, 3) := by decide +kernel
theorem dX8_readWeight_54 : decode cX8_readWeight 54 = .ok (.ineg, 1) := by decide +kernel
theorem dX8_readWeight_55 : decode cX8_readWeight 55 = .ok (.goto 7, 3) := by decide +kernel
theorem dX8_readWeight_58 : decode cX8_readWeight 58 = .ok (.aload_n 0, 1) := by decide +kernel
theorem dX8_readWeight_59 : decode cX8_readWeight 59 = .ok (.getfield 140, 3) := by decide +kernel
theorem dX8_readWeight_62 : decode cX8_readWeight 62 = .ok (.putfield 140, 3) := by decide +kernel
theorem dX8_readWeight_65 : decode cX8_readWeight 65 = .ok (.iconst 1, 1) := by decide +kernel
theorem dX8_readWeight_66 : decode cX8_readWeight 66 = .ok (.ireturn, 1) := by decide +kernel
theorem dX8_readBill_0 : decode cX8_readBill 0 = .ok (.aload_n 0, 1) := by decide +kernel
theorem dX8_readBill_1 : decode cX8_readBill 1 = .ok (.getfield 154, 3) := by decide +kernel
theorem dX8_readBill_4 : decode cX8_readBill 4 = .ok (.ifCond .eq 10, 3) := by decide +kernel
theorem dX8_readBill_7 : decode cX8_readBill 7 = .ok (.aload_n 0, 1) := by decide +kernel
theorem dX8_readBill_8 : decode cX8_readBill 8 = .ok (.iconst 3, 1) := by decide +kernel
theorem dX8_readBill_9 : decode cX8_readBill 9 = .ok (.iload_n 1, 1) := by decide +kernel
theorem dX8_readBill_10 : decode cX8_readBill 10 = .ok (.invokevirtual 137, 3) := by decide +kernel
theorem dX8_readBill_13 : decode cX8_readBill 13 = .ok (.ireturn, 1) := by decide +kernel
theorem dX8_readBill_14 : decode cX8_readBill 14 = .ok (.aload_n 0, 1) := by decide +kernel
theorem dX8_readBill_15 : decode cX8_readBill 15 = .ok (.iconst 1, 1) := by decide +kernel
theorem dX8_readBill_16 : decode cX8_readBill 16 = .ok (.invokevirtual 158, 3) := by decide +kernel
theorem dX8_readBill_19 : decode cX8_readBill 19 = .ok (.ifCond .ne 5, 3) := by decide +kernel
theorem dX8_readBill_22 : decode cX8_readBill 22 = .ok (.iconst 0, 1) := by decide +kernel
theorem dX8_readBill_23 : decode cX8_readBill 23 = .ok (.ireturn, 1) := by decide +kernel
theorem dX8_readBill_24 : decode cX8_readBill 24 = .ok (.aload_n 0, 1) := by decide +kernel
theorem dX8_readBill_25 : decode cX8_readBill 25 = .ok (.iconst 1, 1) := by decide +kernel
theorem dX8_readBill_26 : decode cX8_readBill 26 = .ok (.putfield 154, 3) := by decide +kernel
theorem dX8_readBill_29 : decode cX8_readBill 29 = .ok (.aload_n 0, 1) := by decide +kernel
theorem dX8_readBill_30 : decode cX8_readBill 30 = .ok (.getfield 13, 3) := by decide +kernel
theorem dX8_readBill_33 : decode cX8_readBill 33 = .ok (.iconst 0, 1) := by decide +kernel
theorem dX8_readBill_34 : decode cX8_readBill 34 = .ok (.aload_n 0, 1) := by decide +kernel
theorem dX8_readBill_35 : decode cX8_readBill 35 = .ok (.getfield 123, 3) := by decide +kernel
theorem dX8_readBill_38 : decode cX8_readBill 38 = .ok (.iastore, 1) := by decide +kernel
theorem dX8_readBill_39 : decode cX8_readBill 39 = .ok (.iconst 1, 1) := by decide +kernel
theorem dX8_readBill_40 : decode cX8_readBill 40 = .ok (.ireturn, 1) := by decide +kernel
theorem dX8_comes_0 : decode cX8_comes 0 = .ok (.aload_n 0, 1) := by decide +kernel
theorem dX8_comes_1 : decode cX8_comes 1 = .ok (.getfield 13, 3) := by decide +kernel
theorem dX8_comes_4 : decode cX8_comes 4 = .ok (.iconst 1, 1) := by decide +kernel
theorem dX8_comes_5 : decode cX8_comes 5 = .ok (.iaload, 1) := by decide +kernel
theorem dX8_comes_6 : decode cX8_comes 6 = .ok (.istore 5, 2) := by decide +kernel
theorem dX8_comes_8 : decode cX8_comes 8 = .ok (.aload_n 0, 1) := by decide +kernel
theorem dX8_comes_9 : decode cX8_comes 9 = .ok (.getfield 28, 3) := by decide +kernel
theorem dX8_comes_12 : decode cX8_comes 12 = .ok (.iload 5, 2) := by decide +kernel
theorem dX8_comes_14 : decode cX8_comes 14 = .ok (.iload_n 1, 1) := by decide +kernel
theorem dX8_comes_15 : decode cX8_comes 15 = .ok (.iastore, 1) := by decide +kernel
theorem dX8_comes_16 : decode cX8_comes 16 = .ok (.aload_n 0, 1) := by decide +kernel
theorem dX8_comes_17 : decode cX8_comes 17 = .ok (.getfield 31, 3) := by decide +kernel
