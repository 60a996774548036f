theorem dX7_init_139 : decode cX7_init 139 = .ok (.aload_n 0, 1) := by decide +kernel
theorem dX7_init_140 : decode cX7_init 140 = .ok (.getfield 44, 3) := by decide +kernel
theorem dX7_init_143 : decode cX7_init 143 = .ok (.aload_n 0, 1) := by decide +kernel
theorem dX7_init_144 : decode cX7_init 144 = .ok (.getfield 53, 3) := by decide +kernel
theorem dX7_init_147 : decode cX7_init 147 = .ok (.invokespecial 68, 3) := by decide +kernel
theorem dX7_init_150 : decode cX7_init 150 = .ok (.putfield 69, 3) := by decide +kernel
theorem dX7_init_153 : decode cX7_init 153 = .ok (.aload_n 0, 1) := by decide +kernel
theorem dX7_init_154 : decode cX7_init 154 = .ok (.invokevirtual 73, 3) := by decide +kernel
theorem dX7_init_157 : decode cX7_init 157 = .ok (.return_, 1) := by decide +kernel
theorem dX7_feed_0 : decode cX7_feed 0 = .ok (.aload_n 0, 1) := by decide +kernel
theorem dX7_feed_1 : decode cX7_feed 1 = .ok (.getfield 76, 3) := by decide +kernel
theorem dX7_feed_4 : decode cX7_feed 4 = .ok (.sipush 380, 3) := by decide +kernel
theorem dX7_feed_7 : decode cX7_feed 7 = .ok (.if_icmp .le 5, 3) := by decide +kernel
theorem dX7_feed_10 : decode cX7_feed 10 = .ok (.iconst (-1), 1) := by decide +kernel
theorem dX7_feed_11 : decode cX7_feed 11 = .ok (.ireturn, 1) := by decide +kernel
theorem dX7_feed_12 : decode cX7_feed 12 = .ok (.aload_n 0, 1) := by decide +kernel
theorem dX7_feed_13 : decode cX7_feed 13 = .ok (.iload_n 1, 1) := by decide +kernel
theorem dX7_feed_14 : decode cX7_feed 14 = .ok (.invokevirtual 80, 3) := by decide +kernel
theorem dX7_feed_17 : decode cX7_feed 17 = .ok (.aload_n 0, 1) := by decide +kernel
theorem dX7_feed_18 : decode cX7_feed 18 = .ok (.iload_n 2, 1) := by decide +kernel
theorem dX7_feed_19 : decode cX7_feed 19 = .ok (.invokevirtual 80, 3) := by decide +kernel
theorem dX7_feed_22 : decode cX7_feed 22 = .ok (.aload_n 0, 1) := by decide +kernel
theorem dX7_feed_23 : decode cX7_feed 23 = .ok (.iload_n 3, 1) := by decide +kernel
theorem dX7_feed_24 : decode cX7_feed 24 = .ok (.invokevirtual 80, 3) := by decide +kernel
theorem dX7_feed_27 : decode cX7_feed 27 = .ok (.aload_n 0, 1) := by decide +kernel
theorem dX7_feed_28 : decode cX7_feed 28 = .ok (.iload 4, 2) := by decide +kernel
theorem dX7_feed_30 : decode cX7_feed 30 = .ok (.invokevirtual 80, 3) := by decide +kernel
theorem dX7_feed_33 : decode cX7_feed 33 = .ok (.aload_n 0, 1) := by decide +kernel
theorem dX7_feed_34 : decode cX7_feed 34 = .ok (.iload 5, 2) := by decide +kernel
theorem dX7_feed_36 : decode cX7_feed 36 = .ok (.invokevirtual 80, 3) := by decide +kernel
theorem dX7_feed_39 : decode cX7_feed 39 = .ok (.aload_n 0, 1) := by decide +kernel
theorem dX7_feed_40 : decode cX7_feed 40 = .ok (.getfield 76, 3) := by decide +kernel
theorem dX7_feed_43 : decode cX7_feed 43 = .ok (.ireturn, 1) := by decide +kernel
theorem dX7_end_0 : decode cX7_end 0 = .ok (.iload_n 1, 1) := by decide +kernel
theorem dX7_end_1 : decode cX7_end 1 = .ok (.ifCond .lt 11, 3) := by decide +kernel
theorem dX7_end_4 : decode cX7_end 4 = .ok (.iload_n 1, 1) := by decide +kernel
theorem dX7_end_5 : decode cX7_end 5 = .ok (.aload_n 0, 1) := by decide +kernel
theorem dX7_end_6 : decode cX7_end 6 = .ok (.getfield 76, 3) := by decide +kernel
theorem dX7_end_9 : decode cX7_end 9 = .ok (.if_icmp .le 5, 3) := by decide +kernel
theorem dX7_end_12 : decode cX7_end 12 = .ok (.iconst 0, 1) := by decide +kernel
theorem dX7_end_13 : decode cX7_end 13 = .ok (.ireturn, 1) := by decide +kernel
theorem dX7_end_14 : decode cX7_end 14 = .ok (.aload_n 0, 1) := by decide +kernel
theorem dX7_end_15 : decode cX7_end 15 = .ok (.iload_n 1, 1) := by decide +kernel
theorem dX7_end_16 : decode cX7_end 16 = .ok (.putfield 76, 3) := by decide +kernel
theorem dX7_end_19 : decode cX7_end 19 = .ok (.iconst 1, 1) := by decide +kernel
theorem dX7_end_20 : decode cX7_end 20 = .ok (.ireturn, 1) := by decide +kernel
theorem dX7_tell_0 : decode cX7_tell 0 = .ok (.aload_n 0, 1) := by decide +kernel
theorem dX7_tell_1 : decode cX7_tell 1 = .ok (.getfield 28, 3) := by decide +kernel
theorem dX7_tell_4 : decode cX7_tell 4 = .ok (.aload_n 0, 1) := by decide +kernel
theorem dX7_tell_5 : decode cX7_tell 5 = .ok (.getfield 76, 3) := by decide +kernel
theorem dX7_tell_8 : decode cX7_tell 8 = .ok (.invokevirtual 84, 3) := by decide +kernel
theorem dX7_tell_11 : decode cX7_tell 11 = .ok (.istore_n 1, 1) := by decide +kernel
theorem dX7_tell_12 : decode cX7_tell 12 = .ok (.aload_n 0, 1) := by decide +kernel
theorem dX7_tell_13 : decode cX7_tell 13 = .ok (.iconst 0, 1) := by decide +kernel
theorem dX7_tell_14 : decode cX7_tell 14 = .ok (.putfield 76, 3) := by decide +kernel
theorem dX7_tell_17 : decode cX7_tell 17 = .ok (.aload_n 0, 1) := by decide +kernel
theorem dX7_tell_18 : decode cX7_tell 18 = .ok (.aload_n 0, 1) := by decide +kernel
theorem dX7_tell_19 : decode cX7_tell 19 = .ok (.getfield 28, 3) := by decide +kernel
theorem dX7_tell_22 : decode cX7_tell 22 = .ok (.getfield 88, 3) := by decide +kernel
theorem dX7_tell_25 : decode cX7_tell 25 = .ok (.putfield 91, 3) := by decide +kernel
theorem dX7_tell_28 : decode cX7_tell 28 = .ok (.iload_n 1, 1) := by decide +kernel
theorem dX7_tell_29 : decode cX7_tell 29 = .ok (.iconst (-1), 1) := by decide +kernel
theorem dX7_tell_30 : decode cX7_tell 30 = .ok (.if_icmp .eq 18, 3) := by decide +kernel
theorem dX7_tell_33 : decode cX7_tell 33 = .ok (.aload_n 0, 1) := by decide +kernel
theorem dX7_tell_34 : decode cX7_tell 34 = .ok (.getfield 16, 3) := by decide +kernel
theorem dX7_tell_37 : decode cX7_tell 37 = .ok (.aload_n 0, 1) := by decide +kernel
theorem dX7_tell_38 : decode cX7_tell 38 = .ok (.getfield 20, 3) := by decide +kernel
theorem dX7_tell_41 : decode cX7_tell 41 = .ok (.invokevirtual 94, 3) := by decide +kernel
theorem dX7_tell_44 : decode cX7_tell 44 = .ok (.aload_n 0, 1) := by decide +kernel
theorem dX7_tell_45 : decode cX7_tell 45 = .ok (.invokevirtual 73, 3) := by decide +kernel
theorem dX7_tell_48 : decode cX7_tell 48 = .ok (.iload_n 1, 1) := by decide +kernel
theorem dX7_tell_49 : decode cX7_tell 49 = .ok (.ireturn, 1) := by decide +kernel
theorem dX7_fault_0 : decode cX7_fault 0 = .ok (.aload_n 0, 1) := by decide +kernel
theorem dX7_fault_1 : decode cX7_fault 1 = .ok (.getfield 91, 3) := by decide +kernel
theorem dX7_fault_4 : decode cX7_fault 4 = .ok (.ireturn, 1) := by decide +kernel
theorem dX7_weigh_0 : decode cX7_weigh 0 = .ok (.aload_n 0, 1) := by decide +kernel
theorem dX7_weigh_1 : decode cX7_weigh 1 = .ok (.getfield 16, 3) := by decide +kernel
theorem dX7_weigh_4 : decode cX7_weigh 4 = .ok (.iload_n 1, 1) := by decide +kernel
theorem dX7_weigh_5 : decode cX7_weigh 5 = .ok (.invokevirtual 97, 3) := by decide +kernel
theorem dX7_weigh_8 : decode cX7_weigh 8 = .ok (.ifCond .eq 22, 3) := by decide +kernel
theorem dX7_weigh_11 : decode cX7_weigh 11 = .ok (.iload_n 2, 1) := by decide +kernel
theorem dX7_weigh_12 : decode cX7_weigh 12 = .ok (.invokestatic 101, 3) := by decide +kernel
theorem dX7_weigh_15 : decode cX7_weigh 15 = .ok (.ifCond .eq 15, 3) := by decide +kernel
theorem dX7_weigh_18 : decode cX7_weigh 18 = .ok (.iload_n 3, 1) := by decide +kernel
theorem dX7_weigh_19 : decode cX7_weigh 19 = .ok (.bipush (-9), 2) := by decide +kernel
theorem dX7_weigh_21 : decode cX7_weigh 21 = .ok (.if_icmp .lt 9, 3) := by decide +kernel
theorem dX7_weigh_24 : decode cX7_weigh 24 = .ok (.iload_n 3, 1) := by decide +kernel
theorem dX7_weigh_25 : decode cX7_weigh 25 = .ok (.bipush 9, 2) := by decide +kernel
theorem dX7_weigh_27 : decode cX7_weigh 27 = .ok (.if_icmp .le 5, 3) := by decide +kernel
theorem dX7_weigh_30 : decode cX7_weigh 30 = .ok (.iconst 0, 1) := by decide +kernel
theorem dX7_weigh_31 : decode cX7_weigh 31 = .ok (.ireturn, 1) := by decide +kernel
theorem dX7_weigh_32 : decode cX7_weigh 32 = .ok (.aload_n 0, 1) := by decide +kernel
theorem dX7_weigh_33 : decode cX7_weigh 33 = .ok (.getfield 16, 3) := by decide +kernel
theorem dX7_weigh_36 : decode cX7_weigh 36 = .ok (.getfield 104, 3) := by decide +kernel
theorem dX7_weigh_39 : decode cX7_weigh 39 = .ok (.iload_n 1, 1) := by decide +kernel
theorem dX7_weigh_40 : decode cX7_weigh 40 = .ok (.bipush 8, 2) := by decide +kernel
theorem dX7_weigh_42 : decode cX7_weigh 42 = .ok (.imul, 1) := by decide +kernel
theorem dX7_weigh_43 : decode cX7_weigh 43 = .ok (.iload_n 2, 1) := by decide +kernel
theorem dX7_weigh_44 : decode cX7_weigh 44 = .ok (.iadd, 1) := by decide +kernel
theorem dX7_weigh_45 : decode cX7_weigh 45 = .ok (.iload_n 3, 1) := by decide +kernel
theorem dX7_weigh_46 : decode cX7_weigh 46 = .ok (.iastore, 1) := by decide +kernel
theorem dX7_weigh_47 : decode cX7_weigh 47 = .ok (.aload_n 0, 1) := by decide +kernel
theorem dX7_weigh_48 : decode cX7_weigh 48 = .ok (.getfield 44, 3) := by decide +kernel
theorem dX7_weigh_51 : decode cX7_weigh 51 = .ok (.iload_n 1, 1) := by decide +kernel
theorem dX7_weigh_52 : decode cX7_weigh 52 = .ok (.invokevirtual 107, 3) := by decide +kernel
theorem dX7_weigh_55 : decode cX7_weigh 55 = .ok (.aload_n 0, 1) := by decide +kernel
theorem dX7_weigh_56 : decode cX7_weigh 56 = .ok (.getfield 69, 3) := by decide +kernel
theorem dX7_weigh_59 : decode cX7_weigh 59 = .ok (.invokevirtual 110, 3) := by decide +kernel
theorem dX7_weigh_62 : decode cX7_weigh 62 = .ok (.iconst 1, 1) := by decide +kernel
theorem dX7_weigh_63 : decode cX7_weigh 63 = .ok (.ireturn, 1) := by decide +kernel
theorem dX7_order_0 : decode cX7_order 0 = .ok (.aload_n 0, 1) := by decide +kernel
theorem dX7_order_1 : decode cX7_order 1 = .ok (.getfield 37, 3) := by decide +kernel
theorem dX7_order_4 : decode cX7_order 4 = .ok (.iload_n 1, 1) := by decide +kernel
theorem dX7_order_5 : decode cX7_order 5 = .ok (.invokevirtual 113, 3) := by decide +kernel
theorem dX7_order_8 : decode cX7_order 8 = .ok (.ireturn, 1) := by decide +kernel
theorem dX7_count_0 : decode cX7_count 0 = .ok (.iload_n 1, 1) := by decide +kernel
theorem dX7_count_1 : decode cX7_count 1 = .ok (.tableswitch 108 0 7 #[47, 55, 63, 71, 79, 87, 95, 100], 47) := by decide +kernel
theorem dX7_count_48 : decode cX7_count 48 = .ok (.aload_n 0, 1) := by decide +kernel
theorem dX7_count_49 : decode cX7_count 49 = .ok (.getfield 16, 3) := by decide +kernel
theorem dX7_count_52 : decode cX7_count 52 = .ok (.getfield 116, 3) := by decide +kernel
theorem dX7_count_55 : decode cX7_count 55 = .ok (.ireturn, 1) := by decide +kernel
theorem dX7_count_56 : decode cX7_count 56 = .ok (.aload_n 0, 1) := by decide +kernel
theorem dX7_count_57 : decode cX7_count 57 = .ok (.getfield 16, 3) := by decide +kernel
theorem dX7_count_60 : decode cX7_count 60 = .ok (.getfield 119, 3) := by decide +kernel
theorem dX7_count_63 : decode cX7_count 63 = .ok (.ireturn, 1) := by decide +kernel
theorem dX7_count_64 : decode cX7_count 64 = .ok (.aload_n 0, 1) := by decide +kernel
theorem dX7_count_65 : decode cX7_count 65 = .ok (.getfield 16, 3) := by decide +kernel
theorem dX7_count_68 : decode cX7_count 68 = .ok (.getfield 122, 3) := by decide +kernel
theorem dX7_count_71 : decode cX7_count 71 = .ok (.ireturn, 1) := by decide +kernel
theorem dX7_count_72 : decode cX7_count 72 = .ok (.aload_n 0, 1) := by decide +kernel
theorem dX7_count_73 : decode cX7_count 73 = .ok (.getfield 16, 3) := by decide +kernel
theorem dX7_count_76 : decode cX7_count 76 = .ok (.invokevirtual 125, 3) := by decide +kernel
theorem dX7_count_79 : decode cX7_count 79 = .ok (.ireturn, 1) := by decide +kernel
theorem dX7_count_80 : decode cX7_count 80 = .ok (.aload_n 0, 1) := by decide +kernel
theorem dX7_count_81 : decode cX7_count 81 = .ok (.getfield 16, 3) := by decide +kernel
theorem dX7_count_84 : decode cX7_count 84 = .ok (.getfield 129, 3) := by decide +kernel
theorem dX7_count_87 : decode cX7_count 87 = .ok (.ireturn, 1) := by decide +kernel
theorem dX7_count_88 : decode cX7_count 88 = .ok (.aload_n 0, 1) := by decide +kernel
theorem dX7_count_89 : decode cX7_count 89 = .ok (.getfield 37, 3) := by decide +kernel
theorem dX7_count_92 : decode cX7_count 92 = .ok (.invokevirtual 132, 3) := by decide +kernel
theorem dX7_count_95 : decode cX7_count 95 = .ok (.ireturn, 1) := by decide +kernel
theorem dX7_count_96 : decode cX7_count 96 = .ok (.aload_n 0, 1) := by decide +kernel
theorem dX7_count_97 : decode cX7_count 97 = .ok (.getfield 76, 3) := by decide +kernel
theorem dX7_count_100 : decode cX7_count 100 = .ok (.ireturn, 1) := by decide +kernel
theorem dX7_count_101 : decode cX7_count 101 = .ok (.aload_n 0, 1) := by decide +kernel
theorem dX7_count_102 : decode cX7_count 102 = .ok (.getfield 69, 3) := by decide +kernel
theorem dX7_count_105 : decode cX7_count 105 = .ok (.getfield 135, 3) := by decide +kernel
theorem dX7_count_108 : decode cX7_count 108 = .ok (.ireturn, 1) := by decide +kernel
theorem dX7_count_109 : decode cX7_count 109 = .ok (.iconst (-1), 1) := by decide +kernel
theorem dX7_count_110 : decode cX7_count 110 = .ok (.ireturn, 1) := by decide +kernel
theorem dX7_motion_0 : decode cX7_motion 0 = .ok (.aload_n 0, 1) := by decide +kernel
theorem dX7_motion_1 : decode cX7_motion 1 = .ok (.getfield 16, 3) := by decide +kernel
theorem dX7_motion_4 : decode cX7_motion 4 = .ok (.iload_n 1, 1) := by decide +kernel
theorem dX7_motion_5 : decode cX7_motion 5 = .ok (.invokevirtual 138, 3) := by decide +kernel
theorem dX7_motion_8 : decode cX7_motion 8 = .ok (.ifCond .ne 13, 3) := by decide +kernel
theorem dX7_motion_11 : decode cX7_motion 11 = .ok (.new 141, 3) := by decide +kernel
theorem dX7_motion_14 : decode cX7_motion 14 = .ok (.dup, 1) := by decide +kernel
theorem dX7_motion_15 : decode cX7_motion 15 = .ok (.ldc 143, 2) := by decide +kernel
theorem dX7_motion_17 : decode cX7_motion 17 = .ok (.invokespecial 145, 3) := by decide +kernel
theorem dX7_motion_20 : decode cX7_motion 20 = .ok (.athrow, 1) := by decide +kernel
theorem dX7_motion_21 : decode cX7_motion 21 = .ok (.iload_n 2, 1) := by decide +kernel
theorem dX7_motion_22 : decode cX7_motion 22 = .ok (.tableswitch 83 0 4 #[34, 44, 54, 64, 74], 34) := by decide +kernel
theorem dX7_motion_56 : decode cX7_motion 56 = .ok (.aload_n 0, 1) := by decide +kernel
theorem dX7_motion_57 : decode cX7_motion 57 = .ok (.getfield 16, 3) := by decide +kernel
theorem dX7_motion_60 : decode cX7_motion 60 = .ok (.getfield 148, 3) := by decide +kernel
theorem dX7_motion_63 : decode cX7_motion 63 = .ok (.iload_n 1, 1) := by decide +kernel
theorem dX7_motion_64 : decode cX7_motion 64 = .ok (.iaload, 1) := by decide +kernel
theorem dX7_motion_65 : decode cX7_motion 65 = .ok (.ireturn, 1) := by decide +kernel
theorem dX7_motion_66 : decode cX7_motion 66 = .ok (.aload_n 0, 1) := by decide +kernel
theorem dX7_motion_67 : decode cX7_motion 67 = .ok (.getfield 16, 3) := by decide +kernel
theorem dX7_motion_70 : decode cX7_motion 70 = .ok (.getfield 151, 3) := by decide +kernel
theorem dX7_motion_73 : decode cX7_motion 73 = .ok (.iload_n 1, 1) := by decide +kernel
theorem dX7_motion_74 : decode cX7_motion 74 = .ok (.iaload, 1) := by decide +kernel
theorem dX7_motion_75 : decode cX7_motion 75 = .ok (.ireturn, 1) := by decide +kernel
theorem dX7_motion_76 : decode cX7_motion 76 = .ok (.aload_n 0, 1) := by decide +kernel
theorem dX7_motion_77 : decode cX7_motion 77 = .ok (.getfield 16, 3) := by decide +kernel
theorem dX7_motion_80 : decode cX7_motion 80 = .ok (.getfield 154, 3) := by decide +kernel
theorem dX7_motion_83 : decode cX7_motion 83 = .ok (.iload_n 1, 1) := by decide +kernel
theorem dX7_motion_84 : decode cX7_motion 84 = .ok (.iaload, 1) := by decide +kernel
theorem dX7_motion_85 : decode cX7_motion 85 = .ok (.ireturn, 1) := by decide +kernel
theorem dX7_motion_86 : decode cX7_motion 86 = .ok (.aload_n 0, 1) := by decide +kernel
theorem dX7_motion_87 : decode cX7_motion 87 = .ok (.getfield 16, 3) := by decide +kernel
theorem dX7_motion_90 : decode cX7_motion 90 = .ok (.getfield 157, 3) := by decide +kernel
theorem dX7_motion_93 : decode cX7_motion 93 = .ok (.iload_n 1, 1) := by decide +kernel
theorem dX7_motion_94 : decode cX7_motion 94 = .ok (.iaload, 1) := by decide +kernel
theorem dX7_motion_95 : decode cX7_motion 95 = .ok (.ireturn, 1) := by decide +kernel
theorem dX7_motion_96 : decode cX7_motion 96 = .ok (.aload_n 0, 1) := by decide +kernel
theorem dX7_motion_97 : decode cX7_motion 97 = .ok (.getfield 37, 3) := by decide +kernel
theorem dX7_motion_100 : decode cX7_motion 100 = .ok (.iload_n 1, 1) := by decide +kernel
theorem dX7_motion_101 : decode cX7_motion 101 = .ok (.invokevirtual 160, 3) := by decide +kernel
theorem dX7_motion_104 : decode cX7_motion 104 = .ok (.ireturn, 1) := by decide +kernel
theorem dX7_motion_105 : decode cX7_motion 105 = .ok (.new 141, 3) := by decide +kernel
theorem dX7_motion_108 : decode cX7_motion 108 = .ok (.dup, 1) := by decide +kernel
theorem dX7_motion_109 : decode cX7_motion 109 = .ok (.ldc 163, 2) := by decide +kernel
theorem dX7_motion_111 : decode cX7_motion 111 = .ok (.invokespecial 145, 3) := by decide +kernel
theorem dX7_motion_114 : decode cX7_motion 114 = .ok (.athrow, 1) := by decide +kernel
theorem dX7_weight_0 : decode cX7_weight 0 = .ok (.aload_n 0, 1) := by decide +kernel
theorem dX7_weight_1 : decode cX7_weight 1 = .ok (.getfield 16, 3) := by decide +kernel
theorem dX7_weight_4 : decode cX7_weight 4 = .ok (.iload_n 1, 1) := by decide +kernel
theorem dX7_weight_5 : decode cX7_weight 5 = .ok (.invokevirtual 97, 3) := by decide +kernel
theorem dX7_weight_8 : decode cX7_weight 8 = .ok (.ifCond .eq 10, 3) := by decide +kernel
theorem dX7_weight_11 : decode cX7_weight 11 = .ok (.iload_n 2, 1) := by decide +kernel
theorem dX7_weight_12 : decode cX7_weight 12 = .ok (.invokestatic 101, 3) := by decide +kernel
theorem dX7_weight_15 : decode cX7_weight 15 = .ok (.ifCond .ne 13, 3) := by decide +kernel
theorem dX7_weight_18 : decode cX7_weight 18 = .ok (.new 141, 3) := by decide +kernel
theorem dX7_weight_21 : decode cX7_weight 21 = .ok (.dup, 1) := by decide +kernel
theorem dX7_weight_22 : decode cX7_weight 22 = .ok (.ldc 165, 2) := by decide +kernel
theorem dX7_weight_24 : decode cX7_weight 24 = .ok (.invokespecial 145, 3) := by decide +kernel
theorem dX7_weight_27 : decode cX7_weight 27 = .ok (.athrow, 1) := by decide +kernel
theorem dX7_weight_28 : decode cX7_weight 28 = .ok (.aload_n 0, 1) := by decide +kernel
theorem dX7_weight_29 : decode cX7_weight 29 = .ok (.getfield 16, 3) := by decide +kernel
theorem dX7_weight_32 : decode cX7_weight 32 = .ok (.getfield 104, 3) := by decide +kernel
theorem dX7_weight_35 : decode cX7_weight 35 = .ok (.iload_n 1, 1) := by decide +kernel
theorem dX7_weight_36 : decode cX7_weight 36 = .ok (.bipush 8, 2) := by decide +kernel
theorem dX7_weight_38 : decode cX7_weight 38 = .ok (.imul, 1) := by decide +kernel
theorem dX7_weight_39 : decode cX7_weight 39 = .ok (.iload_n 2, 1) := by decide +kernel
theorem dX7_weight_40 : decode cX7_weight 40 = .ok (.iadd, 1) := by decide +kernel
theorem dX7_weight_41 : decode cX7_weight 41 = .ok (.iaload, 1) := by decide +kernel
theorem dX7_weight_42 : decode cX7_weight 42 = .ok (.ireturn, 1) := by decide +kernel
theorem dX7_likes_0 : decode cX7_likes 0 = .ok (.aload_n 0, 1) := by decide +kernel
theorem dX7_likes_1 : decode cX7_likes 1 = .ok (.getfield 16, 3) := by decide +kernel
theorem dX7_likes_4 : decode cX7_likes 4 = .ok (.iload_n 1, 1) := by decide +kernel
theorem dX7_likes_5 : decode cX7_likes 5 = .ok (.invokevirtual 97, 3) := by decide +kernel
theorem dX7_likes_8 : decode cX7_likes 8 = .ok (.ifCond .eq 10, 3) := by decide +kernel
theorem dX7_likes_11 : decode cX7_likes 11 = .ok (.iload_n 2, 1) := by decide +kernel
theorem dX7_likes_12 : decode cX7_likes 12 = .ok (.invokestatic 167, 3) := by decide +kernel
theorem dX7_likes_15 : decode cX7_likes 15 = .ok (.ifCond .ne 13, 3) := by decide +kernel
theorem dX7_likes_18 : decode cX7_likes 18 = .ok (.new 141, 3) := by decide +kernel
theorem dX7_likes_21 : decode cX7_likes 21 = .ok (.dup, 1) := by decide +kernel
theorem dX7_likes_22 : decode cX7_likes 22 = .ok (.ldc 170, 2) := by decide +kernel
theorem dX7_likes_24 : decode cX7_likes 24 = .ok (.invokespecial 145, 3) := by decide +kernel
theorem dX7_likes_27 : decode cX7_likes 27 = .ok (.athrow, 1) := by decide +kernel
theorem dX7_likes_28 : decode cX7_likes 28 = .ok (.aload_n 0, 1) := by decide +kernel
theorem dX7_likes_29 : decode cX7_likes 29 = .ok (.getfield 44, 3) := by decide +kernel
theorem dX7_likes_32 : decode cX7_likes 32 = .ok (.iload_n 1, 1) := by decide +kernel
theorem dX7_likes_33 : decode cX7_likes 33 = .ok (.iload_n 2, 1) := by decide +kernel
theorem dX7_likes_34 : decode cX7_likes 34 = .ok (.invokevirtual 172, 3) := by decide +kernel
theorem dX7_likes_37 : decode cX7_likes 37 = .ok (.ireturn, 1) := by decide +kernel
theorem dX7_form_0 : decode cX7_form 0 = .ok (.iload_n 1, 1) := by decide +kernel
theorem dX7_form_1 : decode cX7_form 1 = .ok (.aload_n 0, 1) := by decide +kernel
theorem dX7_form_2 : decode cX7_form 2 = .ok (.getfield 16, 3) := by decide +kernel
theorem dX7_form_5 : decode cX7_form 5 = .ok (.getfield 116, 3) := by decide +kernel
theorem dX7_form_8 : decode cX7_form 8 = .ok (.invokestatic 176, 3) := by decide +kernel
theorem dX7_form_11 : decode cX7_form 11 = .ok (.ifCond .eq 15, 3) := by decide +kernel
theorem dX7_form_14 : decode cX7_form 14 = .ok (.aload_n 0, 1) := by decide +kernel
theorem dX7_form_15 : decode cX7_form 15 = .ok (.getfield 53, 3) := by decide +kernel
theorem dX7_form_18 : decode cX7_form 18 = .ok (.getfield 180, 3) := by decide +kernel
theorem dX7_form_21 : decode cX7_form 21 = .ok (.iload_n 1, 1) := by decide +kernel
theorem dX7_form_22 : decode cX7_form 22 = .ok (.iaload, 1) := by decide +kernel
theorem dX7_form_23 : decode cX7_form 23 = .ok (.goto 4, 3) := by decide +kernel
theorem dX7_form_26 : decode cX7_form 26 = .ok (.iconst (-1), 1) := by decide +kernel
theorem dX7_form_27 : decode cX7_form 27 = .ok (.ireturn, 1) := by decide +kernel
theorem dX7_result_0 : decode cX7_result 0 = .ok (.aload_n 0, 1) := by decide +kernel
theorem dX7_result_1 : decode cX7_result 1 = .ok (.iload_n 1, 1) := by decide +kernel
theorem dX7_result_2 : decode cX7_result 2 = .ok (.invokevirtual 183, 3) := by decide +kernel
theorem dX7_result_5 : decode cX7_result 5 = .ok (.ifCond .eq 15, 3) := by decide +kernel
theorem dX7_result_8 : decode cX7_result 8 = .ok (.aload_n 0, 1) := by decide +kernel
theorem dX7_result_9 : decode cX7_result 9 = .ok (.getfield 53, 3) := by decide +kernel
theorem dX7_result_12 : decode cX7_result 12 = .ok (.iload_n 1, 1) := by decide +kernel
theorem dX7_result_13 : decode cX7_result 13 = .ok (.iconst 0, 1) := by decide +kernel
theorem dX7_result_14 : decode cX7_result 14 = .ok (.invokevirtual 186, 3) := by decide +kernel
theorem dX7_result_17 : decode cX7_result 17 = .ok (.goto 4, 3) := by decide +kernel
theorem dX7_result_20 : decode cX7_result 20 = .ok (.iconst (-1), 1) := by decide +kernel
theorem dX7_result_21 : decode cX7_result 21 = .ok (.ireturn, 1) := by decide +kernel
theorem dX7_adopted_0 : decode cX7_adopted 0 = .ok (.aload_n 0, 1) := by decide +kernel
theorem dX7_adopted_1 : decode cX7_adopted 1 = .ok (.iload_n 1, 1) := by decide +kernel
theorem dX7_adopted_2 : decode cX7_adopted 2 = .ok (.invokevirtual 183, 3) := by decide +kernel
theorem dX7_adopted_5 : decode cX7_adopted 5 = .ok (.ifCond .ne 5, 3) := by decide +kernel
theorem dX7_adopted_8 : decode cX7_adopted 8 = .ok (.iconst (-1), 1) := by decide +kernel
theorem dX7_adopted_9 : decode cX7_adopted 9 = .ok (.ireturn, 1) := by decide +kernel
theorem dX7_adopted_10 : decode cX7_adopted 10 = .ok (.aload_n 0, 1) := by decide +kernel
theorem dX7_adopted_11 : decode cX7_adopted 11 = .ok (.getfield 53, 3) := by decide +kernel
theorem dX7_adopted_14 : decode cX7_adopted 14 = .ok (.iload_n 1, 1) := by decide +kernel
theorem dX7_adopted_15 : decode cX7_adopted 15 = .ok (.invokevirtual 189, 3) := by decide +kernel
theorem dX7_adopted_18 : decode cX7_adopted 18 = .ok (.aload_n 0, 1) := by decide +kernel
theorem dX7_adopted_19 : decode cX7_adopted 19 = .ok (.getfield 53, 3) := by decide +kernel
theorem dX7_adopted_22 : decode cX7_adopted 22 = .ok (.getfield 192, 3) := by decide +kernel
theorem dX7_adopted_25 : decode cX7_adopted 25 = .ok (.ireturn, 1) := by decide +kernel
theorem dX7_yes_0 : decode cX7_yes 0 = .ok (.aload_n 0, 1) := by decide +kernel
theorem dX7_yes_1 : decode cX7_yes 1 = .ok (.iload_n 1, 1) := by decide +kernel
theorem dX7_yes_2 : decode cX7_yes 2 = .ok (.invokevirtual 183, 3) := by decide +kernel
theorem dX7_yes_5 : decode cX7_yes 5 = .ok (.ifCond .eq 18, 3) := by decide +kernel
theorem dX7_yes_8 : decode cX7_yes 8 = .ok (.iload_n 2, 1) := by decide +kernel
theorem dX7_yes_9 : decode cX7_yes 9 = .ok (.ifCond .lt 14, 3) := by decide +kernel
theorem dX7_yes_12 : decode cX7_yes 12 = .ok (.iload_n 2, 1) := by decide +kernel
theorem dX7_yes_13 : decode cX7_yes 13 = .ok (.aload_n 0, 1) := by decide +kernel
theorem dX7_yes_14 : decode cX7_yes 14 = .ok (.getfield 16, 3) := by decide +kernel
theorem dX7_yes_17 : decode cX7_yes 17 = .ok (.getfield 116, 3) := by decide +kernel
theorem dX7_yes_20 : decode cX7_yes 20 = .ok (.if_icmp .le 5, 3) := by decide +kernel
theorem dX7_yes_23 : decode cX7_yes 23 = .ok (.iconst (-1), 1) := by decide +kernel
theorem dX7_yes_24 : decode cX7_yes 24 = .ok (.ireturn, 1) := by decide +kernel
theorem dX7_yes_25 : decode cX7_yes 25 = .ok (.aload_n 0, 1) := by decide +kernel
theorem dX7_yes_26 : decode cX7_yes 26 = .ok (.getfield 53, 3) := by decide +kernel
theorem dX7_yes_29 : decode cX7_yes 29 = .ok (.iload_n 1, 1) := by decide +kernel
theorem dX7_yes_30 : decode cX7_yes 30 = .ok (.invokevirtual 189, 3) := by decide +kernel
theorem dX7_yes_33 : decode cX7_yes 33 = .ok (.aload_n 0, 1) := by decide +kernel
theorem dX7_yes_34 : decode cX7_yes 34 = .ok (.getfield 53, 3) := by decide +kernel
theorem dX7_yes_37 : decode cX7_yes 37 = .ok (.getfield 195, 3) := by decide +kernel
theorem dX7_yes_40 : decode cX7_yes 40 = .ok (.iload_n 2, 1) := by decide +kernel
theorem dX7_yes_41 : decode cX7_yes 41 = .ok (.iaload, 1) := by decide +kernel
theorem dX7_yes_42 : decode cX7_yes 42 = .ok (.ireturn, 1) := by decide +kernel
theorem dX7_minutes_0 : decode cX7_minutes 0 = .ok (.aload_n 0, 1) := by decide +kernel
theorem dX7_minutes_1 : decode cX7_minutes 1 = .ok (.getfield 16, 3) := by decide +kernel
theorem dX7_minutes_4 : decode cX7_minutes 4 = .ok (.getfield 116, 3) := by decide +kernel
theorem dX7_minutes_7 : decode cX7_minutes 7 = .ok (.iconst 1, 1) := by decide +kernel
theorem dX7_minutes_8 : decode cX7_minutes 8 = .ok (.iadd, 1) := by decide +kernel
theorem dX7_minutes_9 : decode cX7_minutes 9 = .ok (.bipush 7, 2) := by decide +kernel
theorem dX7_minutes_11 : decode cX7_minutes 11 = .ok (.imul, 1) := by decide +kernel
theorem dX7_minutes_12 : decode cX7_minutes 12 = .ok (.istore_n 3, 1) := by decide +kernel
theorem dX7_minutes_13 : decode cX7_minutes 13 = .ok (.aload_n 0, 1) := by decide +kernel
theorem dX7_minutes_14 : decode cX7_minutes 14 = .ok (.iload_n 1, 1) := by decide +kernel
theorem dX7_minutes_15 : decode cX7_minutes 15 = .ok (.invokevirtual 183, 3) := by decide +kernel
theorem dX7_minutes_18 : decode cX7_minutes 18 = .ok (.ifCond .eq 13, 3) := by decide +kernel
theorem dX7_minutes_21 : decode cX7_minutes 21 = .ok (.iload_n 2, 1) := by decide +kernel
theorem dX7_minutes_22 : decode cX7_minutes 22 = .ok (.iconst (-1), 1) := by decide +kernel
theorem dX7_minutes_23 : decode cX7_minutes 23 = .ok (.if_icmp .lt 8, 3) := by decide +kernel
theorem dX7_minutes_26 : decode cX7_minutes 26 = .ok (.iload_n 2, 1) := by decide +kernel
theorem dX7_minutes_27 : decode cX7_minutes 27 = .ok (.iload_n 3, 1) := by decide +kernel
theorem dX7_minutes_28 : decode cX7_minutes 28 = .ok (.if_icmp .lt 5, 3) := by decide +kernel
theorem dX7_minutes_31 : decode cX7_minutes 31 = .ok (.iconst (-1), 1) := by decide +kernel
theorem dX7_minutes_32 : decode cX7_minutes 32 = .ok (.ireturn, 1) := by decide +kernel
theorem dX7_minutes_33 : decode cX7_minutes 33 = .ok (.iload_n 2, 1) := by decide +kernel
theorem dX7_minutes_34 : decode cX7_minutes 34 = .ok (.iconst (-1), 1) := by decide +kernel
theorem dX7_minutes_35 : decode cX7_minutes 35 = .ok (.if_icmp .ne 5, 3) := by decide +kernel
theorem dX7_minutes_38 : decode cX7_minutes 38 = .ok (.iload_n 3, 1) := by decide +kernel
theorem dX7_minutes_39 : decode cX7_minutes 39 = .ok (.ireturn, 1) := by decide +kernel
theorem dX7_minutes_40 : decode cX7_minutes 40 = .ok (.aload_n 0, 1) := by decide +kernel
theorem dX7_minutes_41 : decode cX7_minutes 41 = .ok (.getfield 53, 3) := by decide +kernel
theorem dX7_minutes_44 : decode cX7_minutes 44 = .ok (.iload_n 1, 1) := by decide +kernel
theorem dX7_minutes_45 : decode cX7_minutes 45 = .ok (.invokevirtual 189, 3) := by decide +kernel
theorem dX7_minutes_48 : decode cX7_minutes 48 = .ok (.aload_n 0, 1) := by decide +kernel
theorem dX7_minutes_49 : decode cX7_minutes 49 = .ok (.getfield 53, 3) := by decide +kernel
theorem dX7_minutes_52 : decode cX7_minutes 52 = .ok (.iload_n 2, 1) := by decide +kernel
theorem dX7_minutes_53 : decode cX7_minutes 53 = .ok (.bipush 7, 2) := by decide +kernel
theorem dX7_minutes_55 : decode cX7_minutes 55 = .ok (.idiv, 1) := by decide +kernel
theorem dX7_minutes_56 : decode cX7_minutes 56 = .ok (.iload_n 2, 1) := by decide +kernel
theorem dX7_minutes_57 : decode cX7_minutes 57 = .ok (.bipush 7, 2) := by decide +kernel
theorem dX7_minutes_59 : decode cX7_minutes 59 = .ok (.irem, 1) := by decide +kernel
theorem dX7_minutes_60 : decode cX7_minutes 60 = .ok (.invokevirtual 198, 3) := by decide +kernel
theorem dX7_minutes_63 : decode cX7_minutes 63 = .ok (.ireturn, 1) := by decide +kernel
theorem dX7_without_0 : decode cX7_without 0 = .ok (.aload_n 0, 1) := by decide +kernel
theorem dX7_without_1 : decode cX7_without 1 = .ok (.getfield 16, 3) := by decide +kernel
theorem dX7_without_4 : decode cX7_without 4 = .ok (.iload_n 1, 1) := by decide +kernel
theorem dX7_without_5 : decode cX7_without 5 = .ok (.invokevirtual 138, 3) := by decide +kernel
theorem dX7_without_8 : decode cX7_without 8 = .ok (.ifCond .eq 11, 3) := by decide +kernel
theorem dX7_without_11 : decode cX7_without 11 = .ok (.aload_n 0, 1) := by decide +kernel
theorem dX7_without_12 : decode cX7_without 12 = .ok (.iload_n 2, 1) := by decide +kernel
theorem dX7_without_13 : decode cX7_without 13 = .ok (.invokevirtual 183, 3) := by decide +kernel
theorem dX7_without_16 : decode cX7_without 16 = .ok (.ifCond .ne 5, 3) := by decide +kernel
theorem dX7_without_19 : decode cX7_without 19 = .ok (.iconst (-1), 1) := by decide +kernel
theorem dX7_without_20 : decode cX7_without 20 = .ok (.ireturn, 1) := by decide +kernel
theorem dX7_without_21 : decode cX7_without 21 = .ok (.aload_n 0, 1) := by decide +kernel
theorem dX7_without_22 : decode cX7_without 22 = .ok (.getfield 53, 3) := by decide +kernel
theorem dX7_without_25 : decode cX7_without 25 = .ok (.iload_n 2, 1) := by decide +kernel
theorem dX7_without_26 : decode cX7_without 26 = .ok (.aload_n 0, 1) := by decide +kernel
theorem dX7_without_27 : decode cX7_without 27 = .ok (.getfield 16, 3) := by decide +kernel
theorem dX7_without_30 : decode cX7_without 30 = .ok (.iload_n 1, 1) := by decide +kernel
theorem dX7_without_31 : decode cX7_without 31 = .ok (.invokevirtual 201, 3) := by decide +kernel
theorem dX7_without_34 : decode cX7_without 34 = .ok (.invokevirtual 186, 3) := by decide +kernel
theorem dX7_without_37 : decode cX7_without 37 = .ok (.ireturn, 1) := by decide +kernel
theorem dX7_killers_0 : decode cX7_killers 0 = .ok (.aload_n 0, 1) := by decide +kernel
theorem dX7_killers_1 : decode cX7_killers 1 = .ok (.iload_n 1, 1) := by decide +kernel
theorem dX7_killers_2 : decode cX7_killers 2 = .ok (.invokevirtual 183, 3) := by decide +kernel
theorem dX7_killers_5 : decode cX7_killers 5 = .ok (.ifCond .ne 5, 3) := by decide +kernel
theorem dX7_killers_8 : decode cX7_killers 8 = .ok (.iconst (-1), 1) := by decide +kernel
theorem dX7_killers_9 : decode cX7_killers 9 = .ok (.ireturn, 1) := by decide +kernel
theorem dX7_killers_10 : decode cX7_killers 10 = .ok (.iconst 0, 1) := by decide +kernel
theorem dX7_killers_11 : decode cX7_killers 11 = .ok (.istore_n 2, 1) := by decide +kernel
theorem dX7_killers_12 : decode cX7_killers 12 = .ok (.aload_n 0, 1) := by decide +kernel
theorem dX7_killers_13 : decode cX7_killers 13 = .ok (.getfield 53, 3) := by decide +kernel
theorem dX7_killers_16 : decode cX7_killers 16 = .ok (.iload_n 1, 1) := by decide +kernel
theorem dX7_killers_17 : decode cX7_killers 17 = .ok (.iconst 0, 1) := by decide +kernel
theorem dX7_killers_18 : decode cX7_killers 18 = .ok (.invokevirtual 186, 3) := by decide +kernel
theorem dX7_killers_21 : decode cX7_killers 21 = .ok (.ifCond .ne 47, 3) := by decide +kernel
theorem dX7_killers_24 : decode cX7_killers 24 = .ok (.iconst 0, 1) := by decide +kernel
theorem dX7_killers_25 : decode cX7_killers 25 = .ok (.istore_n 3, 1) := by decide +kernel
theorem dX7_killers_26 : decode cX7_killers 26 = .ok (.iload_n 3, 1) := by decide +kernel
theorem dX7_killers_27 : decode cX7_killers 27 = .ok (.aload_n 0, 1) := by decide +kernel
theorem dX7_killers_28 : decode cX7_killers 28 = .ok (.getfield 16, 3) := by decide +kernel
theorem dX7_killers_31 : decode cX7_killers 31 = .ok (.getfield 116, 3) := by decide +kernel
theorem dX7_killers_34 : decode cX7_killers 34 = .ok (.if_icmp .ge 34, 3) := by decide +kernel
theorem dX7_killers_37 : decode cX7_killers 37 = .ok (.aload_n 0, 1) := by decide +kernel
theorem dX7_killers_38 : decode cX7_killers 38 = .ok (.getfield 53, 3) := by decide +kernel
theorem dX7_killers_41 : decode cX7_killers 41 = .ok (.iload_n 1, 1) := by decide +kernel
theorem dX7_killers_42 : decode cX7_killers 42 = .ok (.aload_n 0, 1) := by decide +kernel
theorem dX7_killers_43 : decode cX7_killers 43 = .ok (.getfield 16, 3) := by decide +kernel
theorem dX7_killers_46 : decode cX7_killers 46 = .ok (.iload_n 3, 1) := by decide +kernel
theorem dX7_killers_47 : decode cX7_killers 47 = .ok (.invokevirtual 201, 3) := by decide +kernel
theorem dX7_killers_50 : decode cX7_killers 50 = .ok (.invokevirtual 186, 3) := by decide +kernel
theorem dX7_killers_53 : decode cX7_killers 53 = .ok (.ifCond .eq 9, 3) := by decide +kernel
theorem dX7_killers_56 : decode cX7_killers 56 = .ok (.iload_n 2, 1) := by decide +kernel
theorem dX7_killers_57 : decode cX7_killers 57 = .ok (.iconst 1, 1) := by decide +kernel
theorem dX7_killers_58 : decode cX7_killers 58 = .ok (.iload_n 3, 1) := by decide +kernel
theorem dX7_killers_59 : decode cX7_killers 59 = .ok (.ishl, 1) := by decide +kernel
theorem dX7_killers_60 : decode cX7_killers 60 = .ok (.ior, 1) := by decide +kernel
theorem dX7_killers_61 : decode cX7_killers 61 = .ok (.istore_n 2, 1) := by decide +kernel
theorem dX7_killers_62 : decode cX7_killers 62 = .ok (.iinc 3 1, 3) := by decide +kernel
theorem dX7_killers_65 : decode cX7_killers 65 = .ok (.goto (-39), 3) := by decide +kernel
theorem dX7_killers_68 : decode cX7_killers 68 = .ok (.iload_n 2, 1) := by decide +kernel
theorem dX7_killers_69 : decode cX7_killers 69 = .ok (.ireturn, 1) := by decide +kernel
theorem dX7_best_0 : decode cX7_best 0 = .ok (.aload_n 0, 1) := by decide +kernel
theorem dX7_best_1 : decode cX7_best 1 = .ok (.getfield 16, 3) := by decide +kernel
theorem dX7_best_4 : decode cX7_best 4 = .ok (.iload_n 1, 1) := by decide +kernel
theorem dX7_best_5 : decode cX7_best 5 = .ok (.invokevirtual 97, 3) := by decide +kernel
theorem dX7_best_8 : decode cX7_best 8 = .ok (.ifCond .eq 20, 3) := by decide +kernel
theorem dX7_best_11 : decode cX7_best 11 = .ok (.aload_n 0, 1) := by decide +kernel
theorem dX7_best_12 : decode cX7_best 12 = .ok (.iload_n 2, 1) := by decide +kernel
theorem dX7_best_13 : decode cX7_best 13 = .ok (.invokevirtual 183, 3) := by decide +kernel
theorem dX7_best_16 : decode cX7_best 16 = .ok (.ifCond .eq 12, 3) := by decide +kernel
theorem dX7_best_19 : decode cX7_best 19 = .ok (.iload_n 3, 1) := by decide +kernel
theorem dX7_best_20 : decode cX7_best 20 = .ok (.ifCond .lt 8, 3) := by decide +kernel
theorem dX7_best_23 : decode cX7_best 23 = .ok (.iload_n 3, 1) := by decide +kernel
theorem dX7_best_24 : decode cX7_best 24 = .ok (.iconst 2, 1) := by decide +kernel
theorem dX7_best_25 : decode cX7_best 25 = .ok (.if_icmp .le 5, 3) := by decide +kernel
theorem dX7_best_28 : decode cX7_best 28 = .ok (.iconst (-1), 1) := by decide +kernel
theorem dX7_best_29 : decode cX7_best 29 = .ok (.ireturn, 1) := by decide +kernel
theorem dX7_best_30 : decode cX7_best 30 = .ok (.aload_n 0, 1) := by decide +kernel
theorem dX7_best_31 : decode cX7_best 31 = .ok (.getfield 62, 3) := by decide +kernel
theorem dX7_best_34 : decode cX7_best 34 = .ok (.iload_n 1, 1) := by decide +kernel
theorem dX7_best_35 : decode cX7_best 35 = .ok (.iload_n 2, 1) := by decide +kernel
theorem dX7_best_36 : decode cX7_best 36 = .ok (.invokevirtual 204, 3) := by decide +kernel
theorem dX7_best_39 : decode cX7_best 39 = .ok (.iload_n 3, 1) := by decide +kernel
theorem dX7_best_40 : decode cX7_best 40 = .ok (.ifCond .ne 11, 3) := by decide +kernel
theorem dX7_best_43 : decode cX7_best 43 = .ok (.aload_n 0, 1) := by decide +kernel
theorem dX7_best_44 : decode cX7_best 44 = .ok (.getfield 62, 3) := by decide +kernel
theorem dX7_best_47 : decode cX7_best 47 = .ok (.getfield 208, 3) := by decide +kernel
theorem dX7_best_50 : decode cX7_best 50 = .ok (.ireturn, 1) := by decide +kernel
theorem dX7_best_51 : decode cX7_best 51 = .ok (.iload_n 3, 1) := by decide +kernel
theorem dX7_best_52 : decode cX7_best 52 = .ok (.iconst 1, 1) := by decide +kernel
theorem dX7_best_53 : decode cX7_best 53 = .ok (.if_icmp .ne 13, 3) := by decide +kernel
theorem dX7_best_56 : decode cX7_best 56 = .ok (.aload_n 0, 1) := by decide +kernel
theorem dX7_best_57 : decode cX7_best 57 = .ok (.getfield 62, 3) := by decide +kernel
theorem dX7_best_60 : decode cX7_best 60 = .ok (.invokevirtual 211, 3) := by decide +kernel
theorem dX7_best_63 : decode cX7_best 63 = .ok (.goto 10, 3) := by decide +kernel
theorem dX7_best_66 : decode cX7_best 66 = .ok (.aload_n 0, 1) := by decide +kernel
theorem dX7_best_67 : decode cX7_best 67 = .ok (.getfield 62, 3) := by decide +kernel
theorem dX7_best_70 : decode cX7_best 70 = .ok (.getfield 214, 3) := by decide +kernel
theorem dX7_best_73 : decode cX7_best 73 = .ok (.ireturn, 1) := by decide +kernel
theorem dX7_prefers_0 : decode cX7_prefers 0 = .ok (.iload_n 1, 1) := by decide +kernel
theorem dX7_prefers_1 : decode cX7_prefers 1 = .ok (.invokestatic 167, 3) := by decide +kernel
theorem dX7_prefers_4 : decode cX7_prefers 4 = .ok (.ifCond .eq 22, 3) := by decide +kernel
theorem dX7_prefers_7 : decode cX7_prefers 7 = .ok (.iload_n 2, 1) := by decide +kernel
theorem dX7_prefers_8 : decode cX7_prefers 8 = .ok (.invokestatic 167, 3) := by decide +kernel
theorem dX7_prefers_11 : decode cX7_prefers 11 = .ok (.ifCond .eq 15, 3) := by decide +kernel
theorem dX7_prefers_14 : decode cX7_prefers 14 = .ok (.aload_n 0, 1) := by decide +kernel
theorem dX7_prefers_15 : decode cX7_prefers 15 = .ok (.getfield 44, 3) := by decide +kernel
theorem dX7_prefers_18 : decode cX7_prefers 18 = .ok (.iload_n 1, 1) := by decide +kernel
theorem dX7_prefers_19 : decode cX7_prefers 19 = .ok (.iload_n 2, 1) := by decide +kernel
theorem dX7_prefers_20 : decode cX7_prefers 20 = .ok (.invokevirtual 217, 3) := by decide +kernel
theorem dX7_prefers_23 : decode cX7_prefers 23 = .ok (.goto 4, 3) := by decide +kernel
theorem dX7_prefers_26 : decode cX7_prefers 26 = .ok (.iconst (-1), 1) := by decide +kernel
theorem dX7_prefers_27 : decode cX7_prefers 27 = .ok (.ireturn, 1) := by decide +kernel
theorem dX7_open_0 : decode cX7_open 0 = .ok (.iload_n 1, 1) := by decide +kernel
theorem dX7_open_1 : decode cX7_open 1 = .ok (.ifCond .lt 26, 3) := by decide +kernel
theorem dX7_open_4 : decode cX7_open 4 = .ok (.iload_n 1, 1) := by decide +kernel
theorem dX7_open_5 : decode cX7_open 5 = .ok (.aload_n 0, 1) := by decide +kernel
theorem dX7_open_6 : decode cX7_open 6 = .ok (.getfield 69, 3) := by decide +kernel
theorem dX7_open_9 : decode cX7_open 9 = .ok (.getfield 135, 3) := by decide +kernel
theorem dX7_open_12 : decode cX7_open 12 = .ok (.if_icmp .ge 15, 3) := by decide +kernel
theorem dX7_open_15 : decode cX7_open 15 = .ok (.aload_n 0, 1) := by decide +kernel
theorem dX7_open_16 : decode cX7_open 16 = .ok (.getfield 69, 3) := by decide +kernel
theorem dX7_open_19 : decode cX7_open 19 = .ok (.getfield 220, 3) := by decide +kernel
theorem dX7_open_22 : decode cX7_open 22 = .ok (.iload_n 1, 1) := by decide +kernel
theorem dX7_open_23 : decode cX7_open 23 = .ok (.iaload, 1) := by decide +kernel
theorem dX7_open_24 : decode cX7_open 24 = .ok (.goto 4, 3) := by decide +kernel
theorem dX7_open_27 : decode cX7_open 27 = .ok (.iconst (-1), 1) := by decide +kernel
theorem dX7_open_28 : decode cX7_open 28 = .ok (.ireturn, 1) := by decide +kernel
theorem dX7_winner_0 : decode cX7_winner 0 = .ok (.aload_n 0, 1) := by decide +kernel
theorem dX7_winner_1 : decode cX7_winner 1 = .ok (.getfield 69, 3) := by decide +kernel
theorem dX7_winner_4 : decode cX7_winner 4 = .ok (.invokevirtual 223, 3) := by decide +kernel
theorem dX7_winner_7 : decode cX7_winner 7 = .ok (.aload_n 0, 1) := by decide +kernel
theorem dX7_winner_8 : decode cX7_winner 8 = .ok (.getfield 69, 3) := by decide +kernel
theorem dX7_winner_11 : decode cX7_winner 11 = .ok (.invokevirtual 226, 3) := by decide +kernel
theorem dX7_winner_14 : decode cX7_winner 14 = .ok (.ireturn, 1) := by decide +kernel
theorem dX7_standing_0 : decode cX7_standing 0 = .ok (.aload_n 0, 1) := by decide +kernel
theorem dX7_standing_1 : decode cX7_standing 1 = .ok (.getfield 69, 3) := by decide +kernel
theorem dX7_standing_4 : decode cX7_standing 4 = .ok (.iload_n 1, 1) := by decide +kernel
theorem dX7_standing_5 : decode cX7_standing 5 = .ok (.invokevirtual 229, 3) := by decide +kernel
theorem dX7_standing_8 : decode cX7_standing 8 = .ok (.istore_n 3, 1) := by decide +kernel
theorem dX7_standing_9 : decode cX7_standing 9 = .ok (.iload_n 3, 1) := by decide +kernel
theorem dX7_standing_10 : decode cX7_standing 10 = .ok (.iconst (-1), 1) := by decide +kernel
theorem dX7_standing_11 : decode cX7_standing 11 = .ok (.if_icmp .ne 5, 3) := by decide +kernel
theorem dX7_standing_14 : decode cX7_standing 14 = .ok (.iconst (-1), 1) := by decide +kernel
theorem dX7_standing_15 : decode cX7_standing 15 = .ok (.ireturn, 1) := by decide +kernel
theorem dX7_standing_16 : decode cX7_standing 16 = .ok (.aload_n 0, 1) := by decide +kernel
theorem dX7_standing_17 : decode cX7_standing 17 = .ok (.getfield 69, 3) := by decide +kernel
theorem dX7_standing_20 : decode cX7_standing 20 = .ok (.invokevirtual 223, 3) := by decide +kernel
theorem dX7_standing_23 : decode cX7_standing 23 = .ok (.iload_n 2, 1) := by decide +kernel
theorem dX7_standing_24 : decode cX7_standing 24 = .ok (.tableswitch 71 0 2 #[28, 45, 62], 28) := by decide +kernel
theorem dX7_standing_52 : decode cX7_standing 52 = .ok (.aload_n 0, 1) := by decide +kernel
theorem dX7_standing_53 : decode cX7_standing 53 = .ok (.getfield 69, 3) := by decide +kernel
theorem dX7_standing_56 : decode cX7_standing 56 = .ok (.iload_n 3, 1) := by decide +kernel
theorem dX7_standing_57 : decode cX7_standing 57 = .ok (.invokevirtual 232, 3) := by decide +kernel
theorem dX7_standing_60 : decode cX7_standing 60 = .ok (.ifCond .eq 7, 3) := by decide +kernel
theorem dX7_standing_63 : decode cX7_standing 63 = .ok (.iconst 1, 1) := by decide +kernel
theorem dX7_standing_64 : decode cX7_standing 64 = .ok (.goto 4, 3) := by decide +kernel
theorem dX7_standing_67 : decode cX7_standing 67 = .ok (.iconst 0, 1) := by decide +kernel
theorem dX7_standing_68 : decode cX7_standing 68 = .ok (.ireturn, 1) := by decide +kernel
theorem dX7_standing_69 : decode cX7_standing 69 = .ok (.aload_n 0, 1) := by decide +kernel
theorem dX7_standing_70 : decode cX7_standing 70 = .ok (.getfield 69, 3) := by decide +kernel
theorem dX7_standing_73 : decode cX7_standing 73 = .ok (.iload_n 3, 1) := by decide +kernel
theorem dX7_standing_74 : decode cX7_standing 74 = .ok (.invokevirtual 235, 3) := by decide +kernel
theorem dX7_standing_77 : decode cX7_standing 77 = .ok (.ifCond .eq 7, 3) := by decide +kernel
theorem dX7_standing_80 : decode cX7_standing 80 = .ok (.iconst 1, 1) := by decide +kernel
theorem dX7_standing_81 : decode cX7_standing 81 = .ok (.goto 4, 3) := by decide +kernel
theorem dX7_standing_84 : decode cX7_standing 84 = .ok (.iconst 0, 1) := by decide +kernel
theorem dX7_standing_85 : decode cX7_standing 85 = .ok (.ireturn, 1) := by decide +kernel
theorem dX7_standing_86 : decode cX7_standing 86 = .ok (.aload_n 0, 1) := by decide +kernel
theorem dX7_standing_87 : decode cX7_standing 87 = .ok (.getfield 69, 3) := by decide +kernel
theorem dX7_standing_90 : decode cX7_standing 90 = .ok (.iload_n 3, 1) := by decide +kernel
theorem dX7_standing_91 : decode cX7_standing 91 = .ok (.invokevirtual 238, 3) := by decide +kernel
theorem dX7_standing_94 : decode cX7_standing 94 = .ok (.ireturn, 1) := by decide +kernel
theorem dX7_standing_95 : decode cX7_standing 95 = .ok (.iconst (-1), 1) := by decide +kernel
theorem dX7_standing_96 : decode cX7_standing 96 = .ok (.ireturn, 1) := by decide +kernel
theorem dX7_takeTold_0 : decode cX7_takeTold 0 = .ok (.aload_n 0, 1) := by decide +kernel
theorem dX7_takeTold_1 : decode cX7_takeTold 1 = .ok (.getfield 37, 3) := by decide +kernel
theorem dX7_takeTold_4 : decode cX7_takeTold 4 = .ok (.invokevirtual 241, 3) := by decide +kernel
theorem dX7_takeTold_7 : decode cX7_takeTold 7 = .ok (.aload_n 0, 1) := by decide +kernel
theorem dX7_takeTold_8 : decode cX7_takeTold 8 = .ok (.getfield 44, 3) := by decide +kernel
theorem dX7_takeTold_11 : decode cX7_takeTold 11 = .ok (.invokevirtual 244, 3) := by decide +kernel
theorem dX7_takeTold_14 : decode cX7_takeTold 14 = .ok (.aload_n 0, 1) := by decide +kernel
theorem dX7_takeTold_15 : decode cX7_takeTold 15 = .ok (.getfield 53, 3) := by decide +kernel
theorem dX7_takeTold_18 : decode cX7_takeTold 18 = .ok (.invokevirtual 247, 3) := by decide +kernel
theorem dX7_takeTold_21 : decode cX7_takeTold 21 = .ok (.aload_n 0, 1) := by decide +kernel
theorem dX7_takeTold_22 : decode cX7_takeTold 22 = .ok (.getfield 69, 3) := by decide +kernel
theorem dX7_takeTold_25 : decode cX7_takeTold 25 = .ok (.invokevirtual 250, 3) := by decide +kernel
theorem dX7_takeTold_28 : decode cX7_takeTold 28 = .ok (.return_, 1) := by decide +kernel
theorem dX7_putBytes_0 : decode cX7_putBytes 0 = .ok (.bipush 24, 2) := by decide +kernel
theorem dX7_putBytes_2 : decode cX7_putBytes 2 = .ok (.istore_n 2, 1) := by decide +kernel
theorem dX7_putBytes_3 : decode cX7_putBytes 3 = .ok (.iload_n 2, 1) := by decide +kernel
theorem dX7_putBytes_4 : decode cX7_putBytes 4 = .ok (.ifCond .lt 45, 3) := by decide +kernel
theorem dX7_putBytes_7 : decode cX7_putBytes 7 = .ok (.aload_n 0, 1) := by decide +kernel
theorem dX7_putBytes_8 : decode cX7_putBytes 8 = .ok (.getfield 76, 3) := by decide +kernel
theorem dX7_putBytes_11 : decode cX7_putBytes 11 = .ok (.sipush 400, 3) := by decide +kernel
theorem dX7_putBytes_14 : decode cX7_putBytes 14 = .ok (.if_icmp .ge 35, 3) := by decide +kernel
theorem dX7_putBytes_17 : decode cX7_putBytes 17 = .ok (.aload_n 0, 1) := by decide +kernel
theorem dX7_putBytes_18 : decode cX7_putBytes 18 = .ok (.getfield 9, 3) := by decide +kernel
theorem dX7_putBytes_21 : decode cX7_putBytes 21 = .ok (.aload_n 0, 1) := by decide +kernel
theorem dX7_putBytes_22 : decode cX7_putBytes 22 = .ok (.getfield 76, 3) := by decide +kernel
theorem dX7_putBytes_25 : decode cX7_putBytes 25 = .ok (.iload_n 1, 1) := by decide +kernel
theorem dX7_putBytes_26 : decode cX7_putBytes 26 = .ok (.iload_n 2, 1) := by decide +kernel
theorem dX7_putBytes_27 : decode cX7_putBytes 27 = .ok (.iushr, 1) := by decide +kernel
theorem dX7_putBytes_28 : decode cX7_putBytes 28 = .ok (.sipush 255, 3) := by decide +kernel
theorem dX7_putBytes_31 : decode cX7_putBytes 31 = .ok (.iand, 1) := by decide +kernel
theorem dX7_putBytes_32 : decode cX7_putBytes 32 = .ok (.iastore, 1) := by decide +kernel
theorem dX7_putBytes_33 : decode cX7_putBytes 33 = .ok (.aload_n 0, 1) := by decide +kernel
theorem dX7_putBytes_34 : decode cX7_putBytes 34 = .ok (.dup, 1) := by decide +kernel
theorem dX7_putBytes_35 : decode cX7_putBytes 35 = .ok (.getfield 76, 3) := by decide +kernel
theorem dX7_putBytes_38 : decode cX7_putBytes 38 = .ok (.iconst 1, 1) := by decide +kernel
theorem dX7_putBytes_39 : decode cX7_putBytes 39 = .ok (.iadd, 1) := by decide +kernel
theorem dX7_putBytes_40 : decode cX7_putBytes 40 = .ok (.putfield 76, 3) := by decide +kernel
theorem dX7_putBytes_43 : decode cX7_putBytes 43 = .ok (.iinc 2 (-8), 3) := by decide +kernel
theorem dX7_putBytes_46 : decode cX7_putBytes 46 = .ok (.goto (-43), 3) := by decide +kernel
theorem dX7_putBytes_49 : decode cX7_putBytes 49 = .ok (.return_, 1) := by decide +kernel
theorem dX7_areVoters_0 : decode cX7_areVoters 0 = .ok (.iload_n 1, 1) := by decide +kernel
theorem dX7_areVoters_1 : decode cX7_areVoters 1 = .ok (.aload_n 0, 1) := by decide +kernel
theorem dX7_areVoters_2 : decode cX7_areVoters 2 = .ok (.getfield 16, 3) := by decide +kernel
theorem dX7_areVoters_5 : decode cX7_areVoters 5 = .ok (.getfield 119, 3) := by decide +kernel
theorem dX7_areVoters_8 : decode cX7_areVoters 8 = .ok (.invokestatic 176, 3) := by decide +kernel
theorem dX7_areVoters_11 : decode cX7_areVoters 11 = .ok (.ireturn, 1) := by decide +kernel
theorem dX7_isClause_0 : decode cX7_isClause 0 = .ok (.iload_n 0, 1) := by decide +kernel
theorem dX7_isClause_1 : decode cX7_isClause 1 = .ok (.ifCond .lt 13, 3) := by decide +kernel
theorem dX7_isClause_4 : decode cX7_isClause 4 = .ok (.iload_n 0, 1) := by decide +kernel
theorem dX7_isClause_5 : decode cX7_isClause 5 = .ok (.bipush 8, 2) := by decide +kernel
theorem dX7_isClause_7 : decode cX7_isClause 7 = .ok (.if_icmp .ge 7, 3) := by decide +kernel
theorem dX7_isClause_10 : decode cX7_isClause 10 = .ok (.iconst 1, 1) := by decide +kernel
theorem dX7_isClause_11 : decode cX7_isClause 11 = .ok (.goto 4, 3) := by decide +kernel
theorem dX7_isClause_14 : decode cX7_isClause 14 = .ok (.iconst 0, 1) := by decide +kernel
theorem dX7_isClause_15 : decode cX7_isClause 15 = .ok (.ireturn, 1) := by decide +kernel
theorem dX7_isForm_0 : decode cX7_isForm 0 = .ok (.iload_n 0, 1) := by decide +kernel
theorem dX7_isForm_1 : decode cX7_isForm 1 = .ok (.ifCond .lt 14, 3) := by decide +kernel
theorem dX7_isForm_4 : decode cX7_isForm 4 = .ok (.iload_n 0, 1) := by decide +kernel
theorem dX7_isForm_5 : decode cX7_isForm 5 = .ok (.sipush 256, 3) := by decide +kernel
theorem dX7_isForm_8 : decode cX7_isForm 8 = .ok (.if_icmp .ge 7, 3) := by decide +kernel
theorem dX7_isForm_11 : decode cX7_isForm 11 = .ok (.iconst 1, 1) := by decide +kernel
theorem dX7_isForm_12 : decode cX7_isForm 12 = .ok (.goto 4, 3) := by decide +kernel
theorem dX7_isForm_15 : decode cX7_isForm 15 = .ok (.iconst 0, 1) := by decide +kernel
theorem dX7_isForm_16 : decode cX7_isForm 16 = .ok (.ireturn, 1) := by decide +kernel
theorem dX7_isSubset_0 : decode cX7_isSubset 0 = .ok (.iload_n 0, 1) := by decide +kernel
theorem dX7_isSubset_1 : decode cX7_isSubset 1 = .ok (.ifCond .lt 14, 3) := by decide +kernel
theorem dX7_isSubset_4 : decode cX7_isSubset 4 = .ok (.iload_n 0, 1) := by decide +kernel
theorem dX7_isSubset_5 : decode cX7_isSubset 5 = .ok (.iconst 1, 1) := by decide +kernel
theorem dX7_isSubset_6 : decode cX7_isSubset 6 = .ok (.iload_n 1, 1) := by decide +kernel
theorem dX7_isSubset_7 : decode cX7_isSubset 7 = .ok (.ishl, 1) := by decide +kernel
theorem dX7_isSubset_8 : decode cX7_isSubset 8 = .ok (.if_icmp .ge 7, 3) := by decide +kernel
theorem dX7_isSubset_11 : decode cX7_isSubset 11 = .ok (.iconst 1, 1) := by decide +kernel
theorem dX7_isSubset_12 : decode cX7_isSubset 12 = .ok (.goto 4, 3) := by decide +kernel
theorem dX7_isSubset_15 : decode cX7_isSubset 15 = .ok (.iconst 0, 1) := by decide +kernel
theorem dX7_isSubset_16 : decode cX7_isSubset 16 = .ok (.ireturn, 1) := by decide +kernel
theorem dX7_isIn_0 : decode cX7_isIn 0 = .ok (.iload_n 1, 1) := by decide +kernel
theorem dX7_isIn_1 : decode cX7_isIn 1 = .ok (.iload_n 0, 1) := by decide +kernel
theorem dX7_isIn_2 : decode cX7_isIn 2 = .ok (.ishr, 1) := by decide +kernel
theorem dX7_isIn_3 : decode cX7_isIn 3 = .ok (.iconst 1, 1) := by decide +kernel
theorem dX7_isIn_4 : decode cX7_isIn 4 = .ok (.iand, 1) := by decide +kernel
theorem dX7_isIn_5 : decode cX7_isIn 5 = .ok (.iconst 1, 1) := by decide +kernel
theorem dX7_isIn_6 : decode cX7_isIn 6 = .ok (.if_icmp .ne 7, 3) := by decide +kernel
theorem dX7_isIn_9 : decode cX7_isIn 9 = .ok (.iconst 1, 1) := by decide +kernel
theorem dX7_isIn_10 : decode cX7_isIn 10 = .ok (.goto 4, 3) := by decide +kernel
theorem dX7_isIn_13 : decode cX7_isIn 13 = .ok (.iconst 0, 1) := by decide +kernel
theorem dX7_isIn_14 : decode cX7_isIn 14 = .ok (.ireturn, 1) := by decide +kernel
theorem dX3_init_0 : decode cX3_init 0 = .ok (.aload_n 0, 1) := by decide +kernel
theorem dX3_init_1 : decode cX3_init 1 = .ok (.invokespecial 3, 3) := by decide +kernel
theorem dX3_init_4 : decode cX3_init 4 = .ok (.aload_n 0, 1) := by decide +kernel
theorem dX3_init_5 : decode cX3_init 5 = .ok (.aload_n 1, 1) := by decide +kernel
theorem dX3_init_6 : decode cX3_init 6 = .ok (.putfield 9, 3) := by decide +kernel
theorem dX3_init_9 : decode cX3_init 9 = .ok (.aload_n 0, 1) := by decide +kernel
theorem dX3_init_10 : decode cX3_init 10 = .ok (.aload_n 2, 1) := by decide +kernel
theorem dX3_init_11 : decode cX3_init 11 = .ok (.putfield 15, 3) := by decide +kernel
theorem dX3_init_14 : decode cX3_init 14 = .ok (.return_, 1) := by decide +kernel
theorem dX3_readText_0 : decode cX3_readText 0 = .ok (.aload_n 0, 1) := by decide +kernel
theorem dX3_readText_1 : decode cX3_readText 1 = .ok (.iconst 0, 1) := by decide +kernel
theorem dX3_readText_2 : decode cX3_readText 2 = .ok (.iload_n 1, 1) := by decide +kernel
theorem dX3_readText_3 : decode cX3_readText 3 = .ok (.aload_n 0, 1) := by decide +kernel
theorem dX3_readText_4 : decode cX3_readText 4 = .ok (.getfield 9, 3) := by decide +kernel
theorem dX3_readText_7 : decode cX3_readText 7 = .ok (.arraylength, 1) := by decide +kernel
theorem dX3_readText_8 : decode cX3_readText 8 = .ok (.invokestatic 19, 3) := by decide +kernel
theorem dX3_readText_11 : decode cX3_readText 11 = .ok (.invokestatic 25, 3) := by decide +kernel
theorem dX3_readText_14 : decode cX3_readText 14 = .ok (.putfield 28, 3) := by decide +kernel
theorem dX3_readText_17 : decode cX3_readText 17 = .ok (.aload_n 0, 1) := by decide +kernel
theorem dX3_readText_18 : decode cX3_readText 18 = .ok (.getfield 15, 3) := by decide +kernel
theorem dX3_readText_21 : decode cX3_readText 21 = .ok (.invokevirtual 32, 3) := by decide +kernel
theorem dX3_readText_24 : decode cX3_readText 24 = .ok (.aload_n 0, 1) := by decide +kernel
theorem dX3_readText_25 : decode cX3_readText 25 = .ok (.iconst 0, 1) := by decide +kernel
theorem dX3_readText_26 : decode cX3_readText 26 = .ok (.putfield 37, 3) := by decide +kernel
theorem dX3_readText_29 : decode cX3_readText 29 = .ok (.aload_n 0, 1) := by decide +kernel
theorem dX3_readText_30 : decode cX3_readText 30 = .ok (.iconst 0, 1) := by decide +kernel
theorem dX3_readText_31 : decode cX3_readText 31 = .ok (.putfield 41, 3) := by decide +kernel
theorem dX3_readText_34 : decode cX3_readText 34 = .ok (.aload_n 0, 1) := by decide +kernel
theorem dX3_readText_35 : decode cX3_readText 35 = .ok (.iconst 0, 1) := by decide +kernel
theorem dX3_readText_36 : decode cX3_readText 36 = .ok (.putfield 44, 3) := by decide +kernel
theorem dX3_readText_39 : decode cX3_readText 39 = .ok (.aload_n 0, 1) := by decide +kernel
theorem dX3_readText_40 : decode cX3_readText 40 = .ok (.invokevirtual 47, 3) := by decide +kernel
theorem dX3_readText_43 : decode cX3_readText 43 = .ok (.iconst 0, 1) := by decide +kernel
theorem dX3_readText_44 : decode cX3_readText 44 = .ok (.istore_n 2, 1) := by decide +kernel
theorem dX3_readText_45 : decode cX3_readText 45 = .ok (.iload_n 2, 1) := by decide +kernel
theorem dX3_readText_46 : decode cX3_readText 46 = .ok (.aload_n 0, 1) := by decide +kernel
theorem dX3_readText_47 : decode cX3_readText 47 = .ok (.getfield 28, 3) := by decide +kernel
theorem dX3_readText_50 : decode cX3_readText 50 = .ok (.if_icmp .gt 27, 3) := by decide +kernel
theorem dX3_readText_53 : decode cX3_readText 53 = .ok (.aload_n 0, 1) := by decide +kernel
theorem dX3_readText_54 : decode cX3_readText 54 = .ok (.getfield 50, 3) := by decide +kernel
theorem dX3_readText_57 : decode cX3_readText 57 = .ok (.ifCond .ne 5, 3) := by decide +kernel
theorem dX3_readText_60 : decode cX3_readText 60 = .ok (.iload_n 2, 1) := by decide +kernel
theorem dX3_readText_61 : decode cX3_readText 61 = .ok (.ireturn, 1) := by decide +kernel
theorem dX3_readText_62 : decode cX3_readText 62 = .ok (.aload_n 0, 1) := by decide +kernel
theorem dX3_readText_63 : decode cX3_readText 63 = .ok (.invokevirtual 53, 3) := by decide +kernel
theorem dX3_readText_66 : decode cX3_readText 66 = .ok (.ifCond .ne 5, 3) := by decide +kernel
theorem dX3_readText_69 : decode cX3_readText 69 = .ok (.iconst (-1), 1) := by decide +kernel
theorem dX3_readText_70 : decode cX3_readText 70 = .ok (.ireturn, 1) := by decide +kernel
theorem dX3_readText_71 : decode cX3_readText 71 = .ok (.iinc 2 1, 3) := by decide +kernel
theorem dX3_readText_74 : decode cX3_readText 74 = .ok (.goto (-29), 3) := by decide +kernel
theorem dX3_readText_77 : decode cX3_readText 77 = .ok (.iconst (-1), 1) := by decide +kernel
theorem dX3_readText_78 : decode cX3_readText 78 = .ok (.ireturn, 1) := by decide +kernel
theorem dX3_statement_0 : decode cX3_statement 0 = .ok (.aload_n 0, 1) := by decide +kernel
theorem dX3_statement_1 : decode cX3_statement 1 = .ok (.ldc 57, 2) := by decide +kernel
theorem dX3_statement_3 : decode cX3_statement 3 = .ok (.invokevirtual 59, 3) := by decide +kernel
theorem dX3_statement_6 : decode cX3_statement 6 = .ok (.ifCond .eq 11, 3) := by decide +kernel
theorem dX3_statement_9 : decode cX3_statement 9 = .ok (.aload_n 0, 1) := by decide +kernel
theorem dX3_statement_10 : decode cX3_statement 10 = .ok (.invokevirtual 63, 3) := by decide +kernel
theorem dX3_statement_13 : decode cX3_statement 13 = .ok (.istore_n 1, 1) := by decide +kernel
theorem dX3_statement_14 : decode cX3_statement 14 = .ok (.goto 94, 3) := by decide +kernel
theorem dX3_statement_17 : decode cX3_statement 17 = .ok (.aload_n 0, 1) := by decide +kernel
theorem dX3_statement_18 : decode cX3_statement 18 = .ok (.ldc 65, 2) := by decide +kernel
theorem dX3_statement_20 : decode cX3_statement 20 = .ok (.invokevirtual 59, 3) := by decide +kernel
theorem dX3_statement_23 : decode cX3_statement 23 = .ok (.ifCond .eq 11, 3) := by decide +kernel
theorem dX3_statement_26 : decode cX3_statement 26 = .ok (.aload_n 0, 1) := by decide +kernel
theorem dX3_statement_27 : decode cX3_statement 27 = .ok (.invokevirtual 67, 3) := by decide +kernel
theorem dX3_statement_30 : decode cX3_statement 30 = .ok (.istore_n 1, 1) := by decide +kernel
theorem dX3_statement_31 : decode cX3_statement 31 = .ok (.goto 77, 3) := by decide +kernel
theorem dX3_statement_34 : decode cX3_statement 34 = .ok (.aload_n 0, 1) := by decide +kernel
theorem dX3_statement_35 : decode cX3_statement 35 = .ok (.ldc 70, 2) := by decide +kernel
theorem dX3_statement_37 : decode cX3_statement 37 = .ok (.invokevirtual 59, 3) := by decide +kernel
theorem dX3_statement_40 : decode cX3_statement 40 = .ok (.ifCond .eq 11, 3) := by decide +kernel
theorem dX3_statement_43 : decode cX3_statement 43 = .ok (.aload_n 0, 1) := by decide +kernel
theorem dX3_statement_44 : decode cX3_statement 44 = .ok (.invokevirtual 72, 3) := by decide +kernel
theorem dX3_statement_47 : decode cX3_statement 47 = .ok (.istore_n 1, 1) := by decide +kernel
theorem dX3_statement_48 : decode cX3_statement 48 = .ok (.goto 60, 3) := by decide +kernel
theorem dX3_statement_51 : decode cX3_statement 51 = .ok (.aload_n 0, 1) := by decide +kernel
theorem dX3_statement_52 : decode cX3_statement 52 = .ok (.ldc 75, 2) := by decide +kernel
theorem dX3_statement_54 : decode cX3_statement 54 = .ok (.invokevirtual 59, 3) := by decide +kernel
theorem dX3_statement_57 : decode cX3_statement 57 = .ok (.ifCond .eq 11, 3) := by decide +kernel
theorem dX3_statement_60 : decode cX3_statement 60 = .ok (.aload_n 0, 1) := by decide +kernel
theorem dX3_statement_61 : decode cX3_statement 61 = .ok (.invokevirtual 77, 3) := by decide +kernel
theorem dX3_statement_64 : decode cX3_statement 64 = .ok (.istore_n 1, 1) := by decide +kernel
theorem dX3_statement_65 : decode cX3_statement 65 = .ok (.goto 43, 3) := by decide +kernel
theorem dX3_statement_68 : decode cX3_statement 68 = .ok (.aload_n 0, 1) := by decide +kernel
theorem dX3_statement_69 : decode cX3_statement 69 = .ok (.ldc 79, 2) := by decide +kernel
theorem dX3_statement_71 : decode cX3_statement 71 = .ok (.invokevirtual 59, 3) := by decide +kernel
theorem dX3_statement_74 : decode cX3_statement 74 = .ok (.ifCond .eq 11, 3) := by decide +kernel
theorem dX3_statement_77 : decode cX3_statement 77 = .ok (.aload_n 0, 1) := by decide +kernel
theorem dX3_statement_78 : decode cX3_statement 78 = .ok (.invokevirtual 81, 3) := by decide +kernel
theorem dX3_statement_81 : decode cX3_statement 81 = .ok (.istore_n 1, 1) := by decide +kernel
theorem dX3_statement_82 : decode cX3_statement 82 = .ok (.goto 26, 3) := by decide +kernel
theorem dX3_statement_85 : decode cX3_statement 85 = .ok (.aload_n 0, 1) := by decide +kernel
theorem dX3_statement_86 : decode cX3_statement 86 = .ok (.ldc 83, 2) := by decide +kernel
theorem dX3_statement_88 : decode cX3_statement 88 = .ok (.invokevirtual 59, 3) := by decide +kernel
theorem dX3_statement_91 : decode cX3_statement 91 = .ok (.ifCond .eq 11, 3) := by decide +kernel
theorem dX3_statement_94 : decode cX3_statement 94 = .ok (.aload_n 0, 1) := by decide +kernel
theorem dX3_statement_95 : decode cX3_statement 95 = .ok (.invokevirtual 85, 3) := by decide +kernel
theorem dX3_statement_98 : decode cX3_statement 98 = .ok (.istore_n 1, 1) := by decide +kernel
theorem dX3_statement_99 : decode cX3_statement 99 = .ok (.goto 9, 3) := by decide +kernel
theorem dX3_statement_102 : decode cX3_statement 102 = .ok (.aload_n 0, 1) := by decide +kernel
theorem dX3_statement_103 : decode cX3_statement 103 = .ok (.iconst 1, 1) := by decide +kernel
theorem dX3_statement_104 : decode cX3_statement 104 = .ok (.invokevirtual 87, 3) := by decide +kernel
theorem dX3_statement_107 : decode cX3_statement 107 = .ok (.istore_n 1, 1) := by decide +kernel
theorem dX3_statement_108 : decode cX3_statement 108 = .ok (.iload_n 1, 1) := by decide +kernel
theorem dX3_statement_109 : decode cX3_statement 109 = .ok (.ifCond .eq 14, 3) := by decide +kernel
theorem dX3_statement_112 : decode cX3_statement 112 = .ok (.aload_n 0, 1) := by decide +kernel
theorem dX3_statement_113 : decode cX3_statement 113 = .ok (.invokevirtual 91, 3) := by decide +kernel
theorem dX3_statement_116 : decode cX3_statement 116 = .ok (.ifCond .eq 7, 3) := by decide +kernel
theorem dX3_statement_119 : decode cX3_statement 119 = .ok (.iconst 1, 1) := by decide +kernel
theorem dX3_statement_120 : decode cX3_statement 120 = .ok (.goto 4, 3) := by decide +kernel
theorem dX3_statement_123 : decode cX3_statement 123 = .ok (.iconst 0, 1) := by decide +kernel
theorem dX3_statement_124 : decode cX3_statement 124 = .ok (.ireturn, 1) := by decide +kernel
theorem dX3_semicolon_0 : decode cX3_semicolon 0 = .ok (.aload_n 0, 1) := by decide +kernel
theorem dX3_semicolon_1 : decode cX3_semicolon 1 = .ok (.bipush 59, 2) := by decide +kernel
theorem dX3_semicolon_3 : decode cX3_semicolon 3 = .ok (.invokevirtual 94, 3) := by decide +kernel
theorem dX3_semicolon_6 : decode cX3_semicolon 6 = .ok (.ifCond .ne 9, 3) := by decide +kernel
theorem dX3_semicolon_9 : decode cX3_semicolon 9 = .ok (.aload_n 0, 1) := by decide +kernel
theorem dX3_semicolon_10 : decode cX3_semicolon 10 = .ok (.iconst 1, 1) := by decide +kernel
theorem dX3_semicolon_11 : decode cX3_semicolon 11 = .ok (.invokevirtual 87, 3) := by decide +kernel
theorem dX3_semicolon_14 : decode cX3_semicolon 14 = .ok (.ireturn, 1) := by decide +kernel
theorem dX3_semicolon_15 : decode cX3_semicolon 15 = .ok (.aload_n 0, 1) := by decide +kernel
theorem dX3_semicolon_16 : decode cX3_semicolon 16 = .ok (.invokevirtual 47, 3) := by decide +kernel
theorem dX3_semicolon_19 : decode cX3_semicolon 19 = .ok (.iconst 1, 1) := by decide +kernel
theorem dX3_semicolon_20 : decode cX3_semicolon 20 = .ok (.ireturn, 1) := by decide +kernel
theorem dX3_bill_0 : decode cX3_bill 0 = .ok (.aload_n 0, 1) := by decide +kernel
theorem dX3_bill_1 : decode cX3_bill 1 = .ok (.getfield 37, 3) := by decide +kernel
theorem dX3_bill_4 : decode cX3_bill 4 = .ok (.ifCond .eq 9, 3) := by decide +kernel
theorem dX3_bill_7 : decode cX3_bill 7 = .ok (.aload_n 0, 1) := by decide +kernel
theorem dX3_bill_8 : decode cX3_bill 8 = .ok (.iconst 3, 1) := by decide +kernel
theorem dX3_bill_9 : decode cX3_bill 9 = .ok (.invokevirtual 87, 3) := by decide +kernel
theorem dX3_bill_12 : decode cX3_bill 12 = .ok (.ireturn, 1) := by decide +kernel
theorem dX3_bill_13 : decode cX3_bill 13 = .ok (.aload_n 0, 1) := by decide +kernel
theorem dX3_bill_14 : decode cX3_bill 14 = .ok (.invokevirtual 47, 3) := by decide +kernel
theorem dX3_bill_17 : decode cX3_bill 17 = .ok (.aload_n 0, 1) := by decide +kernel
theorem dX3_bill_18 : decode cX3_bill 18 = .ok (.iconst 1, 1) := by decide +kernel
theorem dX3_bill_19 : decode cX3_bill 19 = .ok (.invokevirtual 98, 3) := by decide +kernel
theorem dX3_bill_22 : decode cX3_bill 22 = .ok (.ifCond .ne 5, 3) := by decide +kernel
theorem dX3_bill_25 : decode cX3_bill 25 = .ok (.iconst 0, 1) := by decide +kernel
theorem dX3_bill_26 : decode cX3_bill 26 = .ok (.ireturn, 1) := by decide +kernel
theorem dX3_bill_27 : decode cX3_bill 27 = .ok (.aload_n 0, 1) := by decide +kernel
theorem dX3_bill_28 : decode cX3_bill 28 = .ok (.iconst 1, 1) := by decide +kernel
theorem dX3_bill_29 : decode cX3_bill 29 = .ok (.putfield 37, 3) := by decide +kernel
theorem dX3_bill_32 : decode cX3_bill 32 = .ok (.aload_n 0, 1) := by decide +kernel
theorem dX3_bill_33 : decode cX3_bill 33 = .ok (.getfield 15, 3) := by decide +kernel
theorem dX3_bill_36 : decode cX3_bill 36 = .ok (.aload_n 0, 1) := by decide +kernel
theorem dX3_bill_37 : decode cX3_bill 37 = .ok (.getfield 101, 3) := by decide +kernel
theorem dX3_bill_40 : decode cX3_bill 40 = .ok (.putfield 104, 3) := by decide +kernel
theorem dX3_bill_43 : decode cX3_bill 43 = .ok (.iconst 1, 1) := by decide +kernel
theorem dX3_bill_44 : decode cX3_bill 44 = .ok (.ireturn, 1) := by decide +kernel
theorem dX3_amendment_0 : decode cX3_amendment 0 = .ok (.aload_n 0, 1) := by decide +kernel
theorem dX3_amendment_1 : decode cX3_amendment 1 = .ok (.getfield 15, 3) := by decide +kernel
theorem dX3_amendment_4 : decode cX3_amendment 4 = .ok (.getfield 106, 3) := by decide +kernel
theorem dX3_amendment_7 : decode cX3_amendment 7 = .ok (.bipush 6, 2) := by decide +kernel
theorem dX3_amendment_9 : decode cX3_amendment 9 = .ok (.if_icmp .lt 9, 3) := by decide +kernel
theorem dX3_amendment_12 : decode cX3_amendment 12 = .ok (.aload_n 0, 1) := by decide +kernel
theorem dX3_amendment_13 : decode cX3_amendment 13 = .ok (.iconst 4, 1) := by decide +kernel
theorem dX3_amendment_14 : decode cX3_amendment 14 = .ok (.invokevirtual 87, 3) := by decide +kernel
theorem dX3_amendment_17 : decode cX3_amendment 17 = .ok (.ireturn, 1) := by decide +kernel
theorem dX3_amendment_18 : decode cX3_amendment 18 = .ok (.aload_n 0, 1) := by decide +kernel
theorem dX3_amendment_19 : decode cX3_amendment 19 = .ok (.invokevirtual 47, 3) := by decide +kernel
theorem dX3_amendment_22 : decode cX3_amendment 22 = .ok (.aload_n 0, 1) := by decide +kernel
theorem dX3_amendment_23 : decode cX3_amendment 23 = .ok (.invokevirtual 109, 3) := by decide +kernel
theorem dX3_amendment_26 : decode cX3_amendment 26 = .ok (.ifCond .ne 5, 3) := by decide +kernel
theorem dX3_amendment_29 : decode cX3_amendment 29 = .ok (.iconst 0, 1) := by decide +kernel
theorem dX3_amendment_30 : decode cX3_amendment 30 = .ok (.ireturn, 1) := by decide +kernel
theorem dX3_amendment_31 : decode cX3_amendment 31 = .ok (.aload_n 0, 1) := by decide +kernel
theorem dX3_amendment_32 : decode cX3_amendment 32 = .ok (.bipush 43, 2) := by decide +kernel
theorem dX3_amendment_34 : decode cX3_amendment 34 = .ok (.invokevirtual 94, 3) := by decide +kernel
theorem dX3_amendment_37 : decode cX3_amendment 37 = .ok (.ifCond .ne 18, 3) := by decide +kernel
theorem dX3_amendment_40 : decode cX3_amendment 40 = .ok (.aload_n 0, 1) := by decide +kernel
theorem dX3_amendment_41 : decode cX3_amendment 41 = .ok (.bipush 45, 2) := by decide +kernel
theorem dX3_amendment_43 : decode cX3_amendment 43 = .ok (.invokevirtual 94, 3) := by decide +kernel
theorem dX3_amendment_46 : decode cX3_amendment 46 = .ok (.ifCond .ne 9, 3) := by decide +kernel
theorem dX3_amendment_49 : decode cX3_amendment 49 = .ok (.aload_n 0, 1) := by decide +kernel
theorem dX3_amendment_50 : decode cX3_amendment 50 = .ok (.iconst 1, 1) := by decide +kernel
theorem dX3_amendment_51 : decode cX3_amendment 51 = .ok (.invokevirtual 87, 3) := by decide +kernel
theorem dX3_amendment_54 : decode cX3_amendment 54 = .ok (.ireturn, 1) := by decide +kernel
theorem dX3_amendment_55 : decode cX3_amendment 55 = .ok (.iconst 0, 1) := by decide +kernel
theorem dX3_amendment_56 : decode cX3_amendment 56 = .ok (.istore_n 1, 1) := by decide +kernel
theorem dX3_amendment_57 : decode cX3_amendment 57 = .ok (.aload_n 0, 1) := by decide +kernel
theorem dX3_amendment_58 : decode cX3_amendment 58 = .ok (.bipush 43, 2) := by decide +kernel
theorem dX3_amendment_60 : decode cX3_amendment 60 = .ok (.invokevirtual 94, 3) := by decide +kernel
theorem dX3_amendment_63 : decode cX3_amendment 63 = .ok (.ifCond .eq 22, 3) := by decide +kernel
theorem dX3_amendment_66 : decode cX3_amendment 66 = .ok (.aload_n 0, 1) := by decide +kernel
theorem dX3_amendment_67 : decode cX3_amendment 67 = .ok (.invokevirtual 47, 3) := by decide +kernel
theorem dX3_amendment_70 : decode cX3_amendment 70 = .ok (.aload_n 0, 1) := by decide +kernel
theorem dX3_amendment_71 : decode cX3_amendment 71 = .ok (.iconst 1, 1) := by decide +kernel
theorem dX3_amendment_72 : decode cX3_amendment 72 = .ok (.invokevirtual 98, 3) := by decide +kernel
theorem dX3_amendment_75 : decode cX3_amendment 75 = .ok (.ifCond .ne 5, 3) := by decide +kernel
theorem dX3_amendment_78 : decode cX3_amendment 78 = .ok (.iconst 0, 1) := by decide +kernel
theorem dX3_amendment_79 : decode cX3_amendment 79 = .ok (.ireturn, 1) := by decide +kernel
theorem dX3_amendment_80 : decode cX3_amendment 80 = .ok (.aload_n 0, 1) := by decide +kernel
theorem dX3_amendment_81 : decode cX3_amendment 81 = .ok (.getfield 101, 3) := by decide +kernel
theorem dX3_amendment_84 : decode cX3_amendment 84 = .ok (.istore_n 1, 1) := by decide +kernel
theorem dX3_amendment_85 : decode cX3_amendment 85 = .ok (.iconst 0, 1) := by decide +kernel
theorem dX3_amendment_86 : decode cX3_amendment 86 = .ok (.istore_n 2, 1) := by decide +kernel
theorem dX3_amendment_87 : decode cX3_amendment 87 = .ok (.aload_n 0, 1) := by decide +kernel
theorem dX3_amendment_88 : decode cX3_amendment 88 = .ok (.bipush 45, 2) := by decide +kernel
theorem dX3_amendment_90 : decode cX3_amendment 90 = .ok (.invokevirtual 94, 3) := by decide +kernel
theorem dX3_amendment_93 : decode cX3_amendment 93 = .ok (.ifCond .eq 22, 3) := by decide +kernel
theorem dX3_amendment_96 : decode cX3_amendment 96 = .ok (.aload_n 0, 1) := by decide +kernel
theorem dX3_amendment_97 : decode cX3_amendment 97 = .ok (.invokevirtual 47, 3) := by decide +kernel
theorem dX3_amendment_100 : decode cX3_amendment 100 = .ok (.aload_n 0, 1) := by decide +kernel
theorem dX3_amendment_101 : decode cX3_amendment 101 = .ok (.iconst 1, 1) := by decide +kernel
theorem dX3_amendment_102 : decode cX3_amendment 102 = .ok (.invokevirtual 98, 3) := by decide +kernel
theorem dX3_amendment_105 : decode cX3_amendment 105 = .ok (.ifCond .ne 5, 3) := by decide +kernel
theorem dX3_amendment_108 : decode cX3_amendment 108 = .ok (.iconst 0, 1) := by decide +kernel
theorem dX3_amendment_109 : decode cX3_amendment 109 = .ok (.ireturn, 1) := by decide +kernel
theorem dX3_amendment_110 : decode cX3_amendment 110 = .ok (.aload_n 0, 1) := by decide +kernel
theorem dX3_amendment_111 : decode cX3_amendment 111 = .ok (.getfield 101, 3) := by decide +kernel
theorem dX3_amendment_114 : decode cX3_amendment 114 = .ok (.istore_n 2, 1) := by decide +kernel
theorem dX3_amendment_115 : decode cX3_amendment 115 = .ok (.aload_n 0, 1) := by decide +kernel
theorem dX3_amendment_116 : decode cX3_amendment 116 = .ok (.getfield 15, 3) := by decide +kernel
theorem dX3_amendment_119 : decode cX3_amendment 119 = .ok (.aload_n 0, 1) := by decide +kernel
theorem dX3_amendment_120 : decode cX3_amendment 120 = .ok (.getfield 112, 3) := by decide +kernel
theorem dX3_amendment_123 : decode cX3_amendment 123 = .ok (.aload_n 0, 1) := by decide +kernel
theorem dX3_amendment_124 : decode cX3_amendment 124 = .ok (.getfield 115, 3) := by decide +kernel
theorem dX3_amendment_127 : decode cX3_amendment 127 = .ok (.iload_n 1, 1) := by decide +kernel
theorem dX3_amendment_128 : decode cX3_amendment 128 = .ok (.iload_n 2, 1) := by decide +kernel
theorem dX3_amendment_129 : decode cX3_amendment 129 = .ok (.invokevirtual 118, 3) := by decide +kernel
theorem dX3_amendment_132 : decode cX3_amendment 132 = .ok (.iconst 1, 1) := by decide +kernel
theorem dX3_amendment_133 : decode cX3_amendment 133 = .ok (.ireturn, 1) := by decide +kernel
theorem dX3_target_0 : decode cX3_target 0 = .ok (.aload_n 0, 1) := by decide +kernel
theorem dX3_target_1 : decode cX3_target 1 = .ok (.ldc 57, 2) := by decide +kernel
theorem dX3_target_3 : decode cX3_target 3 = .ok (.invokevirtual 59, 3) := by decide +kernel
theorem dX3_target_6 : decode cX3_target 6 = .ok (.ifCond .eq 16, 3) := by decide +kernel
theorem dX3_target_9 : decode cX3_target 9 = .ok (.aload_n 0, 1) := by decide +kernel
theorem dX3_target_10 : decode cX3_target 10 = .ok (.iconst 0, 1) := by decide +kernel
theorem dX3_target_11 : decode cX3_target 11 = .ok (.putfield 112, 3) := by decide +kernel
theorem dX3_target_14 : decode cX3_target 14 = .ok (.aload_n 0, 1) := by decide +kernel
theorem dX3_target_15 : decode cX3_target 15 = .ok (.iconst (-1), 1) := by decide +kernel
theorem dX3_target_16 : decode cX3_target 16 = .ok (.putfield 115, 3) := by decide +kernel
theorem dX3_target_19 : decode cX3_target 19 = .ok (.goto 95, 3) := by decide +kernel
theorem dX3_target_22 : decode cX3_target 22 = .ok (.aload_n 0, 1) := by decide +kernel
theorem dX3_target_23 : decode cX3_target 23 = .ok (.ldc 70, 2) := by decide +kernel
theorem dX3_target_25 : decode cX3_target 25 = .ok (.invokevirtual 59, 3) := by decide +kernel
theorem dX3_target_28 : decode cX3_target 28 = .ok (.ifCond .eq 39, 3) := by decide +kernel
theorem dX3_target_31 : decode cX3_target 31 = .ok (.aload_n 0, 1) := by decide +kernel
theorem dX3_target_32 : decode cX3_target 32 = .ok (.getfield 15, 3) := by decide +kernel
theorem dX3_target_35 : decode cX3_target 35 = .ok (.getfield 122, 3) := by decide +kernel
theorem dX3_target_38 : decode cX3_target 38 = .ok (.iconst (-1), 1) := by decide +kernel
theorem dX3_target_39 : decode cX3_target 39 = .ok (.if_icmp .ne 9, 3) := by decide +kernel
theorem dX3_target_42 : decode cX3_target 42 = .ok (.aload_n 0, 1) := by decide +kernel
theorem dX3_target_43 : decode cX3_target 43 = .ok (.iconst 3, 1) := by decide +kernel
theorem dX3_target_44 : decode cX3_target 44 = .ok (.invokevirtual 87, 3) := by decide +kernel
theorem dX3_target_47 : decode cX3_target 47 = .ok (.ireturn, 1) := by decide +kernel
theorem dX3_target_48 : decode cX3_target 48 = .ok (.aload_n 0, 1) := by decide +kernel
theorem dX3_target_49 : decode cX3_target 49 = .ok (.iconst 2, 1) := by decide +kernel
theorem dX3_target_50 : decode cX3_target 50 = .ok (.putfield 112, 3) := by decide +kernel
theorem dX3_target_53 : decode cX3_target 53 = .ok (.aload_n 0, 1) := by decide +kernel
theorem dX3_target_54 : decode cX3_target 54 = .ok (.aload_n 0, 1) := by decide +kernel
theorem dX3_target_55 : decode cX3_target 55 = .ok (.getfield 15, 3) := by decide +kernel
theorem dX3_target_58 : decode cX3_target 58 = .ok (.getfield 122, 3) := by decide +kernel
theorem dX3_target_61 : decode cX3_target 61 = .ok (.putfield 115, 3) := by decide +kernel
theorem dX3_target_64 : decode cX3_target 64 = .ok (.goto 50, 3) := by decide +kernel
theorem dX3_target_67 : decode cX3_target 67 = .ok (.aload_n 0, 1) := by decide +kernel
theorem dX3_target_68 : decode cX3_target 68 = .ok (.getfield 50, 3) := by decide +kernel
theorem dX3_target_71 : decode cX3_target 71 = .ok (.iconst 2, 1) := by decide +kernel
theorem dX3_target_72 : decode cX3_target 72 = .ok (.if_icmp .ne 36, 3) := by decide +kernel
theorem dX3_target_75 : decode cX3_target 75 = .ok (.aload_n 0, 1) := by decide +kernel
theorem dX3_target_76 : decode cX3_target 76 = .ok (.aload_n 0, 1) := by decide +kernel
theorem dX3_target_77 : decode cX3_target 77 = .ok (.getfield 124, 3) := by decide +kernel
theorem dX3_target_80 : decode cX3_target 80 = .ok (.invokevirtual 127, 3) := by decide +kernel
theorem dX3_target_83 : decode cX3_target 83 = .ok (.ifCond .ne 9, 3) := by decide +kernel
theorem dX3_target_86 : decode cX3_target 86 = .ok (.aload_n 0, 1) := by decide +kernel
theorem dX3_target_87 : decode cX3_target 87 = .ok (.iconst 2, 1) := by decide +kernel
theorem dX3_target_88 : decode cX3_target 88 = .ok (.invokevirtual 87, 3) := by decide +kernel
theorem dX3_target_91 : decode cX3_target 91 = .ok (.ireturn, 1) := by decide +kernel
theorem dX3_target_92 : decode cX3_target 92 = .ok (.aload_n 0, 1) := by decide +kernel
theorem dX3_target_93 : decode cX3_target 93 = .ok (.iconst 3, 1) := by decide +kernel
theorem dX3_target_94 : decode cX3_target 94 = .ok (.putfield 112, 3) := by decide +kernel
theorem dX3_target_97 : decode cX3_target 97 = .ok (.aload_n 0, 1) := by decide +kernel
theorem dX3_target_98 : decode cX3_target 98 = .ok (.aload_n 0, 1) := by decide +kernel
theorem dX3_target_99 : decode cX3_target 99 = .ok (.getfield 124, 3) := by decide +kernel
theorem dX3_target_102 : decode cX3_target 102 = .ok (.putfield 115, 3) := by decide +kernel
theorem dX3_target_105 : decode cX3_target 105 = .ok (.goto 9, 3) := by decide +kernel
theorem dX3_target_108 : decode cX3_target 108 = .ok (.aload_n 0, 1) := by decide +kernel
theorem dX3_target_109 : decode cX3_target 109 = .ok (.iconst 1, 1) := by decide +kernel
theorem dX3_target_110 : decode cX3_target 110 = .ok (.invokevirtual 87, 3) := by decide +kernel
theorem dX3_target_113 : decode cX3_target 113 = .ok (.ireturn, 1) := by decide +kernel
theorem dX3_target_114 : decode cX3_target 114 = .ok (.aload_n 0, 1) := by decide +kernel
theorem dX3_target_115 : decode cX3_target 115 = .ok (.invokevirtual 47, 3) := by decide +kernel
theorem dX3_target_118 : decode cX3_target 118 = .ok (.iconst 1, 1) := by decide +kernel
theorem dX3_target_119 : decode cX3_target 119 = .ok (.ireturn, 1) := by decide +kernel
theorem dX3_canBeAmended_0 : decode cX3_canBeAmended 0 = .ok (.aload_n 0, 1) := by decide +kernel
theorem dX3_canBeAmended_1 : decode cX3_canBeAmended 1 = .ok (.getfield 15, 3) := by decide +kernel
theorem dX3_canBeAmended_4 : decode cX3_canBeAmended 4 = .ok (.iload_n 1, 1) := by decide +kernel
theorem dX3_canBeAmended_5 : decode cX3_canBeAmended 5 = .ok (.invokevirtual 130, 3) := by decide +kernel
theorem dX3_canBeAmended_8 : decode cX3_canBeAmended 8 = .ok (.ifCond .eq 32, 3) := by decide +kernel
theorem dX3_canBeAmended_11 : decode cX3_canBeAmended 11 = .ok (.aload_n 0, 1) := by decide +kernel
theorem dX3_canBeAmended_12 : decode cX3_canBeAmended 12 = .ok (.getfield 15, 3) := by decide +kernel
theorem dX3_canBeAmended_15 : decode cX3_canBeAmended 15 = .ok (.getfield 133, 3) := by decide +kernel
theorem dX3_canBeAmended_18 : decode cX3_canBeAmended 18 = .ok (.iload_n 1, 1) := by decide +kernel
theorem dX3_canBeAmended_19 : decode cX3_canBeAmended 19 = .ok (.iaload, 1) := by decide +kernel
theorem dX3_canBeAmended_20 : decode cX3_canBeAmended 20 = .ok (.ifCond .eq 16, 3) := by decide +kernel
theorem dX3_canBeAmended_23 : decode cX3_canBeAmended 23 = .ok (.aload_n 0, 1) := by decide +kernel
theorem dX3_canBeAmended_24 : decode cX3_canBeAmended 24 = .ok (.getfield 15, 3) := by decide +kernel
theorem dX3_canBeAmended_27 : decode cX3_canBeAmended 27 = .ok (.getfield 133, 3) := by decide +kernel
theorem dX3_canBeAmended_30 : decode cX3_canBeAmended 30 = .ok (.iload_n 1, 1) := by decide +kernel
theorem dX3_canBeAmended_31 : decode cX3_canBeAmended 31 = .ok (.iaload, 1) := by decide +kernel
theorem dX3_canBeAmended_32 : decode cX3_canBeAmended 32 = .ok (.iconst 2, 1) := by decide +kernel
theorem dX3_canBeAmended_33 : decode cX3_canBeAmended 33 = .ok (.if_icmp .ne 7, 3) := by decide +kernel
theorem dX3_canBeAmended_36 : decode cX3_canBeAmended 36 = .ok (.iconst 1, 1) := by decide +kernel
theorem dX3_canBeAmended_37 : decode cX3_canBeAmended 37 = .ok (.goto 4, 3) := by decide +kernel
theorem dX3_canBeAmended_40 : decode cX3_canBeAmended 40 = .ok (.iconst 0, 1) := by decide +kernel
theorem dX3_canBeAmended_41 : decode cX3_canBeAmended 41 = .ok (.ireturn, 1) := by decide +kernel
theorem dX3_substitute_0 : decode cX3_substitute 0 = .ok (.aload_n 0, 1) := by decide +kernel
theorem dX3_substitute_1 : decode cX3_substitute 1 = .ok (.getfield 15, 3) := by decide +kernel
theorem dX3_substitute_4 : decode cX3_substitute 4 = .ok (.getfield 122, 3) := by decide +kernel
theorem dX3_substitute_7 : decode cX3_substitute 7 = .ok (.iconst (-1), 1) := by decide +kernel
theorem dX3_substitute_8 : decode cX3_substitute 8 = .ok (.if_icmp .eq 9, 3) := by decide +kernel
theorem dX3_substitute_11 : decode cX3_substitute 11 = .ok (.aload_n 0, 1) := by decide +kernel
theorem dX3_substitute_12 : decode cX3_substitute 12 = .ok (.iconst 3, 1) := by decide +kernel
theorem dX3_substitute_13 : decode cX3_substitute 13 = .ok (.invokevirtual 87, 3) := by decide +kernel
theorem dX3_substitute_16 : decode cX3_substitute 16 = .ok (.ireturn, 1) := by decide +kernel
theorem dX3_substitute_17 : decode cX3_substitute 17 = .ok (.aload_n 0, 1) := by decide +kernel
theorem dX3_substitute_18 : decode cX3_substitute 18 = .ok (.getfield 15, 3) := by decide +kernel
theorem dX3_substitute_21 : decode cX3_substitute 21 = .ok (.getfield 106, 3) := by decide +kernel
theorem dX3_substitute_24 : decode cX3_substitute 24 = .ok (.bipush 6, 2) := by decide +kernel
theorem dX3_substitute_26 : decode cX3_substitute 26 = .ok (.if_icmp .lt 9, 3) := by decide +kernel
theorem dX3_substitute_29 : decode cX3_substitute 29 = .ok (.aload_n 0, 1) := by decide +kernel
theorem dX3_substitute_30 : decode cX3_substitute 30 = .ok (.iconst 4, 1) := by decide +kernel
theorem dX3_substitute_31 : decode cX3_substitute 31 = .ok (.invokevirtual 87, 3) := by decide +kernel
theorem dX3_substitute_34 : decode cX3_substitute 34 = .ok (.ireturn, 1) := by decide +kernel
theorem dX3_substitute_35 : decode cX3_substitute 35 = .ok (.aload_n 0, 1) := by decide +kernel
theorem dX3_substitute_36 : decode cX3_substitute 36 = .ok (.invokevirtual 47, 3) := by decide +kernel
theorem dX3_substitute_39 : decode cX3_substitute 39 = .ok (.aload_n 0, 1) := by decide +kernel
theorem dX3_substitute_40 : decode cX3_substitute 40 = .ok (.iconst 1, 1) := by decide +kernel
theorem dX3_substitute_41 : decode cX3_substitute 41 = .ok (.invokevirtual 98, 3) := by decide +kernel
theorem dX3_substitute_44 : decode cX3_substitute 44 = .ok (.ifCond .ne 5, 3) := by decide +kernel
theorem dX3_substitute_47 : decode cX3_substitute 47 = .ok (.iconst 0, 1) := by decide +kernel
theorem dX3_substitute_48 : decode cX3_substitute 48 = .ok (.ireturn, 1) := by decide +kernel
theorem dX3_substitute_49 : decode cX3_substitute 49 = .ok (.aload_n 0, 1) := by decide +kernel
theorem dX3_substitute_50 : decode cX3_substitute 50 = .ok (.getfield 15, 3) := by decide +kernel
theorem dX3_substitute_53 : decode cX3_substitute 53 = .ok (.aload_n 0, 1) := by decide +kernel
theorem dX3_substitute_54 : decode cX3_substitute 54 = .ok (.getfield 15, 3) := by decide +kernel
theorem dX3_substitute_57 : decode cX3_substitute 57 = .ok (.getfield 106, 3) := by decide +kernel
theorem dX3_substitute_60 : decode cX3_substitute 60 = .ok (.putfield 122, 3) := by decide +kernel
theorem dX3_substitute_63 : decode cX3_substitute 63 = .ok (.aload_n 0, 1) := by decide +kernel
theorem dX3_substitute_64 : decode cX3_substitute 64 = .ok (.getfield 15, 3) := by decide +kernel
theorem dX3_substitute_67 : decode cX3_substitute 67 = .ok (.iconst 1, 1) := by decide +kernel
theorem dX3_substitute_68 : decode cX3_substitute 68 = .ok (.iconst (-1), 1) := by decide +kernel
theorem dX3_substitute_69 : decode cX3_substitute 69 = .ok (.aload_n 0, 1) := by decide +kernel
theorem dX3_substitute_70 : decode cX3_substitute 70 = .ok (.getfield 101, 3) := by decide +kernel
theorem dX3_substitute_73 : decode cX3_substitute 73 = .ok (.iconst 0, 1) := by decide +kernel
theorem dX3_substitute_74 : decode cX3_substitute 74 = .ok (.invokevirtual 118, 3) := by decide +kernel
theorem dX3_substitute_77 : decode cX3_substitute 77 = .ok (.iconst 1, 1) := by decide +kernel
theorem dX3_substitute_78 : decode cX3_substitute 78 = .ok (.ireturn, 1) := by decide +kernel
theorem dX3_voter_0 : decode cX3_voter 0 = .ok (.aload_n 0, 1) := by decide +kernel
theorem dX3_voter_1 : decode cX3_voter 1 = .ok (.getfield 15, 3) := by decide +kernel
theorem dX3_voter_4 : decode cX3_voter 4 = .ok (.getfield 136, 3) := by decide +kernel
theorem dX3_voter_7 : decode cX3_voter 7 = .ok (.bipush 9, 2) := by decide +kernel
theorem dX3_voter_9 : decode cX3_voter 9 = .ok (.if_icmp .lt 9, 3) := by decide +kernel
theorem dX3_voter_12 : decode cX3_voter 12 = .ok (.aload_n 0, 1) := by decide +kernel
theorem dX3_voter_13 : decode cX3_voter 13 = .ok (.iconst 4, 1) := by decide +kernel
theorem dX3_voter_14 : decode cX3_voter 14 = .ok (.invokevirtual 87, 3) := by decide +kernel
theorem dX3_voter_17 : decode cX3_voter 17 = .ok (.ireturn, 1) := by decide +kernel
theorem dX3_voter_18 : decode cX3_voter 18 = .ok (.aload_n 0, 1) := by decide +kernel
theorem dX3_voter_19 : decode cX3_voter 19 = .ok (.invokevirtual 47, 3) := by decide +kernel
theorem dX3_voter_22 : decode cX3_voter 22 = .ok (.aload_n 0, 1) := by decide +kernel
theorem dX3_voter_23 : decode cX3_voter 23 = .ok (.getfield 15, 3) := by decide +kernel
theorem dX3_voter_26 : decode cX3_voter 26 = .ok (.getfield 136, 3) := by decide +kernel
theorem dX3_voter_29 : decode cX3_voter 29 = .ok (.bipush 8, 2) := by decide +kernel
theorem dX3_voter_31 : decode cX3_voter 31 = .ok (.imul, 1) := by decide +kernel
theorem dX3_voter_32 : decode cX3_voter 32 = .ok (.istore_n 1, 1) := by decide +kernel
theorem dX3_voter_33 : decode cX3_voter 33 = .ok (.iconst 0, 1) := by decide +kernel
theorem dX3_voter_34 : decode cX3_voter 34 = .ok (.istore_n 2, 1) := by decide +kernel
theorem dX3_voter_35 : decode cX3_voter 35 = .ok (.iconst 0, 1) := by decide +kernel
theorem dX3_voter_36 : decode cX3_voter 36 = .ok (.istore_n 3, 1) := by decide +kernel
theorem dX3_voter_37 : decode cX3_voter 37 = .ok (.iload_n 3, 1) := by decide +kernel
theorem dX3_voter_38 : decode cX3_voter 38 = .ok (.bipush 8, 2) := by decide +kernel
theorem dX3_voter_40 : decode cX3_voter 40 = .ok (.if_icmp .gt 109, 3) := by decide +kernel
theorem dX3_voter_43 : decode cX3_voter 43 = .ok (.aload_n 0, 1) := by decide +kernel
theorem dX3_voter_44 : decode cX3_voter 44 = .ok (.getfield 50, 3) := by decide +kernel
theorem dX3_voter_47 : decode cX3_voter 47 = .ok (.iconst 1, 1) := by decide +kernel
theorem dX3_voter_48 : decode cX3_voter 48 = .ok (.if_icmp .ne 101, 3) := by decide +kernel
theorem dX3_voter_51 : decode cX3_voter 51 = .ok (.aload_n 0, 1) := by decide +kernel
theorem dX3_voter_52 : decode cX3_voter 52 = .ok (.getfield 9, 3) := by decide +kernel
theorem dX3_voter_55 : decode cX3_voter 55 = .ok (.aload_n 0, 1) := by decide +kernel
theorem dX3_voter_56 : decode cX3_voter 56 = .ok (.getfield 139, 3) := by decide +kernel
theorem dX3_voter_59 : decode cX3_voter 59 = .ok (.iaload, 1) := by decide +kernel
theorem dX3_voter_60 : decode cX3_voter 60 = .ok (.bipush 97, 2) := by decide +kernel
theorem dX3_voter_62 : decode cX3_voter 62 = .ok (.isub, 1) := by decide +kernel
theorem dX3_voter_63 : decode cX3_voter 63 = .ok (.istore 4, 2) := by decide +kernel
theorem dX3_voter_65 : decode cX3_voter 65 = .ok (.aload_n 0, 1) := by decide +kernel
theorem dX3_voter_66 : decode cX3_voter 66 = .ok (.getfield 44, 3) := by decide +kernel
theorem dX3_voter_69 : decode cX3_voter 69 = .ok (.aload_n 0, 1) := by decide +kernel
theorem dX3_voter_70 : decode cX3_voter 70 = .ok (.getfield 139, 3) := by decide +kernel
theorem dX3_voter_73 : decode cX3_voter 73 = .ok (.isub, 1) := by decide +kernel
theorem dX3_voter_74 : decode cX3_voter 74 = .ok (.iconst 1, 1) := by decide +kernel
theorem dX3_voter_75 : decode cX3_voter 75 = .ok (.if_icmp .ne 11, 3) := by decide +kernel
theorem dX3_voter_78 : decode cX3_voter 78 = .ok (.iload 4, 2) := by decide +kernel
theorem dX3_voter_80 : decode cX3_voter 80 = .ok (.invokestatic 142, 3) := by decide +kernel
theorem dX3_voter_83 : decode cX3_voter 83 = .ok (.ifCond .ne 9, 3) := by decide +kernel
theorem dX3_voter_86 : decode cX3_voter 86 = .ok (.aload_n 0, 1) := by decide +kernel
theorem dX3_voter_87 : decode cX3_voter 87 = .ok (.iconst 1, 1) := by decide +kernel
theorem dX3_voter_88 : decode cX3_voter 88 = .ok (.invokevirtual 87, 3) := by decide +kernel
theorem dX3_voter_91 : decode cX3_voter 91 = .ok (.ireturn, 1) := by decide +kernel
theorem dX3_voter_92 : decode cX3_voter 92 = .ok (.iload 4, 2) := by decide +kernel
