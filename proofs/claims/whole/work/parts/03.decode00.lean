theorem dX0_init_0 : decode cX0_init 0 = .ok (.aload_n 0, 1) := by decide +kernel
theorem dX0_init_1 : decode cX0_init 1 = .ok (.invokespecial 3, 3) := by decide +kernel
theorem dX0_init_4 : decode cX0_init 4 = .ok (.aload_n 0, 1) := by decide +kernel
theorem dX0_init_5 : decode cX0_init 5 = .ok (.bipush 6, 2) := by decide +kernel
theorem dX0_init_7 : decode cX0_init 7 = .ok (.newarray .int, 2) := by decide +kernel
theorem dX0_init_9 : decode cX0_init 9 = .ok (.putfield 9, 3) := by decide +kernel
theorem dX0_init_12 : decode cX0_init 12 = .ok (.aload_n 0, 1) := by decide +kernel
theorem dX0_init_13 : decode cX0_init 13 = .ok (.bipush 64, 2) := by decide +kernel
theorem dX0_init_15 : decode cX0_init 15 = .ok (.newarray .int, 2) := by decide +kernel
theorem dX0_init_17 : decode cX0_init 17 = .ok (.putfield 15, 3) := by decide +kernel
theorem dX0_init_20 : decode cX0_init 20 = .ok (.aload_n 0, 1) := by decide +kernel
theorem dX0_init_21 : decode cX0_init 21 = .ok (.aload_n 1, 1) := by decide +kernel
theorem dX0_init_22 : decode cX0_init 22 = .ok (.putfield 18, 3) := by decide +kernel
theorem dX0_init_25 : decode cX0_init 25 = .ok (.return_, 1) := by decide +kernel
theorem dX0_takeLeast_0 : decode cX0_takeLeast 0 = .ok (.iconst 0, 1) := by decide +kernel
theorem dX0_takeLeast_1 : decode cX0_takeLeast 1 = .ok (.istore_n 1, 1) := by decide +kernel
theorem dX0_takeLeast_2 : decode cX0_takeLeast 2 = .ok (.iconst 0, 1) := by decide +kernel
theorem dX0_takeLeast_3 : decode cX0_takeLeast 3 = .ok (.istore_n 2, 1) := by decide +kernel
theorem dX0_takeLeast_4 : decode cX0_takeLeast 4 = .ok (.iload_n 2, 1) := by decide +kernel
theorem dX0_takeLeast_5 : decode cX0_takeLeast 5 = .ok (.aload_n 0, 1) := by decide +kernel
theorem dX0_takeLeast_6 : decode cX0_takeLeast 6 = .ok (.getfield 18, 3) := by decide +kernel
theorem dX0_takeLeast_9 : decode cX0_takeLeast 9 = .ok (.getfield 22, 3) := by decide +kernel
theorem dX0_takeLeast_12 : decode cX0_takeLeast 12 = .ok (.if_icmp .ge 28, 3) := by decide +kernel
theorem dX0_takeLeast_15 : decode cX0_takeLeast 15 = .ok (.aload_n 0, 1) := by decide +kernel
theorem dX0_takeLeast_16 : decode cX0_takeLeast 16 = .ok (.iload_n 1, 1) := by decide +kernel
theorem dX0_takeLeast_17 : decode cX0_takeLeast 17 = .ok (.invokevirtual 28, 3) := by decide +kernel
theorem dX0_takeLeast_20 : decode cX0_takeLeast 20 = .ok (.istore_n 3, 1) := by decide +kernel
theorem dX0_takeLeast_21 : decode cX0_takeLeast 21 = .ok (.aload_n 0, 1) := by decide +kernel
theorem dX0_takeLeast_22 : decode cX0_takeLeast 22 = .ok (.getfield 9, 3) := by decide +kernel
theorem dX0_takeLeast_25 : decode cX0_takeLeast 25 = .ok (.iload_n 2, 1) := by decide +kernel
theorem dX0_takeLeast_26 : decode cX0_takeLeast 26 = .ok (.iload_n 3, 1) := by decide +kernel
theorem dX0_takeLeast_27 : decode cX0_takeLeast 27 = .ok (.iastore, 1) := by decide +kernel
theorem dX0_takeLeast_28 : decode cX0_takeLeast 28 = .ok (.iload_n 1, 1) := by decide +kernel
theorem dX0_takeLeast_29 : decode cX0_takeLeast 29 = .ok (.iconst 1, 1) := by decide +kernel
theorem dX0_takeLeast_30 : decode cX0_takeLeast 30 = .ok (.iload_n 3, 1) := by decide +kernel
theorem dX0_takeLeast_31 : decode cX0_takeLeast 31 = .ok (.ishl, 1) := by decide +kernel
theorem dX0_takeLeast_32 : decode cX0_takeLeast 32 = .ok (.ior, 1) := by decide +kernel
theorem dX0_takeLeast_33 : decode cX0_takeLeast 33 = .ok (.istore_n 1, 1) := by decide +kernel
theorem dX0_takeLeast_34 : decode cX0_takeLeast 34 = .ok (.iinc 2 1, 3) := by decide +kernel
theorem dX0_takeLeast_37 : decode cX0_takeLeast 37 = .ok (.goto (-33), 3) := by decide +kernel
theorem dX0_takeLeast_40 : decode cX0_takeLeast 40 = .ok (.return_, 1) := by decide +kernel
theorem dX0_leastNext_0 : decode cX0_leastNext 0 = .ok (.iconst 0, 1) := by decide +kernel
theorem dX0_leastNext_1 : decode cX0_leastNext 1 = .ok (.istore_n 2, 1) := by decide +kernel
theorem dX0_leastNext_2 : decode cX0_leastNext 2 = .ok (.iload_n 2, 1) := by decide +kernel
theorem dX0_leastNext_3 : decode cX0_leastNext 3 = .ok (.aload_n 0, 1) := by decide +kernel
theorem dX0_leastNext_4 : decode cX0_leastNext 4 = .ok (.getfield 18, 3) := by decide +kernel
theorem dX0_leastNext_7 : decode cX0_leastNext 7 = .ok (.getfield 22, 3) := by decide +kernel
theorem dX0_leastNext_10 : decode cX0_leastNext 10 = .ok (.if_icmp .ge 28, 3) := by decide +kernel
theorem dX0_leastNext_13 : decode cX0_leastNext 13 = .ok (.iload_n 2, 1) := by decide +kernel
theorem dX0_leastNext_14 : decode cX0_leastNext 14 = .ok (.iload_n 1, 1) := by decide +kernel
theorem dX0_leastNext_15 : decode cX0_leastNext 15 = .ok (.invokestatic 32, 3) := by decide +kernel
theorem dX0_leastNext_18 : decode cX0_leastNext 18 = .ok (.ifCond .ne 14, 3) := by decide +kernel
theorem dX0_leastNext_21 : decode cX0_leastNext 21 = .ok (.aload_n 0, 1) := by decide +kernel
theorem dX0_leastNext_22 : decode cX0_leastNext 22 = .ok (.iload_n 2, 1) := by decide +kernel
theorem dX0_leastNext_23 : decode cX0_leastNext 23 = .ok (.iload_n 1, 1) := by decide +kernel
theorem dX0_leastNext_24 : decode cX0_leastNext 24 = .ok (.invokevirtual 36, 3) := by decide +kernel
theorem dX0_leastNext_27 : decode cX0_leastNext 27 = .ok (.ifCond .eq 5, 3) := by decide +kernel
theorem dX0_leastNext_30 : decode cX0_leastNext 30 = .ok (.iload_n 2, 1) := by decide +kernel
theorem dX0_leastNext_31 : decode cX0_leastNext 31 = .ok (.ireturn, 1) := by decide +kernel
theorem dX0_leastNext_32 : decode cX0_leastNext 32 = .ok (.iinc 2 1, 3) := by decide +kernel
theorem dX0_leastNext_35 : decode cX0_leastNext 35 = .ok (.goto (-33), 3) := by decide +kernel
theorem dX0_leastNext_38 : decode cX0_leastNext 38 = .ok (.iconst 0, 1) := by decide +kernel
theorem dX0_leastNext_39 : decode cX0_leastNext 39 = .ok (.ireturn, 1) := by decide +kernel
theorem dX0_areChildrenIn_0 : decode cX0_areChildrenIn 0 = .ok (.iconst 0, 1) := by decide +kernel
theorem dX0_areChildrenIn_1 : decode cX0_areChildrenIn 1 = .ok (.istore_n 3, 1) := by decide +kernel
theorem dX0_areChildrenIn_2 : decode cX0_areChildrenIn 2 = .ok (.iload_n 3, 1) := by decide +kernel
theorem dX0_areChildrenIn_3 : decode cX0_areChildrenIn 3 = .ok (.aload_n 0, 1) := by decide +kernel
theorem dX0_areChildrenIn_4 : decode cX0_areChildrenIn 4 = .ok (.getfield 18, 3) := by decide +kernel
theorem dX0_areChildrenIn_7 : decode cX0_areChildrenIn 7 = .ok (.getfield 22, 3) := by decide +kernel
theorem dX0_areChildrenIn_10 : decode cX0_areChildrenIn 10 = .ok (.if_icmp .ge 32, 3) := by decide +kernel
theorem dX0_areChildrenIn_13 : decode cX0_areChildrenIn 13 = .ok (.aload_n 0, 1) := by decide +kernel
theorem dX0_areChildrenIn_14 : decode cX0_areChildrenIn 14 = .ok (.getfield 18, 3) := by decide +kernel
theorem dX0_areChildrenIn_17 : decode cX0_areChildrenIn 17 = .ok (.getfield 39, 3) := by decide +kernel
theorem dX0_areChildrenIn_20 : decode cX0_areChildrenIn 20 = .ok (.iload_n 3, 1) := by decide +kernel
theorem dX0_areChildrenIn_21 : decode cX0_areChildrenIn 21 = .ok (.iaload, 1) := by decide +kernel
theorem dX0_areChildrenIn_22 : decode cX0_areChildrenIn 22 = .ok (.iload_n 1, 1) := by decide +kernel
theorem dX0_areChildrenIn_23 : decode cX0_areChildrenIn 23 = .ok (.if_icmp .ne 13, 3) := by decide +kernel
theorem dX0_areChildrenIn_26 : decode cX0_areChildrenIn 26 = .ok (.iload_n 3, 1) := by decide +kernel
theorem dX0_areChildrenIn_27 : decode cX0_areChildrenIn 27 = .ok (.iload_n 2, 1) := by decide +kernel
theorem dX0_areChildrenIn_28 : decode cX0_areChildrenIn 28 = .ok (.invokestatic 32, 3) := by decide +kernel
theorem dX0_areChildrenIn_31 : decode cX0_areChildrenIn 31 = .ok (.ifCond .ne 5, 3) := by decide +kernel
theorem dX0_areChildrenIn_34 : decode cX0_areChildrenIn 34 = .ok (.iconst 0, 1) := by decide +kernel
theorem dX0_areChildrenIn_35 : decode cX0_areChildrenIn 35 = .ok (.ireturn, 1) := by decide +kernel
theorem dX0_areChildrenIn_36 : decode cX0_areChildrenIn 36 = .ok (.iinc 3 1, 3) := by decide +kernel
theorem dX0_areChildrenIn_39 : decode cX0_areChildrenIn 39 = .ok (.goto (-37), 3) := by decide +kernel
theorem dX0_areChildrenIn_42 : decode cX0_areChildrenIn 42 = .ok (.iconst 1, 1) := by decide +kernel
theorem dX0_areChildrenIn_43 : decode cX0_areChildrenIn 43 = .ok (.ireturn, 1) := by decide +kernel
theorem dX0_takeRow_0 : decode cX0_takeRow 0 = .ok (.iload_n 1, 1) := by decide +kernel
theorem dX0_takeRow_1 : decode cX0_takeRow 1 = .ok (.aload_n 0, 1) := by decide +kernel
theorem dX0_takeRow_2 : decode cX0_takeRow 2 = .ok (.invokevirtual 42, 3) := by decide +kernel
theorem dX0_takeRow_5 : decode cX0_takeRow 5 = .ok (.if_icmp .eq 11, 3) := by decide +kernel
theorem dX0_takeRow_8 : decode cX0_takeRow 8 = .ok (.aload_n 0, 1) := by decide +kernel
theorem dX0_takeRow_9 : decode cX0_takeRow 9 = .ok (.iload_n 1, 1) := by decide +kernel
theorem dX0_takeRow_10 : decode cX0_takeRow 10 = .ok (.invokevirtual 46, 3) := by decide +kernel
theorem dX0_takeRow_13 : decode cX0_takeRow 13 = .ok (.ifCond .ne 5, 3) := by decide +kernel
theorem dX0_takeRow_16 : decode cX0_takeRow 16 = .ok (.iconst 0, 1) := by decide +kernel
theorem dX0_takeRow_17 : decode cX0_takeRow 17 = .ok (.ireturn, 1) := by decide +kernel
theorem dX0_takeRow_18 : decode cX0_takeRow 18 = .ok (.iconst 0, 1) := by decide +kernel
theorem dX0_takeRow_19 : decode cX0_takeRow 19 = .ok (.istore_n 2, 1) := by decide +kernel
theorem dX0_takeRow_20 : decode cX0_takeRow 20 = .ok (.iload_n 2, 1) := by decide +kernel
theorem dX0_takeRow_21 : decode cX0_takeRow 21 = .ok (.aload_n 0, 1) := by decide +kernel
theorem dX0_takeRow_22 : decode cX0_takeRow 22 = .ok (.getfield 18, 3) := by decide +kernel
theorem dX0_takeRow_25 : decode cX0_takeRow 25 = .ok (.getfield 22, 3) := by decide +kernel
theorem dX0_takeRow_28 : decode cX0_takeRow 28 = .ok (.if_icmp .ge 23, 3) := by decide +kernel
theorem dX0_takeRow_31 : decode cX0_takeRow 31 = .ok (.aload_n 0, 1) := by decide +kernel
theorem dX0_takeRow_32 : decode cX0_takeRow 32 = .ok (.getfield 9, 3) := by decide +kernel
theorem dX0_takeRow_35 : decode cX0_takeRow 35 = .ok (.iload_n 2, 1) := by decide +kernel
theorem dX0_takeRow_36 : decode cX0_takeRow 36 = .ok (.iload_n 1, 1) := by decide +kernel
theorem dX0_takeRow_37 : decode cX0_takeRow 37 = .ok (.iconst 4, 1) := by decide +kernel
theorem dX0_takeRow_38 : decode cX0_takeRow 38 = .ok (.iload_n 2, 1) := by decide +kernel
theorem dX0_takeRow_39 : decode cX0_takeRow 39 = .ok (.imul, 1) := by decide +kernel
theorem dX0_takeRow_40 : decode cX0_takeRow 40 = .ok (.ishr, 1) := by decide +kernel
theorem dX0_takeRow_41 : decode cX0_takeRow 41 = .ok (.bipush 15, 2) := by decide +kernel
theorem dX0_takeRow_43 : decode cX0_takeRow 43 = .ok (.iand, 1) := by decide +kernel
theorem dX0_takeRow_44 : decode cX0_takeRow 44 = .ok (.iastore, 1) := by decide +kernel
theorem dX0_takeRow_45 : decode cX0_takeRow 45 = .ok (.iinc 2 1, 3) := by decide +kernel
theorem dX0_takeRow_48 : decode cX0_takeRow 48 = .ok (.goto (-28), 3) := by decide +kernel
theorem dX0_takeRow_51 : decode cX0_takeRow 51 = .ok (.iconst 1, 1) := by decide +kernel
theorem dX0_takeRow_52 : decode cX0_takeRow 52 = .ok (.ireturn, 1) := by decide +kernel
theorem dX0_rowOfSequence_0 : decode cX0_rowOfSequence 0 = .ok (.iconst 0, 1) := by decide +kernel
theorem dX0_rowOfSequence_1 : decode cX0_rowOfSequence 1 = .ok (.istore_n 1, 1) := by decide +kernel
theorem dX0_rowOfSequence_2 : decode cX0_rowOfSequence 2 = .ok (.iconst 0, 1) := by decide +kernel
theorem dX0_rowOfSequence_3 : decode cX0_rowOfSequence 3 = .ok (.istore_n 2, 1) := by decide +kernel
theorem dX0_rowOfSequence_4 : decode cX0_rowOfSequence 4 = .ok (.iload_n 2, 1) := by decide +kernel
theorem dX0_rowOfSequence_5 : decode cX0_rowOfSequence 5 = .ok (.aload_n 0, 1) := by decide +kernel
theorem dX0_rowOfSequence_6 : decode cX0_rowOfSequence 6 = .ok (.getfield 18, 3) := by decide +kernel
theorem dX0_rowOfSequence_9 : decode cX0_rowOfSequence 9 = .ok (.getfield 22, 3) := by decide +kernel
theorem dX0_rowOfSequence_12 : decode cX0_rowOfSequence 12 = .ok (.if_icmp .ge 22, 3) := by decide +kernel
theorem dX0_rowOfSequence_15 : decode cX0_rowOfSequence 15 = .ok (.iload_n 1, 1) := by decide +kernel
theorem dX0_rowOfSequence_16 : decode cX0_rowOfSequence 16 = .ok (.aload_n 0, 1) := by decide +kernel
theorem dX0_rowOfSequence_17 : decode cX0_rowOfSequence 17 = .ok (.getfield 9, 3) := by decide +kernel
theorem dX0_rowOfSequence_20 : decode cX0_rowOfSequence 20 = .ok (.iload_n 2, 1) := by decide +kernel
theorem dX0_rowOfSequence_21 : decode cX0_rowOfSequence 21 = .ok (.iaload, 1) := by decide +kernel
theorem dX0_rowOfSequence_22 : decode cX0_rowOfSequence 22 = .ok (.iconst 4, 1) := by decide +kernel
theorem dX0_rowOfSequence_23 : decode cX0_rowOfSequence 23 = .ok (.iload_n 2, 1) := by decide +kernel
theorem dX0_rowOfSequence_24 : decode cX0_rowOfSequence 24 = .ok (.imul, 1) := by decide +kernel
theorem dX0_rowOfSequence_25 : decode cX0_rowOfSequence 25 = .ok (.ishl, 1) := by decide +kernel
theorem dX0_rowOfSequence_26 : decode cX0_rowOfSequence 26 = .ok (.ior, 1) := by decide +kernel
theorem dX0_rowOfSequence_27 : decode cX0_rowOfSequence 27 = .ok (.istore_n 1, 1) := by decide +kernel
theorem dX0_rowOfSequence_28 : decode cX0_rowOfSequence 28 = .ok (.iinc 2 1, 3) := by decide +kernel
theorem dX0_rowOfSequence_31 : decode cX0_rowOfSequence 31 = .ok (.goto (-27), 3) := by decide +kernel
theorem dX0_rowOfSequence_34 : decode cX0_rowOfSequence 34 = .ok (.iload_n 1, 1) := by decide +kernel
theorem dX0_rowOfSequence_35 : decode cX0_rowOfSequence 35 = .ok (.ireturn, 1) := by decide +kernel
theorem dX0_isGood_0 : decode cX0_isGood 0 = .ok (.iload_n 1, 1) := by decide +kernel
theorem dX0_isGood_1 : decode cX0_isGood 1 = .ok (.iconst 4, 1) := by decide +kernel
theorem dX0_isGood_2 : decode cX0_isGood 2 = .ok (.aload_n 0, 1) := by decide +kernel
theorem dX0_isGood_3 : decode cX0_isGood 3 = .ok (.getfield 18, 3) := by decide +kernel
theorem dX0_isGood_6 : decode cX0_isGood 6 = .ok (.getfield 22, 3) := by decide +kernel
theorem dX0_isGood_9 : decode cX0_isGood 9 = .ok (.imul, 1) := by decide +kernel
theorem dX0_isGood_10 : decode cX0_isGood 10 = .ok (.iushr, 1) := by decide +kernel
theorem dX0_isGood_11 : decode cX0_isGood 11 = .ok (.ifCond .eq 5, 3) := by decide +kernel
theorem dX0_isGood_14 : decode cX0_isGood 14 = .ok (.iconst 0, 1) := by decide +kernel
theorem dX0_isGood_15 : decode cX0_isGood 15 = .ok (.ireturn, 1) := by decide +kernel
theorem dX0_isGood_16 : decode cX0_isGood 16 = .ok (.iconst 0, 1) := by decide +kernel
theorem dX0_isGood_17 : decode cX0_isGood 17 = .ok (.istore_n 2, 1) := by decide +kernel
theorem dX0_isGood_18 : decode cX0_isGood 18 = .ok (.iconst 0, 1) := by decide +kernel
theorem dX0_isGood_19 : decode cX0_isGood 19 = .ok (.istore_n 3, 1) := by decide +kernel
theorem dX0_isGood_20 : decode cX0_isGood 20 = .ok (.iload_n 3, 1) := by decide +kernel
theorem dX0_isGood_21 : decode cX0_isGood 21 = .ok (.aload_n 0, 1) := by decide +kernel
theorem dX0_isGood_22 : decode cX0_isGood 22 = .ok (.getfield 18, 3) := by decide +kernel
theorem dX0_isGood_25 : decode cX0_isGood 25 = .ok (.getfield 22, 3) := by decide +kernel
theorem dX0_isGood_28 : decode cX0_isGood 28 = .ok (.if_icmp .ge 59, 3) := by decide +kernel
theorem dX0_isGood_31 : decode cX0_isGood 31 = .ok (.iload_n 1, 1) := by decide +kernel
theorem dX0_isGood_32 : decode cX0_isGood 32 = .ok (.iconst 4, 1) := by decide +kernel
theorem dX0_isGood_33 : decode cX0_isGood 33 = .ok (.iload_n 3, 1) := by decide +kernel
theorem dX0_isGood_34 : decode cX0_isGood 34 = .ok (.imul, 1) := by decide +kernel
theorem dX0_isGood_35 : decode cX0_isGood 35 = .ok (.ishr, 1) := by decide +kernel
theorem dX0_isGood_36 : decode cX0_isGood 36 = .ok (.bipush 15, 2) := by decide +kernel
theorem dX0_isGood_38 : decode cX0_isGood 38 = .ok (.iand, 1) := by decide +kernel
theorem dX0_isGood_39 : decode cX0_isGood 39 = .ok (.istore 4, 2) := by decide +kernel
theorem dX0_isGood_41 : decode cX0_isGood 41 = .ok (.aload_n 0, 1) := by decide +kernel
theorem dX0_isGood_42 : decode cX0_isGood 42 = .ok (.getfield 18, 3) := by decide +kernel
theorem dX0_isGood_45 : decode cX0_isGood 45 = .ok (.iload 4, 2) := by decide +kernel
theorem dX0_isGood_47 : decode cX0_isGood 47 = .ok (.invokevirtual 50, 3) := by decide +kernel
theorem dX0_isGood_50 : decode cX0_isGood 50 = .ok (.ifCond .eq 22, 3) := by decide +kernel
theorem dX0_isGood_53 : decode cX0_isGood 53 = .ok (.iload 4, 2) := by decide +kernel
theorem dX0_isGood_55 : decode cX0_isGood 55 = .ok (.iload_n 2, 1) := by decide +kernel
theorem dX0_isGood_56 : decode cX0_isGood 56 = .ok (.invokestatic 32, 3) := by decide +kernel
theorem dX0_isGood_59 : decode cX0_isGood 59 = .ok (.ifCond .ne 13, 3) := by decide +kernel
theorem dX0_isGood_62 : decode cX0_isGood 62 = .ok (.aload_n 0, 1) := by decide +kernel
theorem dX0_isGood_63 : decode cX0_isGood 63 = .ok (.iload 4, 2) := by decide +kernel
theorem dX0_isGood_65 : decode cX0_isGood 65 = .ok (.iload_n 2, 1) := by decide +kernel
theorem dX0_isGood_66 : decode cX0_isGood 66 = .ok (.invokevirtual 36, 3) := by decide +kernel
theorem dX0_isGood_69 : decode cX0_isGood 69 = .ok (.ifCond .ne 5, 3) := by decide +kernel
theorem dX0_isGood_72 : decode cX0_isGood 72 = .ok (.iconst 0, 1) := by decide +kernel
theorem dX0_isGood_73 : decode cX0_isGood 73 = .ok (.ireturn, 1) := by decide +kernel
theorem dX0_isGood_74 : decode cX0_isGood 74 = .ok (.iload_n 2, 1) := by decide +kernel
theorem dX0_isGood_75 : decode cX0_isGood 75 = .ok (.iconst 1, 1) := by decide +kernel
theorem dX0_isGood_76 : decode cX0_isGood 76 = .ok (.iload 4, 2) := by decide +kernel
theorem dX0_isGood_78 : decode cX0_isGood 78 = .ok (.ishl, 1) := by decide +kernel
theorem dX0_isGood_79 : decode cX0_isGood 79 = .ok (.ior, 1) := by decide +kernel
theorem dX0_isGood_80 : decode cX0_isGood 80 = .ok (.istore_n 2, 1) := by decide +kernel
theorem dX0_isGood_81 : decode cX0_isGood 81 = .ok (.iinc 3 1, 3) := by decide +kernel
theorem dX0_isGood_84 : decode cX0_isGood 84 = .ok (.goto (-64), 3) := by decide +kernel
theorem dX0_isGood_87 : decode cX0_isGood 87 = .ok (.iconst 1, 1) := by decide +kernel
theorem dX0_isGood_88 : decode cX0_isGood 88 = .ok (.ireturn, 1) := by decide +kernel
theorem dX0_placeOf_0 : decode cX0_placeOf 0 = .ok (.iconst 0, 1) := by decide +kernel
theorem dX0_placeOf_1 : decode cX0_placeOf 1 = .ok (.istore_n 2, 1) := by decide +kernel
theorem dX0_placeOf_2 : decode cX0_placeOf 2 = .ok (.iload_n 2, 1) := by decide +kernel
theorem dX0_placeOf_3 : decode cX0_placeOf 3 = .ok (.aload_n 0, 1) := by decide +kernel
theorem dX0_placeOf_4 : decode cX0_placeOf 4 = .ok (.getfield 18, 3) := by decide +kernel
theorem dX0_placeOf_7 : decode cX0_placeOf 7 = .ok (.getfield 22, 3) := by decide +kernel
theorem dX0_placeOf_10 : decode cX0_placeOf 10 = .ok (.if_icmp .ge 21, 3) := by decide +kernel
theorem dX0_placeOf_13 : decode cX0_placeOf 13 = .ok (.aload_n 0, 1) := by decide +kernel
theorem dX0_placeOf_14 : decode cX0_placeOf 14 = .ok (.getfield 9, 3) := by decide +kernel
theorem dX0_placeOf_17 : decode cX0_placeOf 17 = .ok (.iload_n 2, 1) := by decide +kernel
theorem dX0_placeOf_18 : decode cX0_placeOf 18 = .ok (.iaload, 1) := by decide +kernel
theorem dX0_placeOf_19 : decode cX0_placeOf 19 = .ok (.iload_n 1, 1) := by decide +kernel
theorem dX0_placeOf_20 : decode cX0_placeOf 20 = .ok (.if_icmp .ne 5, 3) := by decide +kernel
theorem dX0_placeOf_23 : decode cX0_placeOf 23 = .ok (.iload_n 2, 1) := by decide +kernel
theorem dX0_placeOf_24 : decode cX0_placeOf 24 = .ok (.ireturn, 1) := by decide +kernel
theorem dX0_placeOf_25 : decode cX0_placeOf 25 = .ok (.iinc 2 1, 3) := by decide +kernel
theorem dX0_placeOf_28 : decode cX0_placeOf 28 = .ok (.goto (-26), 3) := by decide +kernel
theorem dX0_placeOf_31 : decode cX0_placeOf 31 = .ok (.iconst (-1), 1) := by decide +kernel
theorem dX0_placeOf_32 : decode cX0_placeOf 32 = .ok (.ireturn, 1) := by decide +kernel
theorem dX0_countGood_0 : decode cX0_countGood 0 = .ok (.iconst 1, 1) := by decide +kernel
theorem dX0_countGood_1 : decode cX0_countGood 1 = .ok (.aload_n 0, 1) := by decide +kernel
theorem dX0_countGood_2 : decode cX0_countGood 2 = .ok (.getfield 18, 3) := by decide +kernel
theorem dX0_countGood_5 : decode cX0_countGood 5 = .ok (.getfield 22, 3) := by decide +kernel
theorem dX0_countGood_8 : decode cX0_countGood 8 = .ok (.ishl, 1) := by decide +kernel
theorem dX0_countGood_9 : decode cX0_countGood 9 = .ok (.istore_n 1, 1) := by decide +kernel
theorem dX0_countGood_10 : decode cX0_countGood 10 = .ok (.aload_n 0, 1) := by decide +kernel
theorem dX0_countGood_11 : decode cX0_countGood 11 = .ok (.getfield 15, 3) := by decide +kernel
theorem dX0_countGood_14 : decode cX0_countGood 14 = .ok (.iconst 0, 1) := by decide +kernel
theorem dX0_countGood_15 : decode cX0_countGood 15 = .ok (.iconst 1, 1) := by decide +kernel
theorem dX0_countGood_16 : decode cX0_countGood 16 = .ok (.iastore, 1) := by decide +kernel
theorem dX0_countGood_17 : decode cX0_countGood 17 = .ok (.iconst 1, 1) := by decide +kernel
theorem dX0_countGood_18 : decode cX0_countGood 18 = .ok (.istore_n 2, 1) := by decide +kernel
theorem dX0_countGood_19 : decode cX0_countGood 19 = .ok (.iload_n 2, 1) := by decide +kernel
theorem dX0_countGood_20 : decode cX0_countGood 20 = .ok (.iload_n 1, 1) := by decide +kernel
theorem dX0_countGood_21 : decode cX0_countGood 21 = .ok (.if_icmp .ge 65, 3) := by decide +kernel
theorem dX0_countGood_24 : decode cX0_countGood 24 = .ok (.aload_n 0, 1) := by decide +kernel
theorem dX0_countGood_25 : decode cX0_countGood 25 = .ok (.getfield 15, 3) := by decide +kernel
theorem dX0_countGood_28 : decode cX0_countGood 28 = .ok (.iload_n 2, 1) := by decide +kernel
theorem dX0_countGood_29 : decode cX0_countGood 29 = .ok (.iconst 0, 1) := by decide +kernel
theorem dX0_countGood_30 : decode cX0_countGood 30 = .ok (.iastore, 1) := by decide +kernel
theorem dX0_countGood_31 : decode cX0_countGood 31 = .ok (.iconst 0, 1) := by decide +kernel
theorem dX0_countGood_32 : decode cX0_countGood 32 = .ok (.istore_n 3, 1) := by decide +kernel
theorem dX0_countGood_33 : decode cX0_countGood 33 = .ok (.iload_n 3, 1) := by decide +kernel
theorem dX0_countGood_34 : decode cX0_countGood 34 = .ok (.aload_n 0, 1) := by decide +kernel
theorem dX0_countGood_35 : decode cX0_countGood 35 = .ok (.getfield 18, 3) := by decide +kernel
theorem dX0_countGood_38 : decode cX0_countGood 38 = .ok (.getfield 22, 3) := by decide +kernel
theorem dX0_countGood_41 : decode cX0_countGood 41 = .ok (.if_icmp .ge 39, 3) := by decide +kernel
theorem dX0_countGood_44 : decode cX0_countGood 44 = .ok (.aload_n 0, 1) := by decide +kernel
theorem dX0_countGood_45 : decode cX0_countGood 45 = .ok (.iload_n 3, 1) := by decide +kernel
theorem dX0_countGood_46 : decode cX0_countGood 46 = .ok (.iload_n 2, 1) := by decide +kernel
theorem dX0_countGood_47 : decode cX0_countGood 47 = .ok (.invokevirtual 53, 3) := by decide +kernel
theorem dX0_countGood_50 : decode cX0_countGood 50 = .ok (.ifCond .eq 24, 3) := by decide +kernel
theorem dX0_countGood_53 : decode cX0_countGood 53 = .ok (.aload_n 0, 1) := by decide +kernel
theorem dX0_countGood_54 : decode cX0_countGood 54 = .ok (.getfield 15, 3) := by decide +kernel
theorem dX0_countGood_57 : decode cX0_countGood 57 = .ok (.iload_n 2, 1) := by decide +kernel
theorem dX0_countGood_58 : decode cX0_countGood 58 = .ok (.dup2, 1) := by decide +kernel
theorem dX0_countGood_59 : decode cX0_countGood 59 = .ok (.iaload, 1) := by decide +kernel
theorem dX0_countGood_60 : decode cX0_countGood 60 = .ok (.aload_n 0, 1) := by decide +kernel
theorem dX0_countGood_61 : decode cX0_countGood 61 = .ok (.getfield 15, 3) := by decide +kernel
theorem dX0_countGood_64 : decode cX0_countGood 64 = .ok (.iload_n 2, 1) := by decide +kernel
theorem dX0_countGood_65 : decode cX0_countGood 65 = .ok (.iconst 1, 1) := by decide +kernel
theorem dX0_countGood_66 : decode cX0_countGood 66 = .ok (.iload_n 3, 1) := by decide +kernel
theorem dX0_countGood_67 : decode cX0_countGood 67 = .ok (.ishl, 1) := by decide +kernel
theorem dX0_countGood_68 : decode cX0_countGood 68 = .ok (.iconst (-1), 1) := by decide +kernel
theorem dX0_countGood_69 : decode cX0_countGood 69 = .ok (.ixor, 1) := by decide +kernel
theorem dX0_countGood_70 : decode cX0_countGood 70 = .ok (.iand, 1) := by decide +kernel
theorem dX0_countGood_71 : decode cX0_countGood 71 = .ok (.iaload, 1) := by decide +kernel
theorem dX0_countGood_72 : decode cX0_countGood 72 = .ok (.iadd, 1) := by decide +kernel
theorem dX0_countGood_73 : decode cX0_countGood 73 = .ok (.iastore, 1) := by decide +kernel
theorem dX0_countGood_74 : decode cX0_countGood 74 = .ok (.iinc 3 1, 3) := by decide +kernel
theorem dX0_countGood_77 : decode cX0_countGood 77 = .ok (.goto (-44), 3) := by decide +kernel
theorem dX0_countGood_80 : decode cX0_countGood 80 = .ok (.iinc 2 1, 3) := by decide +kernel
theorem dX0_countGood_83 : decode cX0_countGood 83 = .ok (.goto (-64), 3) := by decide +kernel
theorem dX0_countGood_86 : decode cX0_countGood 86 = .ok (.aload_n 0, 1) := by decide +kernel
theorem dX0_countGood_87 : decode cX0_countGood 87 = .ok (.getfield 15, 3) := by decide +kernel
theorem dX0_countGood_90 : decode cX0_countGood 90 = .ok (.iload_n 1, 1) := by decide +kernel
theorem dX0_countGood_91 : decode cX0_countGood 91 = .ok (.iconst 1, 1) := by decide +kernel
theorem dX0_countGood_92 : decode cX0_countGood 92 = .ok (.isub, 1) := by decide +kernel
theorem dX0_countGood_93 : decode cX0_countGood 93 = .ok (.iaload, 1) := by decide +kernel
theorem dX0_countGood_94 : decode cX0_countGood 94 = .ok (.ireturn, 1) := by decide +kernel
theorem dX0_canBeLast_0 : decode cX0_canBeLast 0 = .ok (.aload_n 0, 1) := by decide +kernel
theorem dX0_canBeLast_1 : decode cX0_canBeLast 1 = .ok (.getfield 18, 3) := by decide +kernel
theorem dX0_canBeLast_4 : decode cX0_canBeLast 4 = .ok (.getfield 39, 3) := by decide +kernel
theorem dX0_canBeLast_7 : decode cX0_canBeLast 7 = .ok (.iload_n 1, 1) := by decide +kernel
theorem dX0_canBeLast_8 : decode cX0_canBeLast 8 = .ok (.iaload, 1) := by decide +kernel
theorem dX0_canBeLast_9 : decode cX0_canBeLast 9 = .ok (.istore_n 3, 1) := by decide +kernel
theorem dX0_canBeLast_10 : decode cX0_canBeLast 10 = .ok (.iload_n 1, 1) := by decide +kernel
theorem dX0_canBeLast_11 : decode cX0_canBeLast 11 = .ok (.iload_n 2, 1) := by decide +kernel
theorem dX0_canBeLast_12 : decode cX0_canBeLast 12 = .ok (.invokestatic 32, 3) := by decide +kernel
theorem dX0_canBeLast_15 : decode cX0_canBeLast 15 = .ok (.ifCond .eq 20, 3) := by decide +kernel
theorem dX0_canBeLast_18 : decode cX0_canBeLast 18 = .ok (.iload_n 3, 1) := by decide +kernel
theorem dX0_canBeLast_19 : decode cX0_canBeLast 19 = .ok (.iconst (-1), 1) := by decide +kernel
theorem dX0_canBeLast_20 : decode cX0_canBeLast 20 = .ok (.if_icmp .eq 11, 3) := by decide +kernel
theorem dX0_canBeLast_23 : decode cX0_canBeLast 23 = .ok (.iload_n 3, 1) := by decide +kernel
theorem dX0_canBeLast_24 : decode cX0_canBeLast 24 = .ok (.iload_n 2, 1) := by decide +kernel
theorem dX0_canBeLast_25 : decode cX0_canBeLast 25 = .ok (.invokestatic 32, 3) := by decide +kernel
theorem dX0_canBeLast_28 : decode cX0_canBeLast 28 = .ok (.ifCond .ne 7, 3) := by decide +kernel
theorem dX0_canBeLast_31 : decode cX0_canBeLast 31 = .ok (.iconst 1, 1) := by decide +kernel
theorem dX0_canBeLast_32 : decode cX0_canBeLast 32 = .ok (.goto 4, 3) := by decide +kernel
theorem dX0_canBeLast_35 : decode cX0_canBeLast 35 = .ok (.iconst 0, 1) := by decide +kernel
theorem dX0_canBeLast_36 : decode cX0_canBeLast 36 = .ok (.ireturn, 1) := by decide +kernel
theorem dX1_init_0 : decode cX1_init 0 = .ok (.aload_n 0, 1) := by decide +kernel
theorem dX1_init_1 : decode cX1_init 1 = .ok (.invokespecial 3, 3) := by decide +kernel
theorem dX1_init_4 : decode cX1_init 4 = .ok (.aload_n 0, 1) := by decide +kernel
theorem dX1_init_5 : decode cX1_init 5 = .ok (.bipush 65, 2) := by decide +kernel
theorem dX1_init_7 : decode cX1_init 7 = .ok (.newarray .int, 2) := by decide +kernel
theorem dX1_init_9 : decode cX1_init 9 = .ok (.putfield 9, 3) := by decide +kernel
theorem dX1_init_12 : decode cX1_init 12 = .ok (.aload_n 0, 1) := by decide +kernel
theorem dX1_init_13 : decode cX1_init 13 = .ok (.bipush 8, 2) := by decide +kernel
theorem dX1_init_15 : decode cX1_init 15 = .ok (.newarray .int, 2) := by decide +kernel
theorem dX1_init_17 : decode cX1_init 17 = .ok (.putfield 15, 3) := by decide +kernel
theorem dX1_init_20 : decode cX1_init 20 = .ok (.aload_n 0, 1) := by decide +kernel
theorem dX1_init_21 : decode cX1_init 21 = .ok (.sipush 195, 3) := by decide +kernel
theorem dX1_init_24 : decode cX1_init 24 = .ok (.newarray .int, 2) := by decide +kernel
theorem dX1_init_26 : decode cX1_init 26 = .ok (.putfield 18, 3) := by decide +kernel
theorem dX1_init_29 : decode cX1_init 29 = .ok (.aload_n 0, 1) := by decide +kernel
theorem dX1_init_30 : decode cX1_init 30 = .ok (.bipush 65, 2) := by decide +kernel
theorem dX1_init_32 : decode cX1_init 32 = .ok (.newarray .int, 2) := by decide +kernel
theorem dX1_init_34 : decode cX1_init 34 = .ok (.putfield 21, 3) := by decide +kernel
theorem dX1_init_37 : decode cX1_init 37 = .ok (.aload_n 0, 1) := by decide +kernel
theorem dX1_init_38 : decode cX1_init 38 = .ok (.aload_n 1, 1) := by decide +kernel
theorem dX1_init_39 : decode cX1_init 39 = .ok (.putfield 24, 3) := by decide +kernel
theorem dX1_init_42 : decode cX1_init 42 = .ok (.aload_n 0, 1) := by decide +kernel
theorem dX1_init_43 : decode cX1_init 43 = .ok (.aload_n 2, 1) := by decide +kernel
theorem dX1_init_44 : decode cX1_init 44 = .ok (.putfield 28, 3) := by decide +kernel
theorem dX1_init_47 : decode cX1_init 47 = .ok (.aload_n 0, 1) := by decide +kernel
theorem dX1_init_48 : decode cX1_init 48 = .ok (.aload_n 3, 1) := by decide +kernel
theorem dX1_init_49 : decode cX1_init 49 = .ok (.putfield 32, 3) := by decide +kernel
theorem dX1_init_52 : decode cX1_init 52 = .ok (.return_, 1) := by decide +kernel
theorem dX1_takeOpen_0 : decode cX1_takeOpen 0 = .ok (.aload_n 0, 1) := by decide +kernel
theorem dX1_takeOpen_1 : decode cX1_takeOpen 1 = .ok (.getfield 15, 3) := by decide +kernel
theorem dX1_takeOpen_4 : decode cX1_takeOpen 4 = .ok (.iconst 0, 1) := by decide +kernel
theorem dX1_takeOpen_5 : decode cX1_takeOpen 5 = .ok (.invokestatic 36, 3) := by decide +kernel
theorem dX1_takeOpen_8 : decode cX1_takeOpen 8 = .ok (.aload_n 0, 1) := by decide +kernel
theorem dX1_takeOpen_9 : decode cX1_takeOpen 9 = .ok (.getfield 15, 3) := by decide +kernel
theorem dX1_takeOpen_12 : decode cX1_takeOpen 12 = .ok (.iconst 0, 1) := by decide +kernel
theorem dX1_takeOpen_13 : decode cX1_takeOpen 13 = .ok (.iconst 1, 1) := by decide +kernel
theorem dX1_takeOpen_14 : decode cX1_takeOpen 14 = .ok (.iastore, 1) := by decide +kernel
theorem dX1_takeOpen_15 : decode cX1_takeOpen 15 = .ok (.iconst 1, 1) := by decide +kernel
theorem dX1_takeOpen_16 : decode cX1_takeOpen 16 = .ok (.aload_n 0, 1) := by decide +kernel
theorem dX1_takeOpen_17 : decode cX1_takeOpen 17 = .ok (.getfield 24, 3) := by decide +kernel
theorem dX1_takeOpen_20 : decode cX1_takeOpen 20 = .ok (.getfield 42, 3) := by decide +kernel
theorem dX1_takeOpen_23 : decode cX1_takeOpen 23 = .ok (.ishl, 1) := by decide +kernel
theorem dX1_takeOpen_24 : decode cX1_takeOpen 24 = .ok (.istore_n 1, 1) := by decide +kernel
theorem dX1_takeOpen_25 : decode cX1_takeOpen 25 = .ok (.iconst 0, 1) := by decide +kernel
theorem dX1_takeOpen_26 : decode cX1_takeOpen 26 = .ok (.istore_n 2, 1) := by decide +kernel
theorem dX1_takeOpen_27 : decode cX1_takeOpen 27 = .ok (.iload_n 2, 1) := by decide +kernel
theorem dX1_takeOpen_28 : decode cX1_takeOpen 28 = .ok (.iload_n 1, 1) := by decide +kernel
theorem dX1_takeOpen_29 : decode cX1_takeOpen 29 = .ok (.if_icmp .ge 37, 3) := by decide +kernel
theorem dX1_takeOpen_32 : decode cX1_takeOpen 32 = .ok (.aload_n 0, 1) := by decide +kernel
theorem dX1_takeOpen_33 : decode cX1_takeOpen 33 = .ok (.getfield 32, 3) := by decide +kernel
theorem dX1_takeOpen_36 : decode cX1_takeOpen 36 = .ok (.getfield 48, 3) := by decide +kernel
theorem dX1_takeOpen_39 : decode cX1_takeOpen 39 = .ok (.iload_n 2, 1) := by decide +kernel
theorem dX1_takeOpen_40 : decode cX1_takeOpen 40 = .ok (.iaload, 1) := by decide +kernel
theorem dX1_takeOpen_41 : decode cX1_takeOpen 41 = .ok (.istore_n 3, 1) := by decide +kernel
theorem dX1_takeOpen_42 : decode cX1_takeOpen 42 = .ok (.aload_n 0, 1) := by decide +kernel
theorem dX1_takeOpen_43 : decode cX1_takeOpen 43 = .ok (.getfield 15, 3) := by decide +kernel
theorem dX1_takeOpen_46 : decode cX1_takeOpen 46 = .ok (.iload_n 3, 1) := by decide +kernel
theorem dX1_takeOpen_47 : decode cX1_takeOpen 47 = .ok (.bipush 32, 2) := by decide +kernel
theorem dX1_takeOpen_49 : decode cX1_takeOpen 49 = .ok (.idiv, 1) := by decide +kernel
theorem dX1_takeOpen_50 : decode cX1_takeOpen 50 = .ok (.dup2, 1) := by decide +kernel
theorem dX1_takeOpen_51 : decode cX1_takeOpen 51 = .ok (.iaload, 1) := by decide +kernel
theorem dX1_takeOpen_52 : decode cX1_takeOpen 52 = .ok (.iconst 1, 1) := by decide +kernel
theorem dX1_takeOpen_53 : decode cX1_takeOpen 53 = .ok (.iload_n 3, 1) := by decide +kernel
theorem dX1_takeOpen_54 : decode cX1_takeOpen 54 = .ok (.bipush 32, 2) := by decide +kernel
theorem dX1_takeOpen_56 : decode cX1_takeOpen 56 = .ok (.irem, 1) := by decide +kernel
theorem dX1_takeOpen_57 : decode cX1_takeOpen 57 = .ok (.ishl, 1) := by decide +kernel
theorem dX1_takeOpen_58 : decode cX1_takeOpen 58 = .ok (.ior, 1) := by decide +kernel
theorem dX1_takeOpen_59 : decode cX1_takeOpen 59 = .ok (.iastore, 1) := by decide +kernel
theorem dX1_takeOpen_60 : decode cX1_takeOpen 60 = .ok (.iinc 2 1, 3) := by decide +kernel
theorem dX1_takeOpen_63 : decode cX1_takeOpen 63 = .ok (.goto (-36), 3) := by decide +kernel
theorem dX1_takeOpen_66 : decode cX1_takeOpen 66 = .ok (.aload_n 0, 1) := by decide +kernel
theorem dX1_takeOpen_67 : decode cX1_takeOpen 67 = .ok (.iconst 0, 1) := by decide +kernel
theorem dX1_takeOpen_68 : decode cX1_takeOpen 68 = .ok (.putfield 53, 3) := by decide +kernel
theorem dX1_takeOpen_71 : decode cX1_takeOpen 71 = .ok (.iconst 0, 1) := by decide +kernel
theorem dX1_takeOpen_72 : decode cX1_takeOpen 72 = .ok (.istore_n 2, 1) := by decide +kernel
theorem dX1_takeOpen_73 : decode cX1_takeOpen 73 = .ok (.iload_n 2, 1) := by decide +kernel
theorem dX1_takeOpen_74 : decode cX1_takeOpen 74 = .ok (.sipush 256, 3) := by decide +kernel
theorem dX1_takeOpen_77 : decode cX1_takeOpen 77 = .ok (.if_icmp .ge 57, 3) := by decide +kernel
theorem dX1_takeOpen_80 : decode cX1_takeOpen 80 = .ok (.aload_n 0, 1) := by decide +kernel
theorem dX1_takeOpen_81 : decode cX1_takeOpen 81 = .ok (.getfield 53, 3) := by decide +kernel
theorem dX1_takeOpen_84 : decode cX1_takeOpen 84 = .ok (.bipush 65, 2) := by decide +kernel
theorem dX1_takeOpen_86 : decode cX1_takeOpen 86 = .ok (.if_icmp .ge 48, 3) := by decide +kernel
theorem dX1_takeOpen_89 : decode cX1_takeOpen 89 = .ok (.iload_n 2, 1) := by decide +kernel
theorem dX1_takeOpen_90 : decode cX1_takeOpen 90 = .ok (.bipush 32, 2) := by decide +kernel
theorem dX1_takeOpen_92 : decode cX1_takeOpen 92 = .ok (.irem, 1) := by decide +kernel
theorem dX1_takeOpen_93 : decode cX1_takeOpen 93 = .ok (.aload_n 0, 1) := by decide +kernel
theorem dX1_takeOpen_94 : decode cX1_takeOpen 94 = .ok (.getfield 15, 3) := by decide +kernel
theorem dX1_takeOpen_97 : decode cX1_takeOpen 97 = .ok (.iload_n 2, 1) := by decide +kernel
theorem dX1_takeOpen_98 : decode cX1_takeOpen 98 = .ok (.bipush 32, 2) := by decide +kernel
theorem dX1_takeOpen_100 : decode cX1_takeOpen 100 = .ok (.idiv, 1) := by decide +kernel
theorem dX1_takeOpen_101 : decode cX1_takeOpen 101 = .ok (.iaload, 1) := by decide +kernel
theorem dX1_takeOpen_102 : decode cX1_takeOpen 102 = .ok (.invokestatic 56, 3) := by decide +kernel
theorem dX1_takeOpen_105 : decode cX1_takeOpen 105 = .ok (.ifCond .eq 23, 3) := by decide +kernel
theorem dX1_takeOpen_108 : decode cX1_takeOpen 108 = .ok (.aload_n 0, 1) := by decide +kernel
theorem dX1_takeOpen_109 : decode cX1_takeOpen 109 = .ok (.getfield 9, 3) := by decide +kernel
theorem dX1_takeOpen_112 : decode cX1_takeOpen 112 = .ok (.aload_n 0, 1) := by decide +kernel
theorem dX1_takeOpen_113 : decode cX1_takeOpen 113 = .ok (.getfield 53, 3) := by decide +kernel
theorem dX1_takeOpen_116 : decode cX1_takeOpen 116 = .ok (.iload_n 2, 1) := by decide +kernel
theorem dX1_takeOpen_117 : decode cX1_takeOpen 117 = .ok (.iastore, 1) := by decide +kernel
theorem dX1_takeOpen_118 : decode cX1_takeOpen 118 = .ok (.aload_n 0, 1) := by decide +kernel
theorem dX1_takeOpen_119 : decode cX1_takeOpen 119 = .ok (.dup, 1) := by decide +kernel
theorem dX1_takeOpen_120 : decode cX1_takeOpen 120 = .ok (.getfield 53, 3) := by decide +kernel
theorem dX1_takeOpen_123 : decode cX1_takeOpen 123 = .ok (.iconst 1, 1) := by decide +kernel
theorem dX1_takeOpen_124 : decode cX1_takeOpen 124 = .ok (.iadd, 1) := by decide +kernel
theorem dX1_takeOpen_125 : decode cX1_takeOpen 125 = .ok (.putfield 53, 3) := by decide +kernel
theorem dX1_takeOpen_128 : decode cX1_takeOpen 128 = .ok (.iinc 2 1, 3) := by decide +kernel
theorem dX1_takeOpen_131 : decode cX1_takeOpen 131 = .ok (.goto (-58), 3) := by decide +kernel
theorem dX1_takeOpen_134 : decode cX1_takeOpen 134 = .ok (.aload_n 0, 1) := by decide +kernel
theorem dX1_takeOpen_135 : decode cX1_takeOpen 135 = .ok (.invokevirtual 60, 3) := by decide +kernel
theorem dX1_takeOpen_138 : decode cX1_takeOpen 138 = .ok (.return_, 1) := by decide +kernel
theorem dX1_forgetBeaten_0 : decode cX1_forgetBeaten 0 = .ok (.aload_n 0, 1) := by decide +kernel
theorem dX1_forgetBeaten_1 : decode cX1_forgetBeaten 1 = .ok (.iconst 0, 1) := by decide +kernel
theorem dX1_forgetBeaten_2 : decode cX1_forgetBeaten 2 = .ok (.putfield 63, 3) := by decide +kernel
theorem dX1_forgetBeaten_5 : decode cX1_forgetBeaten 5 = .ok (.return_, 1) := by decide +kernel
theorem dX1_indexOf_0 : decode cX1_indexOf 0 = .ok (.iconst 0, 1) := by decide +kernel
theorem dX1_indexOf_1 : decode cX1_indexOf 1 = .ok (.istore_n 2, 1) := by decide +kernel
theorem dX1_indexOf_2 : decode cX1_indexOf 2 = .ok (.iload_n 2, 1) := by decide +kernel
theorem dX1_indexOf_3 : decode cX1_indexOf 3 = .ok (.aload_n 0, 1) := by decide +kernel
theorem dX1_indexOf_4 : decode cX1_indexOf 4 = .ok (.getfield 53, 3) := by decide +kernel
theorem dX1_indexOf_7 : decode cX1_indexOf 7 = .ok (.if_icmp .ge 21, 3) := by decide +kernel
theorem dX1_indexOf_10 : decode cX1_indexOf 10 = .ok (.aload_n 0, 1) := by decide +kernel
theorem dX1_indexOf_11 : decode cX1_indexOf 11 = .ok (.getfield 9, 3) := by decide +kernel
theorem dX1_indexOf_14 : decode cX1_indexOf 14 = .ok (.iload_n 2, 1) := by decide +kernel
theorem dX1_indexOf_15 : decode cX1_indexOf 15 = .ok (.iaload, 1) := by decide +kernel
theorem dX1_indexOf_16 : decode cX1_indexOf 16 = .ok (.iload_n 1, 1) := by decide +kernel
theorem dX1_indexOf_17 : decode cX1_indexOf 17 = .ok (.if_icmp .ne 5, 3) := by decide +kernel
theorem dX1_indexOf_20 : decode cX1_indexOf 20 = .ok (.iload_n 2, 1) := by decide +kernel
theorem dX1_indexOf_21 : decode cX1_indexOf 21 = .ok (.ireturn, 1) := by decide +kernel
theorem dX1_indexOf_22 : decode cX1_indexOf 22 = .ok (.iinc 2 1, 3) := by decide +kernel
theorem dX1_indexOf_25 : decode cX1_indexOf 25 = .ok (.goto (-23), 3) := by decide +kernel
theorem dX1_indexOf_28 : decode cX1_indexOf 28 = .ok (.iconst (-1), 1) := by decide +kernel
theorem dX1_indexOf_29 : decode cX1_indexOf 29 = .ok (.ireturn, 1) := by decide +kernel
theorem dX1_learnBeaten_0 : decode cX1_learnBeaten 0 = .ok (.aload_n 0, 1) := by decide +kernel
theorem dX1_learnBeaten_1 : decode cX1_learnBeaten 1 = .ok (.getfield 63, 3) := by decide +kernel
theorem dX1_learnBeaten_4 : decode cX1_learnBeaten 4 = .ok (.ifCond .eq 4, 3) := by decide +kernel
theorem dX1_learnBeaten_7 : decode cX1_learnBeaten 7 = .ok (.return_, 1) := by decide +kernel
theorem dX1_learnBeaten_8 : decode cX1_learnBeaten 8 = .ok (.aload_n 0, 1) := by decide +kernel
theorem dX1_learnBeaten_9 : decode cX1_learnBeaten 9 = .ok (.getfield 18, 3) := by decide +kernel
theorem dX1_learnBeaten_12 : decode cX1_learnBeaten 12 = .ok (.iconst 0, 1) := by decide +kernel
theorem dX1_learnBeaten_13 : decode cX1_learnBeaten 13 = .ok (.invokestatic 36, 3) := by decide +kernel
theorem dX1_learnBeaten_16 : decode cX1_learnBeaten 16 = .ok (.iconst 0, 1) := by decide +kernel
theorem dX1_learnBeaten_17 : decode cX1_learnBeaten 17 = .ok (.istore_n 1, 1) := by decide +kernel
theorem dX1_learnBeaten_18 : decode cX1_learnBeaten 18 = .ok (.iload_n 1, 1) := by decide +kernel
theorem dX1_learnBeaten_19 : decode cX1_learnBeaten 19 = .ok (.aload_n 0, 1) := by decide +kernel
theorem dX1_learnBeaten_20 : decode cX1_learnBeaten 20 = .ok (.getfield 53, 3) := by decide +kernel
theorem dX1_learnBeaten_23 : decode cX1_learnBeaten 23 = .ok (.if_icmp .ge 28, 3) := by decide +kernel
theorem dX1_learnBeaten_26 : decode cX1_learnBeaten 26 = .ok (.iconst 0, 1) := by decide +kernel
theorem dX1_learnBeaten_27 : decode cX1_learnBeaten 27 = .ok (.istore_n 2, 1) := by decide +kernel
theorem dX1_learnBeaten_28 : decode cX1_learnBeaten 28 = .ok (.iload_n 2, 1) := by decide +kernel
theorem dX1_learnBeaten_29 : decode cX1_learnBeaten 29 = .ok (.iload_n 1, 1) := by decide +kernel
theorem dX1_learnBeaten_30 : decode cX1_learnBeaten 30 = .ok (.if_icmp .ge 15, 3) := by decide +kernel
theorem dX1_learnBeaten_33 : decode cX1_learnBeaten 33 = .ok (.aload_n 0, 1) := by decide +kernel
theorem dX1_learnBeaten_34 : decode cX1_learnBeaten 34 = .ok (.iload_n 1, 1) := by decide +kernel
theorem dX1_learnBeaten_35 : decode cX1_learnBeaten 35 = .ok (.iload_n 2, 1) := by decide +kernel
theorem dX1_learnBeaten_36 : decode cX1_learnBeaten 36 = .ok (.invokevirtual 67, 3) := by decide +kernel
theorem dX1_learnBeaten_39 : decode cX1_learnBeaten 39 = .ok (.iinc 2 1, 3) := by decide +kernel
theorem dX1_learnBeaten_42 : decode cX1_learnBeaten 42 = .ok (.goto (-14), 3) := by decide +kernel
theorem dX1_learnBeaten_45 : decode cX1_learnBeaten 45 = .ok (.iinc 1 1, 3) := by decide +kernel
theorem dX1_learnBeaten_48 : decode cX1_learnBeaten 48 = .ok (.goto (-30), 3) := by decide +kernel
theorem dX1_learnBeaten_51 : decode cX1_learnBeaten 51 = .ok (.aload_n 0, 1) := by decide +kernel
theorem dX1_learnBeaten_52 : decode cX1_learnBeaten 52 = .ok (.invokevirtual 71, 3) := by decide +kernel
theorem dX1_learnBeaten_55 : decode cX1_learnBeaten 55 = .ok (.aload_n 0, 1) := by decide +kernel
theorem dX1_learnBeaten_56 : decode cX1_learnBeaten 56 = .ok (.iconst 1, 1) := by decide +kernel
theorem dX1_learnBeaten_57 : decode cX1_learnBeaten 57 = .ok (.putfield 63, 3) := by decide +kernel
theorem dX1_learnBeaten_60 : decode cX1_learnBeaten 60 = .ok (.return_, 1) := by decide +kernel
theorem dX1_learnPair_0 : decode cX1_learnPair 0 = .ok (.aload_n 0, 1) := by decide +kernel
theorem dX1_learnPair_1 : decode cX1_learnPair 1 = .ok (.getfield 28, 3) := by decide +kernel
theorem dX1_learnPair_4 : decode cX1_learnPair 4 = .ok (.aload_n 0, 1) := by decide +kernel
theorem dX1_learnPair_5 : decode cX1_learnPair 5 = .ok (.getfield 9, 3) := by decide +kernel
theorem dX1_learnPair_8 : decode cX1_learnPair 8 = .ok (.iload_n 1, 1) := by decide +kernel
theorem dX1_learnPair_9 : decode cX1_learnPair 9 = .ok (.iaload, 1) := by decide +kernel
theorem dX1_learnPair_10 : decode cX1_learnPair 10 = .ok (.aload_n 0, 1) := by decide +kernel
theorem dX1_learnPair_11 : decode cX1_learnPair 11 = .ok (.getfield 9, 3) := by decide +kernel
theorem dX1_learnPair_14 : decode cX1_learnPair 14 = .ok (.iload_n 2, 1) := by decide +kernel
theorem dX1_learnPair_15 : decode cX1_learnPair 15 = .ok (.iaload, 1) := by decide +kernel
theorem dX1_learnPair_16 : decode cX1_learnPair 16 = .ok (.invokevirtual 74, 3) := by decide +kernel
theorem dX1_learnPair_19 : decode cX1_learnPair 19 = .ok (.aload_n 0, 1) := by decide +kernel
theorem dX1_learnPair_20 : decode cX1_learnPair 20 = .ok (.getfield 28, 3) := by decide +kernel
theorem dX1_learnPair_23 : decode cX1_learnPair 23 = .ok (.aload_n 0, 1) := by decide +kernel
theorem dX1_learnPair_24 : decode cX1_learnPair 24 = .ok (.getfield 9, 3) := by decide +kernel
theorem dX1_learnPair_27 : decode cX1_learnPair 27 = .ok (.iload_n 2, 1) := by decide +kernel
theorem dX1_learnPair_28 : decode cX1_learnPair 28 = .ok (.iaload, 1) := by decide +kernel
theorem dX1_learnPair_29 : decode cX1_learnPair 29 = .ok (.aload_n 0, 1) := by decide +kernel
theorem dX1_learnPair_30 : decode cX1_learnPair 30 = .ok (.getfield 9, 3) := by decide +kernel
theorem dX1_learnPair_33 : decode cX1_learnPair 33 = .ok (.iload_n 1, 1) := by decide +kernel
theorem dX1_learnPair_34 : decode cX1_learnPair 34 = .ok (.iaload, 1) := by decide +kernel
theorem dX1_learnPair_35 : decode cX1_learnPair 35 = .ok (.invokevirtual 74, 3) := by decide +kernel
theorem dX1_learnPair_38 : decode cX1_learnPair 38 = .ok (.isub, 1) := by decide +kernel
theorem dX1_learnPair_39 : decode cX1_learnPair 39 = .ok (.istore_n 3, 1) := by decide +kernel
theorem dX1_learnPair_40 : decode cX1_learnPair 40 = .ok (.iload_n 3, 1) := by decide +kernel
theorem dX1_learnPair_41 : decode cX1_learnPair 41 = .ok (.ifCond .le 12, 3) := by decide +kernel
theorem dX1_learnPair_44 : decode cX1_learnPair 44 = .ok (.aload_n 0, 1) := by decide +kernel
theorem dX1_learnPair_45 : decode cX1_learnPair 45 = .ok (.iload_n 1, 1) := by decide +kernel
theorem dX1_learnPair_46 : decode cX1_learnPair 46 = .ok (.iload_n 2, 1) := by decide +kernel
theorem dX1_learnPair_47 : decode cX1_learnPair 47 = .ok (.invokevirtual 80, 3) := by decide +kernel
theorem dX1_learnPair_50 : decode cX1_learnPair 50 = .ok (.goto 13, 3) := by decide +kernel
theorem dX1_learnPair_53 : decode cX1_learnPair 53 = .ok (.iload_n 3, 1) := by decide +kernel
theorem dX1_learnPair_54 : decode cX1_learnPair 54 = .ok (.ifCond .ge 9, 3) := by decide +kernel
theorem dX1_learnPair_57 : decode cX1_learnPair 57 = .ok (.aload_n 0, 1) := by decide +kernel
theorem dX1_learnPair_58 : decode cX1_learnPair 58 = .ok (.iload_n 2, 1) := by decide +kernel
theorem dX1_learnPair_59 : decode cX1_learnPair 59 = .ok (.iload_n 1, 1) := by decide +kernel
theorem dX1_learnPair_60 : decode cX1_learnPair 60 = .ok (.invokevirtual 80, 3) := by decide +kernel
theorem dX1_learnPair_63 : decode cX1_learnPair 63 = .ok (.return_, 1) := by decide +kernel
theorem dX1_markBeaten_0 : decode cX1_markBeaten 0 = .ok (.aload_n 0, 1) := by decide +kernel
theorem dX1_markBeaten_1 : decode cX1_markBeaten 1 = .ok (.getfield 18, 3) := by decide +kernel
theorem dX1_markBeaten_4 : decode cX1_markBeaten 4 = .ok (.iload_n 1, 1) := by decide +kernel
theorem dX1_markBeaten_5 : decode cX1_markBeaten 5 = .ok (.iconst 3, 1) := by decide +kernel
theorem dX1_markBeaten_6 : decode cX1_markBeaten 6 = .ok (.imul, 1) := by decide +kernel
theorem dX1_markBeaten_7 : decode cX1_markBeaten 7 = .ok (.iload_n 2, 1) := by decide +kernel
theorem dX1_markBeaten_8 : decode cX1_markBeaten 8 = .ok (.bipush 32, 2) := by decide +kernel
theorem dX1_markBeaten_10 : decode cX1_markBeaten 10 = .ok (.idiv, 1) := by decide +kernel
theorem dX1_markBeaten_11 : decode cX1_markBeaten 11 = .ok (.iadd, 1) := by decide +kernel
theorem dX1_markBeaten_12 : decode cX1_markBeaten 12 = .ok (.dup2, 1) := by decide +kernel
theorem dX1_markBeaten_13 : decode cX1_markBeaten 13 = .ok (.iaload, 1) := by decide +kernel
theorem dX1_markBeaten_14 : decode cX1_markBeaten 14 = .ok (.iconst 1, 1) := by decide +kernel
theorem dX1_markBeaten_15 : decode cX1_markBeaten 15 = .ok (.iload_n 2, 1) := by decide +kernel
theorem dX1_markBeaten_16 : decode cX1_markBeaten 16 = .ok (.bipush 32, 2) := by decide +kernel
theorem dX1_markBeaten_18 : decode cX1_markBeaten 18 = .ok (.irem, 1) := by decide +kernel
theorem dX1_markBeaten_19 : decode cX1_markBeaten 19 = .ok (.ishl, 1) := by decide +kernel
theorem dX1_markBeaten_20 : decode cX1_markBeaten 20 = .ok (.ior, 1) := by decide +kernel
theorem dX1_markBeaten_21 : decode cX1_markBeaten 21 = .ok (.iastore, 1) := by decide +kernel
theorem dX1_markBeaten_22 : decode cX1_markBeaten 22 = .ok (.return_, 1) := by decide +kernel
theorem dX1_isBeaten_0 : decode cX1_isBeaten 0 = .ok (.iload_n 2, 1) := by decide +kernel
theorem dX1_isBeaten_1 : decode cX1_isBeaten 1 = .ok (.bipush 32, 2) := by decide +kernel
theorem dX1_isBeaten_3 : decode cX1_isBeaten 3 = .ok (.irem, 1) := by decide +kernel
theorem dX1_isBeaten_4 : decode cX1_isBeaten 4 = .ok (.aload_n 0, 1) := by decide +kernel
theorem dX1_isBeaten_5 : decode cX1_isBeaten 5 = .ok (.getfield 18, 3) := by decide +kernel
theorem dX1_isBeaten_8 : decode cX1_isBeaten 8 = .ok (.iload_n 1, 1) := by decide +kernel
theorem dX1_isBeaten_9 : decode cX1_isBeaten 9 = .ok (.iconst 3, 1) := by decide +kernel
theorem dX1_isBeaten_10 : decode cX1_isBeaten 10 = .ok (.imul, 1) := by decide +kernel
theorem dX1_isBeaten_11 : decode cX1_isBeaten 11 = .ok (.iload_n 2, 1) := by decide +kernel
theorem dX1_isBeaten_12 : decode cX1_isBeaten 12 = .ok (.bipush 32, 2) := by decide +kernel
theorem dX1_isBeaten_14 : decode cX1_isBeaten 14 = .ok (.idiv, 1) := by decide +kernel
theorem dX1_isBeaten_15 : decode cX1_isBeaten 15 = .ok (.iadd, 1) := by decide +kernel
theorem dX1_isBeaten_16 : decode cX1_isBeaten 16 = .ok (.iaload, 1) := by decide +kernel
theorem dX1_isBeaten_17 : decode cX1_isBeaten 17 = .ok (.invokestatic 56, 3) := by decide +kernel
theorem dX1_isBeaten_20 : decode cX1_isBeaten 20 = .ok (.ireturn, 1) := by decide +kernel
theorem dX1_countBeaten_0 : decode cX1_countBeaten 0 = .ok (.iconst 0, 1) := by decide +kernel
theorem dX1_countBeaten_1 : decode cX1_countBeaten 1 = .ok (.istore_n 2, 1) := by decide +kernel
theorem dX1_countBeaten_2 : decode cX1_countBeaten 2 = .ok (.iconst 0, 1) := by decide +kernel
theorem dX1_countBeaten_3 : decode cX1_countBeaten 3 = .ok (.istore_n 3, 1) := by decide +kernel
theorem dX1_countBeaten_4 : decode cX1_countBeaten 4 = .ok (.iload_n 3, 1) := by decide +kernel
theorem dX1_countBeaten_5 : decode cX1_countBeaten 5 = .ok (.iconst 3, 1) := by decide +kernel
theorem dX1_countBeaten_6 : decode cX1_countBeaten 6 = .ok (.if_icmp .ge 25, 3) := by decide +kernel
theorem dX1_countBeaten_9 : decode cX1_countBeaten 9 = .ok (.iload_n 2, 1) := by decide +kernel
theorem dX1_countBeaten_10 : decode cX1_countBeaten 10 = .ok (.aload_n 0, 1) := by decide +kernel
theorem dX1_countBeaten_11 : decode cX1_countBeaten 11 = .ok (.getfield 18, 3) := by decide +kernel
theorem dX1_countBeaten_14 : decode cX1_countBeaten 14 = .ok (.iload_n 1, 1) := by decide +kernel
theorem dX1_countBeaten_15 : decode cX1_countBeaten 15 = .ok (.iconst 3, 1) := by decide +kernel
theorem dX1_countBeaten_16 : decode cX1_countBeaten 16 = .ok (.imul, 1) := by decide +kernel
theorem dX1_countBeaten_17 : decode cX1_countBeaten 17 = .ok (.iload_n 3, 1) := by decide +kernel
theorem dX1_countBeaten_18 : decode cX1_countBeaten 18 = .ok (.iadd, 1) := by decide +kernel
theorem dX1_countBeaten_19 : decode cX1_countBeaten 19 = .ok (.iaload, 1) := by decide +kernel
theorem dX1_countBeaten_20 : decode cX1_countBeaten 20 = .ok (.invokestatic 83, 3) := by decide +kernel
theorem dX1_countBeaten_23 : decode cX1_countBeaten 23 = .ok (.iadd, 1) := by decide +kernel
theorem dX1_countBeaten_24 : decode cX1_countBeaten 24 = .ok (.istore_n 2, 1) := by decide +kernel
theorem dX1_countBeaten_25 : decode cX1_countBeaten 25 = .ok (.iinc 3 1, 3) := by decide +kernel
theorem dX1_countBeaten_28 : decode cX1_countBeaten 28 = .ok (.goto (-24), 3) := by decide +kernel
theorem dX1_countBeaten_31 : decode cX1_countBeaten 31 = .ok (.iload_n 2, 1) := by decide +kernel
theorem dX1_countBeaten_32 : decode cX1_countBeaten 32 = .ok (.ireturn, 1) := by decide +kernel
theorem dX1_findWinner_0 : decode cX1_findWinner 0 = .ok (.iconst 0, 1) := by decide +kernel
theorem dX1_findWinner_1 : decode cX1_findWinner 1 = .ok (.istore_n 1, 1) := by decide +kernel
theorem dX1_findWinner_2 : decode cX1_findWinner 2 = .ok (.iload_n 1, 1) := by decide +kernel
theorem dX1_findWinner_3 : decode cX1_findWinner 3 = .ok (.aload_n 0, 1) := by decide +kernel
theorem dX1_findWinner_4 : decode cX1_findWinner 4 = .ok (.getfield 53, 3) := by decide +kernel
theorem dX1_findWinner_7 : decode cX1_findWinner 7 = .ok (.if_icmp .ge 30, 3) := by decide +kernel
theorem dX1_findWinner_10 : decode cX1_findWinner 10 = .ok (.aload_n 0, 1) := by decide +kernel
theorem dX1_findWinner_11 : decode cX1_findWinner 11 = .ok (.iload_n 1, 1) := by decide +kernel
theorem dX1_findWinner_12 : decode cX1_findWinner 12 = .ok (.invokevirtual 89, 3) := by decide +kernel
theorem dX1_findWinner_15 : decode cX1_findWinner 15 = .ok (.aload_n 0, 1) := by decide +kernel
theorem dX1_findWinner_16 : decode cX1_findWinner 16 = .ok (.getfield 53, 3) := by decide +kernel
theorem dX1_findWinner_19 : decode cX1_findWinner 19 = .ok (.iconst 1, 1) := by decide +kernel
theorem dX1_findWinner_20 : decode cX1_findWinner 20 = .ok (.isub, 1) := by decide +kernel
theorem dX1_findWinner_21 : decode cX1_findWinner 21 = .ok (.if_icmp .ne 10, 3) := by decide +kernel
theorem dX1_findWinner_24 : decode cX1_findWinner 24 = .ok (.aload_n 0, 1) := by decide +kernel
theorem dX1_findWinner_25 : decode cX1_findWinner 25 = .ok (.getfield 9, 3) := by decide +kernel
theorem dX1_findWinner_28 : decode cX1_findWinner 28 = .ok (.iload_n 1, 1) := by decide +kernel
theorem dX1_findWinner_29 : decode cX1_findWinner 29 = .ok (.iaload, 1) := by decide +kernel
theorem dX1_findWinner_30 : decode cX1_findWinner 30 = .ok (.ireturn, 1) := by decide +kernel
theorem dX1_findWinner_31 : decode cX1_findWinner 31 = .ok (.iinc 1 1, 3) := by decide +kernel
theorem dX1_findWinner_34 : decode cX1_findWinner 34 = .ok (.goto (-32), 3) := by decide +kernel
theorem dX1_findWinner_37 : decode cX1_findWinner 37 = .ok (.iconst (-1), 1) := by decide +kernel
theorem dX1_findWinner_38 : decode cX1_findWinner 38 = .ok (.ireturn, 1) := by decide +kernel
theorem dX1_isCovered_0 : decode cX1_isCovered 0 = .ok (.iconst 0, 1) := by decide +kernel
theorem dX1_isCovered_1 : decode cX1_isCovered 1 = .ok (.istore_n 2, 1) := by decide +kernel
theorem dX1_isCovered_2 : decode cX1_isCovered 2 = .ok (.iload_n 2, 1) := by decide +kernel
theorem dX1_isCovered_3 : decode cX1_isCovered 3 = .ok (.aload_n 0, 1) := by decide +kernel
theorem dX1_isCovered_4 : decode cX1_isCovered 4 = .ok (.getfield 53, 3) := by decide +kernel
theorem dX1_isCovered_7 : decode cX1_isCovered 7 = .ok (.if_icmp .ge 29, 3) := by decide +kernel
theorem dX1_isCovered_10 : decode cX1_isCovered 10 = .ok (.aload_n 0, 1) := by decide +kernel
theorem dX1_isCovered_11 : decode cX1_isCovered 11 = .ok (.iload_n 2, 1) := by decide +kernel
theorem dX1_isCovered_12 : decode cX1_isCovered 12 = .ok (.iload_n 1, 1) := by decide +kernel
theorem dX1_isCovered_13 : decode cX1_isCovered 13 = .ok (.invokevirtual 92, 3) := by decide +kernel
theorem dX1_isCovered_16 : decode cX1_isCovered 16 = .ok (.ifCond .eq 14, 3) := by decide +kernel
theorem dX1_isCovered_19 : decode cX1_isCovered 19 = .ok (.aload_n 0, 1) := by decide +kernel
theorem dX1_isCovered_20 : decode cX1_isCovered 20 = .ok (.iload_n 2, 1) := by decide +kernel
theorem dX1_isCovered_21 : decode cX1_isCovered 21 = .ok (.iload_n 1, 1) := by decide +kernel
theorem dX1_isCovered_22 : decode cX1_isCovered 22 = .ok (.invokevirtual 95, 3) := by decide +kernel
theorem dX1_isCovered_25 : decode cX1_isCovered 25 = .ok (.ifCond .eq 5, 3) := by decide +kernel
theorem dX1_isCovered_28 : decode cX1_isCovered 28 = .ok (.iconst 1, 1) := by decide +kernel
theorem dX1_isCovered_29 : decode cX1_isCovered 29 = .ok (.ireturn, 1) := by decide +kernel
theorem dX1_isCovered_30 : decode cX1_isCovered 30 = .ok (.iinc 2 1, 3) := by decide +kernel
theorem dX1_isCovered_33 : decode cX1_isCovered 33 = .ok (.goto (-31), 3) := by decide +kernel
theorem dX1_isCovered_36 : decode cX1_isCovered 36 = .ok (.iconst 0, 1) := by decide +kernel
theorem dX1_isCovered_37 : decode cX1_isCovered 37 = .ok (.ireturn, 1) := by decide +kernel
theorem dX1_beatsAllOf_0 : decode cX1_beatsAllOf 0 = .ok (.iconst 0, 1) := by decide +kernel
theorem dX1_beatsAllOf_1 : decode cX1_beatsAllOf 1 = .ok (.istore_n 3, 1) := by decide +kernel
theorem dX1_beatsAllOf_2 : decode cX1_beatsAllOf 2 = .ok (.iload_n 3, 1) := by decide +kernel
theorem dX1_beatsAllOf_3 : decode cX1_beatsAllOf 3 = .ok (.iconst 3, 1) := by decide +kernel
theorem dX1_beatsAllOf_4 : decode cX1_beatsAllOf 4 = .ok (.if_icmp .ge 37, 3) := by decide +kernel
theorem dX1_beatsAllOf_7 : decode cX1_beatsAllOf 7 = .ok (.aload_n 0, 1) := by decide +kernel
theorem dX1_beatsAllOf_8 : decode cX1_beatsAllOf 8 = .ok (.getfield 18, 3) := by decide +kernel
theorem dX1_beatsAllOf_11 : decode cX1_beatsAllOf 11 = .ok (.iload_n 2, 1) := by decide +kernel
theorem dX1_beatsAllOf_12 : decode cX1_beatsAllOf 12 = .ok (.iconst 3, 1) := by decide +kernel
theorem dX1_beatsAllOf_13 : decode cX1_beatsAllOf 13 = .ok (.imul, 1) := by decide +kernel
theorem dX1_beatsAllOf_14 : decode cX1_beatsAllOf 14 = .ok (.iload_n 3, 1) := by decide +kernel
theorem dX1_beatsAllOf_15 : decode cX1_beatsAllOf 15 = .ok (.iadd, 1) := by decide +kernel
theorem dX1_beatsAllOf_16 : decode cX1_beatsAllOf 16 = .ok (.iaload, 1) := by decide +kernel
theorem dX1_beatsAllOf_17 : decode cX1_beatsAllOf 17 = .ok (.aload_n 0, 1) := by decide +kernel
theorem dX1_beatsAllOf_18 : decode cX1_beatsAllOf 18 = .ok (.getfield 18, 3) := by decide +kernel
theorem dX1_beatsAllOf_21 : decode cX1_beatsAllOf 21 = .ok (.iload_n 1, 1) := by decide +kernel
theorem dX1_beatsAllOf_22 : decode cX1_beatsAllOf 22 = .ok (.iconst 3, 1) := by decide +kernel
theorem dX1_beatsAllOf_23 : decode cX1_beatsAllOf 23 = .ok (.imul, 1) := by decide +kernel
theorem dX1_beatsAllOf_24 : decode cX1_beatsAllOf 24 = .ok (.iload_n 3, 1) := by decide +kernel
theorem dX1_beatsAllOf_25 : decode cX1_beatsAllOf 25 = .ok (.iadd, 1) := by decide +kernel
theorem dX1_beatsAllOf_26 : decode cX1_beatsAllOf 26 = .ok (.iaload, 1) := by decide +kernel
theorem dX1_beatsAllOf_27 : decode cX1_beatsAllOf 27 = .ok (.iconst (-1), 1) := by decide +kernel
theorem dX1_beatsAllOf_28 : decode cX1_beatsAllOf 28 = .ok (.ixor, 1) := by decide +kernel
theorem dX1_beatsAllOf_29 : decode cX1_beatsAllOf 29 = .ok (.iand, 1) := by decide +kernel
theorem dX1_beatsAllOf_30 : decode cX1_beatsAllOf 30 = .ok (.ifCond .eq 5, 3) := by decide +kernel
theorem dX1_beatsAllOf_33 : decode cX1_beatsAllOf 33 = .ok (.iconst 0, 1) := by decide +kernel
theorem dX1_beatsAllOf_34 : decode cX1_beatsAllOf 34 = .ok (.ireturn, 1) := by decide +kernel
theorem dX1_beatsAllOf_35 : decode cX1_beatsAllOf 35 = .ok (.iinc 3 1, 3) := by decide +kernel
theorem dX1_beatsAllOf_38 : decode cX1_beatsAllOf 38 = .ok (.goto (-36), 3) := by decide +kernel
theorem dX1_beatsAllOf_41 : decode cX1_beatsAllOf 41 = .ok (.iconst 1, 1) := by decide +kernel
theorem dX1_beatsAllOf_42 : decode cX1_beatsAllOf 42 = .ok (.ireturn, 1) := by decide +kernel
theorem dX1_learnTop_0 : decode cX1_learnTop 0 = .ok (.aload_n 0, 1) := by decide +kernel
theorem dX1_learnTop_1 : decode cX1_learnTop 1 = .ok (.getfield 21, 3) := by decide +kernel
theorem dX1_learnTop_4 : decode cX1_learnTop 4 = .ok (.iconst 0, 1) := by decide +kernel
theorem dX1_learnTop_5 : decode cX1_learnTop 5 = .ok (.aload_n 0, 1) := by decide +kernel
theorem dX1_learnTop_6 : decode cX1_learnTop 6 = .ok (.invokevirtual 98, 3) := by decide +kernel
theorem dX1_learnTop_9 : decode cX1_learnTop 9 = .ok (.iastore, 1) := by decide +kernel
theorem dX1_learnTop_10 : decode cX1_learnTop 10 = .ok (.aload_n 0, 1) := by decide +kernel
theorem dX1_learnTop_11 : decode cX1_learnTop 11 = .ok (.iconst 1, 1) := by decide +kernel
theorem dX1_learnTop_12 : decode cX1_learnTop 12 = .ok (.putfield 102, 3) := by decide +kernel
theorem dX1_learnTop_15 : decode cX1_learnTop 15 = .ok (.iconst 0, 1) := by decide +kernel
theorem dX1_learnTop_16 : decode cX1_learnTop 16 = .ok (.istore_n 1, 1) := by decide +kernel
theorem dX1_learnTop_17 : decode cX1_learnTop 17 = .ok (.iload_n 1, 1) := by decide +kernel
theorem dX1_learnTop_18 : decode cX1_learnTop 18 = .ok (.aload_n 0, 1) := by decide +kernel
theorem dX1_learnTop_19 : decode cX1_learnTop 19 = .ok (.getfield 102, 3) := by decide +kernel
theorem dX1_learnTop_22 : decode cX1_learnTop 22 = .ok (.if_icmp .ge 82, 3) := by decide +kernel
theorem dX1_learnTop_25 : decode cX1_learnTop 25 = .ok (.iload_n 1, 1) := by decide +kernel
theorem dX1_learnTop_26 : decode cX1_learnTop 26 = .ok (.bipush 65, 2) := by decide +kernel
theorem dX1_learnTop_28 : decode cX1_learnTop 28 = .ok (.if_icmp .ge 76, 3) := by decide +kernel
theorem dX1_learnTop_31 : decode cX1_learnTop 31 = .ok (.iconst 0, 1) := by decide +kernel
theorem dX1_learnTop_32 : decode cX1_learnTop 32 = .ok (.istore_n 2, 1) := by decide +kernel
theorem dX1_learnTop_33 : decode cX1_learnTop 33 = .ok (.iload_n 2, 1) := by decide +kernel
theorem dX1_learnTop_34 : decode cX1_learnTop 34 = .ok (.aload_n 0, 1) := by decide +kernel
theorem dX1_learnTop_35 : decode cX1_learnTop 35 = .ok (.getfield 53, 3) := by decide +kernel
theorem dX1_learnTop_38 : decode cX1_learnTop 38 = .ok (.if_icmp .ge 60, 3) := by decide +kernel
theorem dX1_learnTop_41 : decode cX1_learnTop 41 = .ok (.aload_n 0, 1) := by decide +kernel
theorem dX1_learnTop_42 : decode cX1_learnTop 42 = .ok (.getfield 102, 3) := by decide +kernel
theorem dX1_learnTop_45 : decode cX1_learnTop 45 = .ok (.bipush 65, 2) := by decide +kernel
theorem dX1_learnTop_47 : decode cX1_learnTop 47 = .ok (.if_icmp .ge 51, 3) := by decide +kernel
theorem dX1_learnTop_50 : decode cX1_learnTop 50 = .ok (.aload_n 0, 1) := by decide +kernel
theorem dX1_learnTop_51 : decode cX1_learnTop 51 = .ok (.aload_n 0, 1) := by decide +kernel
theorem dX1_learnTop_52 : decode cX1_learnTop 52 = .ok (.getfield 21, 3) := by decide +kernel
theorem dX1_learnTop_55 : decode cX1_learnTop 55 = .ok (.iload_n 1, 1) := by decide +kernel
theorem dX1_learnTop_56 : decode cX1_learnTop 56 = .ok (.iaload, 1) := by decide +kernel
theorem dX1_learnTop_57 : decode cX1_learnTop 57 = .ok (.iload_n 2, 1) := by decide +kernel
theorem dX1_learnTop_58 : decode cX1_learnTop 58 = .ok (.invokevirtual 92, 3) := by decide +kernel
theorem dX1_learnTop_61 : decode cX1_learnTop 61 = .ok (.ifCond .ne 31, 3) := by decide +kernel
theorem dX1_learnTop_64 : decode cX1_learnTop 64 = .ok (.aload_n 0, 1) := by decide +kernel
theorem dX1_learnTop_65 : decode cX1_learnTop 65 = .ok (.iload_n 2, 1) := by decide +kernel
theorem dX1_learnTop_66 : decode cX1_learnTop 66 = .ok (.invokevirtual 105, 3) := by decide +kernel
theorem dX1_learnTop_69 : decode cX1_learnTop 69 = .ok (.ifCond .ne 23, 3) := by decide +kernel
theorem dX1_learnTop_72 : decode cX1_learnTop 72 = .ok (.aload_n 0, 1) := by decide +kernel
theorem dX1_learnTop_73 : decode cX1_learnTop 73 = .ok (.getfield 21, 3) := by decide +kernel
theorem dX1_learnTop_76 : decode cX1_learnTop 76 = .ok (.aload_n 0, 1) := by decide +kernel
theorem dX1_learnTop_77 : decode cX1_learnTop 77 = .ok (.getfield 102, 3) := by decide +kernel
theorem dX1_learnTop_80 : decode cX1_learnTop 80 = .ok (.iload_n 2, 1) := by decide +kernel
theorem dX1_learnTop_81 : decode cX1_learnTop 81 = .ok (.iastore, 1) := by decide +kernel
theorem dX1_learnTop_82 : decode cX1_learnTop 82 = .ok (.aload_n 0, 1) := by decide +kernel
theorem dX1_learnTop_83 : decode cX1_learnTop 83 = .ok (.dup, 1) := by decide +kernel
theorem dX1_learnTop_84 : decode cX1_learnTop 84 = .ok (.getfield 102, 3) := by decide +kernel
theorem dX1_learnTop_87 : decode cX1_learnTop 87 = .ok (.iconst 1, 1) := by decide +kernel
theorem dX1_learnTop_88 : decode cX1_learnTop 88 = .ok (.iadd, 1) := by decide +kernel
theorem dX1_learnTop_89 : decode cX1_learnTop 89 = .ok (.putfield 102, 3) := by decide +kernel
theorem dX1_learnTop_92 : decode cX1_learnTop 92 = .ok (.iinc 2 1, 3) := by decide +kernel
theorem dX1_learnTop_95 : decode cX1_learnTop 95 = .ok (.goto (-62), 3) := by decide +kernel
theorem dX1_learnTop_98 : decode cX1_learnTop 98 = .ok (.iinc 1 1, 3) := by decide +kernel
theorem dX1_learnTop_101 : decode cX1_learnTop 101 = .ok (.goto (-84), 3) := by decide +kernel
theorem dX1_learnTop_104 : decode cX1_learnTop 104 = .ok (.return_, 1) := by decide +kernel
theorem dX1_indexOfMostBeating_0 : decode cX1_indexOfMostBeating 0 = .ok (.iconst 0, 1) := by decide +kernel
theorem dX1_indexOfMostBeating_1 : decode cX1_indexOfMostBeating 1 = .ok (.istore_n 1, 1) := by decide +kernel
theorem dX1_indexOfMostBeating_2 : decode cX1_indexOfMostBeating 2 = .ok (.iconst 1, 1) := by decide +kernel
theorem dX1_indexOfMostBeating_3 : decode cX1_indexOfMostBeating 3 = .ok (.istore_n 2, 1) := by decide +kernel
theorem dX1_indexOfMostBeating_4 : decode cX1_indexOfMostBeating 4 = .ok (.iload_n 2, 1) := by decide +kernel
theorem dX1_indexOfMostBeating_5 : decode cX1_indexOfMostBeating 5 = .ok (.aload_n 0, 1) := by decide +kernel
theorem dX1_indexOfMostBeating_6 : decode cX1_indexOfMostBeating 6 = .ok (.getfield 53, 3) := by decide +kernel
theorem dX1_indexOfMostBeating_9 : decode cX1_indexOfMostBeating 9 = .ok (.if_icmp .ge 24, 3) := by decide +kernel
theorem dX1_indexOfMostBeating_12 : decode cX1_indexOfMostBeating 12 = .ok (.aload_n 0, 1) := by decide +kernel
theorem dX1_indexOfMostBeating_13 : decode cX1_indexOfMostBeating 13 = .ok (.iload_n 2, 1) := by decide +kernel
theorem dX1_indexOfMostBeating_14 : decode cX1_indexOfMostBeating 14 = .ok (.invokevirtual 89, 3) := by decide +kernel
theorem dX1_indexOfMostBeating_17 : decode cX1_indexOfMostBeating 17 = .ok (.aload_n 0, 1) := by decide +kernel
theorem dX1_indexOfMostBeating_18 : decode cX1_indexOfMostBeating 18 = .ok (.iload_n 1, 1) := by decide +kernel
theorem dX1_indexOfMostBeating_19 : decode cX1_indexOfMostBeating 19 = .ok (.invokevirtual 89, 3) := by decide +kernel
theorem dX1_indexOfMostBeating_22 : decode cX1_indexOfMostBeating 22 = .ok (.if_icmp .le 5, 3) := by decide +kernel
theorem dX1_indexOfMostBeating_25 : decode cX1_indexOfMostBeating 25 = .ok (.iload_n 2, 1) := by decide +kernel
theorem dX1_indexOfMostBeating_26 : decode cX1_indexOfMostBeating 26 = .ok (.istore_n 1, 1) := by decide +kernel
theorem dX1_indexOfMostBeating_27 : decode cX1_indexOfMostBeating 27 = .ok (.iinc 2 1, 3) := by decide +kernel
theorem dX1_indexOfMostBeating_30 : decode cX1_indexOfMostBeating 30 = .ok (.goto (-26), 3) := by decide +kernel
theorem dX1_indexOfMostBeating_33 : decode cX1_indexOfMostBeating 33 = .ok (.iload_n 1, 1) := by decide +kernel
theorem dX1_indexOfMostBeating_34 : decode cX1_indexOfMostBeating 34 = .ok (.ireturn, 1) := by decide +kernel
theorem dX1_isOfTop_0 : decode cX1_isOfTop 0 = .ok (.iconst 0, 1) := by decide +kernel
theorem dX1_isOfTop_1 : decode cX1_isOfTop 1 = .ok (.istore_n 2, 1) := by decide +kernel
theorem dX1_isOfTop_2 : decode cX1_isOfTop 2 = .ok (.iload_n 2, 1) := by decide +kernel
theorem dX1_isOfTop_3 : decode cX1_isOfTop 3 = .ok (.aload_n 0, 1) := by decide +kernel
theorem dX1_isOfTop_4 : decode cX1_isOfTop 4 = .ok (.getfield 102, 3) := by decide +kernel
theorem dX1_isOfTop_7 : decode cX1_isOfTop 7 = .ok (.if_icmp .ge 21, 3) := by decide +kernel
theorem dX1_isOfTop_10 : decode cX1_isOfTop 10 = .ok (.aload_n 0, 1) := by decide +kernel
theorem dX1_isOfTop_11 : decode cX1_isOfTop 11 = .ok (.getfield 21, 3) := by decide +kernel
theorem dX1_isOfTop_14 : decode cX1_isOfTop 14 = .ok (.iload_n 2, 1) := by decide +kernel
theorem dX1_isOfTop_15 : decode cX1_isOfTop 15 = .ok (.iaload, 1) := by decide +kernel
theorem dX1_isOfTop_16 : decode cX1_isOfTop 16 = .ok (.iload_n 1, 1) := by decide +kernel
theorem dX1_isOfTop_17 : decode cX1_isOfTop 17 = .ok (.if_icmp .ne 5, 3) := by decide +kernel
theorem dX1_isOfTop_20 : decode cX1_isOfTop 20 = .ok (.iconst 1, 1) := by decide +kernel
theorem dX1_isOfTop_21 : decode cX1_isOfTop 21 = .ok (.ireturn, 1) := by decide +kernel
theorem dX1_isOfTop_22 : decode cX1_isOfTop 22 = .ok (.iinc 2 1, 3) := by decide +kernel
theorem dX1_isOfTop_25 : decode cX1_isOfTop 25 = .ok (.goto (-23), 3) := by decide +kernel
theorem dX1_isOfTop_28 : decode cX1_isOfTop 28 = .ok (.iconst 0, 1) := by decide +kernel
theorem dX1_isOfTop_29 : decode cX1_isOfTop 29 = .ok (.ireturn, 1) := by decide +kernel
theorem dX2_init_0 : decode cX2_init 0 = .ok (.aload_n 0, 1) := by decide +kernel
theorem dX2_init_1 : decode cX2_init 1 = .ok (.invokespecial 3, 3) := by decide +kernel
theorem dX2_init_4 : decode cX2_init 4 = .ok (.aload_n 0, 1) := by decide +kernel
theorem dX2_init_5 : decode cX2_init 5 = .ok (.iconst (-1), 1) := by decide +kernel
theorem dX2_init_6 : decode cX2_init 6 = .ok (.putfield 9, 3) := by decide +kernel
theorem dX2_init_9 : decode cX2_init 9 = .ok (.aload_n 0, 1) := by decide +kernel
theorem dX2_init_10 : decode cX2_init 10 = .ok (.bipush 6, 2) := by decide +kernel
theorem dX2_init_12 : decode cX2_init 12 = .ok (.newarray .int, 2) := by decide +kernel
theorem dX2_init_14 : decode cX2_init 14 = .ok (.putfield 15, 3) := by decide +kernel
theorem dX2_init_17 : decode cX2_init 17 = .ok (.aload_n 0, 1) := by decide +kernel
theorem dX2_init_18 : decode cX2_init 18 = .ok (.bipush 6, 2) := by decide +kernel
theorem dX2_init_20 : decode cX2_init 20 = .ok (.newarray .int, 2) := by decide +kernel
theorem dX2_init_22 : decode cX2_init 22 = .ok (.putfield 19, 3) := by decide +kernel
theorem dX2_init_25 : decode cX2_init 25 = .ok (.aload_n 0, 1) := by decide +kernel
theorem dX2_init_26 : decode cX2_init 26 = .ok (.bipush 6, 2) := by decide +kernel
theorem dX2_init_28 : decode cX2_init 28 = .ok (.newarray .int, 2) := by decide +kernel
theorem dX2_init_30 : decode cX2_init 30 = .ok (.putfield 22, 3) := by decide +kernel
theorem dX2_init_33 : decode cX2_init 33 = .ok (.aload_n 0, 1) := by decide +kernel
theorem dX2_init_34 : decode cX2_init 34 = .ok (.bipush 6, 2) := by decide +kernel
theorem dX2_init_36 : decode cX2_init 36 = .ok (.newarray .int, 2) := by decide +kernel
theorem dX2_init_38 : decode cX2_init 38 = .ok (.putfield 25, 3) := by decide +kernel
theorem dX2_init_41 : decode cX2_init 41 = .ok (.aload_n 0, 1) := by decide +kernel
theorem dX2_init_42 : decode cX2_init 42 = .ok (.bipush 72, 2) := by decide +kernel
theorem dX2_init_44 : decode cX2_init 44 = .ok (.newarray .int, 2) := by decide +kernel
theorem dX2_init_46 : decode cX2_init 46 = .ok (.putfield 28, 3) := by decide +kernel
theorem dX2_init_49 : decode cX2_init 49 = .ok (.aload_n 0, 1) := by decide +kernel
theorem dX2_init_50 : decode cX2_init 50 = .ok (.bipush 6, 2) := by decide +kernel
theorem dX2_init_52 : decode cX2_init 52 = .ok (.newarray .int, 2) := by decide +kernel
theorem dX2_init_54 : decode cX2_init 54 = .ok (.putfield 31, 3) := by decide +kernel
theorem dX2_init_57 : decode cX2_init 57 = .ok (.aload_n 0, 1) := by decide +kernel
theorem dX2_init_58 : decode cX2_init 58 = .ok (.bipush 6, 2) := by decide +kernel
theorem dX2_init_60 : decode cX2_init 60 = .ok (.newarray .int, 2) := by decide +kernel
theorem dX2_init_62 : decode cX2_init 62 = .ok (.putfield 34, 3) := by decide +kernel
theorem dX2_init_65 : decode cX2_init 65 = .ok (.aload_n 0, 1) := by decide +kernel
theorem dX2_init_66 : decode cX2_init 66 = .ok (.bipush 6, 2) := by decide +kernel
theorem dX2_init_68 : decode cX2_init 68 = .ok (.newarray .int, 2) := by decide +kernel
theorem dX2_init_70 : decode cX2_init 70 = .ok (.putfield 37, 3) := by decide +kernel
theorem dX2_init_73 : decode cX2_init 73 = .ok (.return_, 1) := by decide +kernel
theorem dX2_clear_0 : decode cX2_clear 0 = .ok (.aload_n 0, 1) := by decide +kernel
theorem dX2_clear_1 : decode cX2_clear 1 = .ok (.iconst 0, 1) := by decide +kernel
theorem dX2_clear_2 : decode cX2_clear 2 = .ok (.putfield 40, 3) := by decide +kernel
theorem dX2_clear_5 : decode cX2_clear 5 = .ok (.aload_n 0, 1) := by decide +kernel
theorem dX2_clear_6 : decode cX2_clear 6 = .ok (.iconst 0, 1) := by decide +kernel
theorem dX2_clear_7 : decode cX2_clear 7 = .ok (.putfield 43, 3) := by decide +kernel
theorem dX2_clear_10 : decode cX2_clear 10 = .ok (.aload_n 0, 1) := by decide +kernel
theorem dX2_clear_11 : decode cX2_clear 11 = .ok (.iconst (-1), 1) := by decide +kernel
theorem dX2_clear_12 : decode cX2_clear 12 = .ok (.putfield 9, 3) := by decide +kernel
theorem dX2_clear_15 : decode cX2_clear 15 = .ok (.aload_n 0, 1) := by decide +kernel
theorem dX2_clear_16 : decode cX2_clear 16 = .ok (.iconst 0, 1) := by decide +kernel
theorem dX2_clear_17 : decode cX2_clear 17 = .ok (.putfield 46, 3) := by decide +kernel
theorem dX2_clear_20 : decode cX2_clear 20 = .ok (.aload_n 0, 1) := by decide +kernel
theorem dX2_clear_21 : decode cX2_clear 21 = .ok (.iconst 0, 1) := by decide +kernel
theorem dX2_clear_22 : decode cX2_clear 22 = .ok (.putfield 49, 3) := by decide +kernel
theorem dX2_clear_25 : decode cX2_clear 25 = .ok (.aload_n 0, 1) := by decide +kernel
theorem dX2_clear_26 : decode cX2_clear 26 = .ok (.iconst 0, 1) := by decide +kernel
theorem dX2_clear_27 : decode cX2_clear 27 = .ok (.putfield 52, 3) := by decide +kernel
theorem dX2_clear_30 : decode cX2_clear 30 = .ok (.aload_n 0, 1) := by decide +kernel
theorem dX2_clear_31 : decode cX2_clear 31 = .ok (.getfield 28, 3) := by decide +kernel
theorem dX2_clear_34 : decode cX2_clear 34 = .ok (.iconst 0, 1) := by decide +kernel
theorem dX2_clear_35 : decode cX2_clear 35 = .ok (.invokestatic 55, 3) := by decide +kernel
theorem dX2_clear_38 : decode cX2_clear 38 = .ok (.return_, 1) := by decide +kernel
theorem dX2_copyFrom_0 : decode cX2_copyFrom 0 = .ok (.aload_n 0, 1) := by decide +kernel
theorem dX2_copyFrom_1 : decode cX2_copyFrom 1 = .ok (.aload_n 1, 1) := by decide +kernel
theorem dX2_copyFrom_2 : decode cX2_copyFrom 2 = .ok (.getfield 40, 3) := by decide +kernel
theorem dX2_copyFrom_5 : decode cX2_copyFrom 5 = .ok (.putfield 40, 3) := by decide +kernel
theorem dX2_copyFrom_8 : decode cX2_copyFrom 8 = .ok (.aload_n 0, 1) := by decide +kernel
theorem dX2_copyFrom_9 : decode cX2_copyFrom 9 = .ok (.aload_n 1, 1) := by decide +kernel
theorem dX2_copyFrom_10 : decode cX2_copyFrom 10 = .ok (.getfield 43, 3) := by decide +kernel
theorem dX2_copyFrom_13 : decode cX2_copyFrom 13 = .ok (.putfield 43, 3) := by decide +kernel
theorem dX2_copyFrom_16 : decode cX2_copyFrom 16 = .ok (.aload_n 0, 1) := by decide +kernel
theorem dX2_copyFrom_17 : decode cX2_copyFrom 17 = .ok (.aload_n 1, 1) := by decide +kernel
theorem dX2_copyFrom_18 : decode cX2_copyFrom 18 = .ok (.getfield 9, 3) := by decide +kernel
theorem dX2_copyFrom_21 : decode cX2_copyFrom 21 = .ok (.putfield 9, 3) := by decide +kernel
theorem dX2_copyFrom_24 : decode cX2_copyFrom 24 = .ok (.aload_n 0, 1) := by decide +kernel
theorem dX2_copyFrom_25 : decode cX2_copyFrom 25 = .ok (.aload_n 1, 1) := by decide +kernel
theorem dX2_copyFrom_26 : decode cX2_copyFrom 26 = .ok (.getfield 46, 3) := by decide +kernel
theorem dX2_copyFrom_29 : decode cX2_copyFrom 29 = .ok (.putfield 46, 3) := by decide +kernel
theorem dX2_copyFrom_32 : decode cX2_copyFrom 32 = .ok (.aload_n 0, 1) := by decide +kernel
theorem dX2_copyFrom_33 : decode cX2_copyFrom 33 = .ok (.aload_n 1, 1) := by decide +kernel
theorem dX2_copyFrom_34 : decode cX2_copyFrom 34 = .ok (.getfield 49, 3) := by decide +kernel
theorem dX2_copyFrom_37 : decode cX2_copyFrom 37 = .ok (.putfield 49, 3) := by decide +kernel
theorem dX2_copyFrom_40 : decode cX2_copyFrom 40 = .ok (.aload_n 0, 1) := by decide +kernel
theorem dX2_copyFrom_41 : decode cX2_copyFrom 41 = .ok (.aload_n 1, 1) := by decide +kernel
theorem dX2_copyFrom_42 : decode cX2_copyFrom 42 = .ok (.getfield 52, 3) := by decide +kernel
theorem dX2_copyFrom_45 : decode cX2_copyFrom 45 = .ok (.putfield 52, 3) := by decide +kernel
theorem dX2_copyFrom_48 : decode cX2_copyFrom 48 = .ok (.aload_n 1, 1) := by decide +kernel
theorem dX2_copyFrom_49 : decode cX2_copyFrom 49 = .ok (.getfield 15, 3) := by decide +kernel
theorem dX2_copyFrom_52 : decode cX2_copyFrom 52 = .ok (.iconst 0, 1) := by decide +kernel
theorem dX2_copyFrom_53 : decode cX2_copyFrom 53 = .ok (.aload_n 0, 1) := by decide +kernel
theorem dX2_copyFrom_54 : decode cX2_copyFrom 54 = .ok (.getfield 15, 3) := by decide +kernel
theorem dX2_copyFrom_57 : decode cX2_copyFrom 57 = .ok (.iconst 0, 1) := by decide +kernel
theorem dX2_copyFrom_58 : decode cX2_copyFrom 58 = .ok (.bipush 6, 2) := by decide +kernel
theorem dX2_copyFrom_60 : decode cX2_copyFrom 60 = .ok (.invokestatic 61, 3) := by decide +kernel
theorem dX2_copyFrom_63 : decode cX2_copyFrom 63 = .ok (.aload_n 1, 1) := by decide +kernel
theorem dX2_copyFrom_64 : decode cX2_copyFrom 64 = .ok (.getfield 19, 3) := by decide +kernel
theorem dX2_copyFrom_67 : decode cX2_copyFrom 67 = .ok (.iconst 0, 1) := by decide +kernel
theorem dX2_copyFrom_68 : decode cX2_copyFrom 68 = .ok (.aload_n 0, 1) := by decide +kernel
theorem dX2_copyFrom_69 : decode cX2_copyFrom 69 = .ok (.getfield 19, 3) := by decide +kernel
theorem dX2_copyFrom_72 : decode cX2_copyFrom 72 = .ok (.iconst 0, 1) := by decide +kernel
theorem dX2_copyFrom_73 : decode cX2_copyFrom 73 = .ok (.bipush 6, 2) := by decide +kernel
theorem dX2_copyFrom_75 : decode cX2_copyFrom 75 = .ok (.invokestatic 61, 3) := by decide +kernel
theorem dX2_copyFrom_78 : decode cX2_copyFrom 78 = .ok (.aload_n 1, 1) := by decide +kernel
theorem dX2_copyFrom_79 : decode cX2_copyFrom 79 = .ok (.getfield 22, 3) := by decide +kernel
theorem dX2_copyFrom_82 : decode cX2_copyFrom 82 = .ok (.iconst 0, 1) := by decide +kernel
theorem dX2_copyFrom_83 : decode cX2_copyFrom 83 = .ok (.aload_n 0, 1) := by decide +kernel
theorem dX2_copyFrom_84 : decode cX2_copyFrom 84 = .ok (.getfield 22, 3) := by decide +kernel
theorem dX2_copyFrom_87 : decode cX2_copyFrom 87 = .ok (.iconst 0, 1) := by decide +kernel
theorem dX2_copyFrom_88 : decode cX2_copyFrom 88 = .ok (.bipush 6, 2) := by decide +kernel
theorem dX2_copyFrom_90 : decode cX2_copyFrom 90 = .ok (.invokestatic 61, 3) := by decide +kernel
theorem dX2_copyFrom_93 : decode cX2_copyFrom 93 = .ok (.aload_n 1, 1) := by decide +kernel
theorem dX2_copyFrom_94 : decode cX2_copyFrom 94 = .ok (.getfield 25, 3) := by decide +kernel
theorem dX2_copyFrom_97 : decode cX2_copyFrom 97 = .ok (.iconst 0, 1) := by decide +kernel
theorem dX2_copyFrom_98 : decode cX2_copyFrom 98 = .ok (.aload_n 0, 1) := by decide +kernel
theorem dX2_copyFrom_99 : decode cX2_copyFrom 99 = .ok (.getfield 25, 3) := by decide +kernel
theorem dX2_copyFrom_102 : decode cX2_copyFrom 102 = .ok (.iconst 0, 1) := by decide +kernel
theorem dX2_copyFrom_103 : decode cX2_copyFrom 103 = .ok (.bipush 6, 2) := by decide +kernel
theorem dX2_copyFrom_105 : decode cX2_copyFrom 105 = .ok (.invokestatic 61, 3) := by decide +kernel
theorem dX2_copyFrom_108 : decode cX2_copyFrom 108 = .ok (.aload_n 1, 1) := by decide +kernel
theorem dX2_copyFrom_109 : decode cX2_copyFrom 109 = .ok (.getfield 28, 3) := by decide +kernel
theorem dX2_copyFrom_112 : decode cX2_copyFrom 112 = .ok (.iconst 0, 1) := by decide +kernel
theorem dX2_copyFrom_113 : decode cX2_copyFrom 113 = .ok (.aload_n 0, 1) := by decide +kernel
theorem dX2_copyFrom_114 : decode cX2_copyFrom 114 = .ok (.getfield 28, 3) := by decide +kernel
theorem dX2_copyFrom_117 : decode cX2_copyFrom 117 = .ok (.iconst 0, 1) := by decide +kernel
theorem dX2_copyFrom_118 : decode cX2_copyFrom 118 = .ok (.bipush 72, 2) := by decide +kernel
theorem dX2_copyFrom_120 : decode cX2_copyFrom 120 = .ok (.invokestatic 61, 3) := by decide +kernel
theorem dX2_copyFrom_123 : decode cX2_copyFrom 123 = .ok (.aload_n 1, 1) := by decide +kernel
theorem dX2_copyFrom_124 : decode cX2_copyFrom 124 = .ok (.getfield 31, 3) := by decide +kernel
theorem dX2_copyFrom_127 : decode cX2_copyFrom 127 = .ok (.iconst 0, 1) := by decide +kernel
theorem dX2_copyFrom_128 : decode cX2_copyFrom 128 = .ok (.aload_n 0, 1) := by decide +kernel
theorem dX2_copyFrom_129 : decode cX2_copyFrom 129 = .ok (.getfield 31, 3) := by decide +kernel
theorem dX2_copyFrom_132 : decode cX2_copyFrom 132 = .ok (.iconst 0, 1) := by decide +kernel
theorem dX2_copyFrom_133 : decode cX2_copyFrom 133 = .ok (.bipush 6, 2) := by decide +kernel
theorem dX2_copyFrom_135 : decode cX2_copyFrom 135 = .ok (.invokestatic 61, 3) := by decide +kernel
theorem dX2_copyFrom_138 : decode cX2_copyFrom 138 = .ok (.aload_n 1, 1) := by decide +kernel
theorem dX2_copyFrom_139 : decode cX2_copyFrom 139 = .ok (.getfield 34, 3) := by decide +kernel
theorem dX2_copyFrom_142 : decode cX2_copyFrom 142 = .ok (.iconst 0, 1) := by decide +kernel
theorem dX2_copyFrom_143 : decode cX2_copyFrom 143 = .ok (.aload_n 0, 1) := by decide +kernel
theorem dX2_copyFrom_144 : decode cX2_copyFrom 144 = .ok (.getfield 34, 3) := by decide +kernel
theorem dX2_copyFrom_147 : decode cX2_copyFrom 147 = .ok (.iconst 0, 1) := by decide +kernel
theorem dX2_copyFrom_148 : decode cX2_copyFrom 148 = .ok (.bipush 6, 2) := by decide +kernel
theorem dX2_copyFrom_150 : decode cX2_copyFrom 150 = .ok (.invokestatic 61, 3) := by decide +kernel
theorem dX2_copyFrom_153 : decode cX2_copyFrom 153 = .ok (.aload_n 1, 1) := by decide +kernel
theorem dX2_copyFrom_154 : decode cX2_copyFrom 154 = .ok (.getfield 37, 3) := by decide +kernel
theorem dX2_copyFrom_157 : decode cX2_copyFrom 157 = .ok (.iconst 0, 1) := by decide +kernel
theorem dX2_copyFrom_158 : decode cX2_copyFrom 158 = .ok (.aload_n 0, 1) := by decide +kernel
theorem dX2_copyFrom_159 : decode cX2_copyFrom 159 = .ok (.getfield 37, 3) := by decide +kernel
theorem dX2_copyFrom_162 : decode cX2_copyFrom 162 = .ok (.iconst 0, 1) := by decide +kernel
theorem dX2_copyFrom_163 : decode cX2_copyFrom 163 = .ok (.bipush 6, 2) := by decide +kernel
theorem dX2_copyFrom_165 : decode cX2_copyFrom 165 = .ok (.invokestatic 61, 3) := by decide +kernel
theorem dX2_copyFrom_168 : decode cX2_copyFrom 168 = .ok (.return_, 1) := by decide +kernel
theorem dX2_hasMotion_0 : decode cX2_hasMotion 0 = .ok (.iload_n 1, 1) := by decide +kernel
theorem dX2_hasMotion_1 : decode cX2_hasMotion 1 = .ok (.ifCond .lt 15, 3) := by decide +kernel
theorem dX2_hasMotion_4 : decode cX2_hasMotion 4 = .ok (.iload_n 1, 1) := by decide +kernel
theorem dX2_hasMotion_5 : decode cX2_hasMotion 5 = .ok (.aload_n 0, 1) := by decide +kernel
theorem dX2_hasMotion_6 : decode cX2_hasMotion 6 = .ok (.getfield 46, 3) := by decide +kernel
theorem dX2_hasMotion_9 : decode cX2_hasMotion 9 = .ok (.if_icmp .ge 7, 3) := by decide +kernel
theorem dX2_hasMotion_12 : decode cX2_hasMotion 12 = .ok (.iconst 1, 1) := by decide +kernel
theorem dX2_hasMotion_13 : decode cX2_hasMotion 13 = .ok (.goto 4, 3) := by decide +kernel
theorem dX2_hasMotion_16 : decode cX2_hasMotion 16 = .ok (.iconst 0, 1) := by decide +kernel
theorem dX2_hasMotion_17 : decode cX2_hasMotion 17 = .ok (.ireturn, 1) := by decide +kernel
theorem dX2_hasVoter_0 : decode cX2_hasVoter 0 = .ok (.iload_n 1, 1) := by decide +kernel
theorem dX2_hasVoter_1 : decode cX2_hasVoter 1 = .ok (.ifCond .lt 15, 3) := by decide +kernel
theorem dX2_hasVoter_4 : decode cX2_hasVoter 4 = .ok (.iload_n 1, 1) := by decide +kernel
theorem dX2_hasVoter_5 : decode cX2_hasVoter 5 = .ok (.aload_n 0, 1) := by decide +kernel
theorem dX2_hasVoter_6 : decode cX2_hasVoter 6 = .ok (.getfield 49, 3) := by decide +kernel
theorem dX2_hasVoter_9 : decode cX2_hasVoter 9 = .ok (.if_icmp .ge 7, 3) := by decide +kernel
theorem dX2_hasVoter_12 : decode cX2_hasVoter 12 = .ok (.iconst 1, 1) := by decide +kernel
theorem dX2_hasVoter_13 : decode cX2_hasVoter 13 = .ok (.goto 4, 3) := by decide +kernel
theorem dX2_hasVoter_16 : decode cX2_hasVoter 16 = .ok (.iconst 0, 1) := by decide +kernel
theorem dX2_hasVoter_17 : decode cX2_hasVoter 17 = .ok (.ireturn, 1) := by decide +kernel
theorem dX2_quotaInForce_0 : decode cX2_quotaInForce 0 = .ok (.aload_n 0, 1) := by decide +kernel
theorem dX2_quotaInForce_1 : decode cX2_quotaInForce 1 = .ok (.getfield 43, 3) := by decide +kernel
theorem dX2_quotaInForce_4 : decode cX2_quotaInForce 4 = .ok (.ifCond .le 10, 3) := by decide +kernel
theorem dX2_quotaInForce_7 : decode cX2_quotaInForce 7 = .ok (.aload_n 0, 1) := by decide +kernel
theorem dX2_quotaInForce_8 : decode cX2_quotaInForce 8 = .ok (.getfield 43, 3) := by decide +kernel
theorem dX2_quotaInForce_11 : decode cX2_quotaInForce 11 = .ok (.goto 11, 3) := by decide +kernel
theorem dX2_quotaInForce_14 : decode cX2_quotaInForce 14 = .ok (.aload_n 0, 1) := by decide +kernel
theorem dX2_quotaInForce_15 : decode cX2_quotaInForce 15 = .ok (.getfield 49, 3) := by decide +kernel
theorem dX2_quotaInForce_18 : decode cX2_quotaInForce 18 = .ok (.iconst 2, 1) := by decide +kernel
theorem dX2_quotaInForce_19 : decode cX2_quotaInForce 19 = .ok (.idiv, 1) := by decide +kernel
theorem dX2_quotaInForce_20 : decode cX2_quotaInForce 20 = .ok (.iconst 1, 1) := by decide +kernel
theorem dX2_quotaInForce_21 : decode cX2_quotaInForce 21 = .ok (.iadd, 1) := by decide +kernel
theorem dX2_quotaInForce_22 : decode cX2_quotaInForce 22 = .ok (.ireturn, 1) := by decide +kernel
theorem dX2_addMotion_0 : decode cX2_addMotion 0 = .ok (.aload_n 0, 1) := by decide +kernel
theorem dX2_addMotion_1 : decode cX2_addMotion 1 = .ok (.getfield 46, 3) := by decide +kernel
theorem dX2_addMotion_4 : decode cX2_addMotion 4 = .ok (.bipush 6, 2) := by decide +kernel
theorem dX2_addMotion_6 : decode cX2_addMotion 6 = .ok (.if_icmp .ge 54, 3) := by decide +kernel
theorem dX2_addMotion_9 : decode cX2_addMotion 9 = .ok (.aload_n 0, 1) := by decide +kernel
theorem dX2_addMotion_10 : decode cX2_addMotion 10 = .ok (.getfield 15, 3) := by decide +kernel
theorem dX2_addMotion_13 : decode cX2_addMotion 13 = .ok (.aload_n 0, 1) := by decide +kernel
theorem dX2_addMotion_14 : decode cX2_addMotion 14 = .ok (.getfield 46, 3) := by decide +kernel
theorem dX2_addMotion_17 : decode cX2_addMotion 17 = .ok (.iload_n 1, 1) := by decide +kernel
theorem dX2_addMotion_18 : decode cX2_addMotion 18 = .ok (.iastore, 1) := by decide +kernel
theorem dX2_addMotion_19 : decode cX2_addMotion 19 = .ok (.aload_n 0, 1) := by decide +kernel
theorem dX2_addMotion_20 : decode cX2_addMotion 20 = .ok (.getfield 19, 3) := by decide +kernel
theorem dX2_addMotion_23 : decode cX2_addMotion 23 = .ok (.aload_n 0, 1) := by decide +kernel
theorem dX2_addMotion_24 : decode cX2_addMotion 24 = .ok (.getfield 46, 3) := by decide +kernel
theorem dX2_addMotion_27 : decode cX2_addMotion 27 = .ok (.iload_n 2, 1) := by decide +kernel
theorem dX2_addMotion_28 : decode cX2_addMotion 28 = .ok (.iastore, 1) := by decide +kernel
theorem dX2_addMotion_29 : decode cX2_addMotion 29 = .ok (.aload_n 0, 1) := by decide +kernel
theorem dX2_addMotion_30 : decode cX2_addMotion 30 = .ok (.getfield 22, 3) := by decide +kernel
theorem dX2_addMotion_33 : decode cX2_addMotion 33 = .ok (.aload_n 0, 1) := by decide +kernel
theorem dX2_addMotion_34 : decode cX2_addMotion 34 = .ok (.getfield 46, 3) := by decide +kernel
theorem dX2_addMotion_37 : decode cX2_addMotion 37 = .ok (.iload_n 3, 1) := by decide +kernel
theorem dX2_addMotion_38 : decode cX2_addMotion 38 = .ok (.iastore, 1) := by decide +kernel
theorem dX2_addMotion_39 : decode cX2_addMotion 39 = .ok (.aload_n 0, 1) := by decide +kernel
theorem dX2_addMotion_40 : decode cX2_addMotion 40 = .ok (.getfield 25, 3) := by decide +kernel
theorem dX2_addMotion_43 : decode cX2_addMotion 43 = .ok (.aload_n 0, 1) := by decide +kernel
theorem dX2_addMotion_44 : decode cX2_addMotion 44 = .ok (.getfield 46, 3) := by decide +kernel
theorem dX2_addMotion_47 : decode cX2_addMotion 47 = .ok (.iload 4, 2) := by decide +kernel
theorem dX2_addMotion_49 : decode cX2_addMotion 49 = .ok (.iastore, 1) := by decide +kernel
theorem dX2_addMotion_50 : decode cX2_addMotion 50 = .ok (.aload_n 0, 1) := by decide +kernel
theorem dX2_addMotion_51 : decode cX2_addMotion 51 = .ok (.dup, 1) := by decide +kernel
theorem dX2_addMotion_52 : decode cX2_addMotion 52 = .ok (.getfield 46, 3) := by decide +kernel
theorem dX2_addMotion_55 : decode cX2_addMotion 55 = .ok (.iconst 1, 1) := by decide +kernel
theorem dX2_addMotion_56 : decode cX2_addMotion 56 = .ok (.iadd, 1) := by decide +kernel
theorem dX2_addMotion_57 : decode cX2_addMotion 57 = .ok (.putfield 46, 3) := by decide +kernel
theorem dX2_addMotion_60 : decode cX2_addMotion 60 = .ok (.return_, 1) := by decide +kernel
theorem dX2_addJoint_0 : decode cX2_addJoint 0 = .ok (.aload_n 0, 1) := by decide +kernel
theorem dX2_addJoint_1 : decode cX2_addJoint 1 = .ok (.getfield 52, 3) := by decide +kernel
theorem dX2_addJoint_4 : decode cX2_addJoint 4 = .ok (.bipush 6, 2) := by decide +kernel
theorem dX2_addJoint_6 : decode cX2_addJoint 6 = .ok (.if_icmp .ge 43, 3) := by decide +kernel
theorem dX2_addJoint_9 : decode cX2_addJoint 9 = .ok (.aload_n 0, 1) := by decide +kernel
theorem dX2_addJoint_10 : decode cX2_addJoint 10 = .ok (.getfield 31, 3) := by decide +kernel
theorem dX2_addJoint_13 : decode cX2_addJoint 13 = .ok (.aload_n 0, 1) := by decide +kernel
theorem dX2_addJoint_14 : decode cX2_addJoint 14 = .ok (.getfield 52, 3) := by decide +kernel
theorem dX2_addJoint_17 : decode cX2_addJoint 17 = .ok (.iload_n 1, 1) := by decide +kernel
theorem dX2_addJoint_18 : decode cX2_addJoint 18 = .ok (.iastore, 1) := by decide +kernel
theorem dX2_addJoint_19 : decode cX2_addJoint 19 = .ok (.aload_n 0, 1) := by decide +kernel
theorem dX2_addJoint_20 : decode cX2_addJoint 20 = .ok (.getfield 34, 3) := by decide +kernel
theorem dX2_addJoint_23 : decode cX2_addJoint 23 = .ok (.aload_n 0, 1) := by decide +kernel
theorem dX2_addJoint_24 : decode cX2_addJoint 24 = .ok (.getfield 52, 3) := by decide +kernel
theorem dX2_addJoint_27 : decode cX2_addJoint 27 = .ok (.iload_n 2, 1) := by decide +kernel
theorem dX2_addJoint_28 : decode cX2_addJoint 28 = .ok (.iastore, 1) := by decide +kernel
theorem dX2_addJoint_29 : decode cX2_addJoint 29 = .ok (.aload_n 0, 1) := by decide +kernel
theorem dX2_addJoint_30 : decode cX2_addJoint 30 = .ok (.getfield 37, 3) := by decide +kernel
theorem dX2_addJoint_33 : decode cX2_addJoint 33 = .ok (.aload_n 0, 1) := by decide +kernel
theorem dX2_addJoint_34 : decode cX2_addJoint 34 = .ok (.getfield 52, 3) := by decide +kernel
theorem dX2_addJoint_37 : decode cX2_addJoint 37 = .ok (.iload_n 3, 1) := by decide +kernel
theorem dX2_addJoint_38 : decode cX2_addJoint 38 = .ok (.iastore, 1) := by decide +kernel
theorem dX2_addJoint_39 : decode cX2_addJoint 39 = .ok (.aload_n 0, 1) := by decide +kernel
theorem dX2_addJoint_40 : decode cX2_addJoint 40 = .ok (.dup, 1) := by decide +kernel
theorem dX2_addJoint_41 : decode cX2_addJoint 41 = .ok (.getfield 52, 3) := by decide +kernel
theorem dX2_addJoint_44 : decode cX2_addJoint 44 = .ok (.iconst 1, 1) := by decide +kernel
theorem dX2_addJoint_45 : decode cX2_addJoint 45 = .ok (.iadd, 1) := by decide +kernel
theorem dX2_addJoint_46 : decode cX2_addJoint 46 = .ok (.putfield 52, 3) := by decide +kernel
theorem dX2_addJoint_49 : decode cX2_addJoint 49 = .ok (.return_, 1) := by decide +kernel
theorem dX2_formOf_0 : decode cX2_formOf 0 = .ok (.aload_n 0, 1) := by decide +kernel
theorem dX2_formOf_1 : decode cX2_formOf 1 = .ok (.getfield 9, 3) := by decide +kernel
theorem dX2_formOf_4 : decode cX2_formOf 4 = .ok (.ifCond .lt 29, 3) := by decide +kernel
theorem dX2_formOf_7 : decode cX2_formOf 7 = .ok (.aload_n 0, 1) := by decide +kernel
theorem dX2_formOf_8 : decode cX2_formOf 8 = .ok (.getfield 9, 3) := by decide +kernel
theorem dX2_formOf_11 : decode cX2_formOf 11 = .ok (.aload_n 0, 1) := by decide +kernel
theorem dX2_formOf_12 : decode cX2_formOf 12 = .ok (.getfield 46, 3) := by decide +kernel
theorem dX2_formOf_15 : decode cX2_formOf 15 = .ok (.if_icmp .ge 18, 3) := by decide +kernel
theorem dX2_formOf_18 : decode cX2_formOf 18 = .ok (.aload_n 0, 1) := by decide +kernel
theorem dX2_formOf_19 : decode cX2_formOf 19 = .ok (.getfield 9, 3) := by decide +kernel
theorem dX2_formOf_22 : decode cX2_formOf 22 = .ok (.iload_n 1, 1) := by decide +kernel
theorem dX2_formOf_23 : decode cX2_formOf 23 = .ok (.invokestatic 67, 3) := by decide +kernel
theorem dX2_formOf_26 : decode cX2_formOf 26 = .ok (.ifCond .eq 7, 3) := by decide +kernel
theorem dX2_formOf_29 : decode cX2_formOf 29 = .ok (.iconst 1, 1) := by decide +kernel
theorem dX2_formOf_30 : decode cX2_formOf 30 = .ok (.goto 4, 3) := by decide +kernel
theorem dX2_formOf_33 : decode cX2_formOf 33 = .ok (.iconst 0, 1) := by decide +kernel
theorem dX2_formOf_34 : decode cX2_formOf 34 = .ok (.istore_n 2, 1) := by decide +kernel
theorem dX2_formOf_35 : decode cX2_formOf 35 = .ok (.iload_n 2, 1) := by decide +kernel
theorem dX2_formOf_36 : decode cX2_formOf 36 = .ok (.ifCond .eq 15, 3) := by decide +kernel
theorem dX2_formOf_39 : decode cX2_formOf 39 = .ok (.aload_n 0, 1) := by decide +kernel
theorem dX2_formOf_40 : decode cX2_formOf 40 = .ok (.getfield 22, 3) := by decide +kernel
theorem dX2_formOf_43 : decode cX2_formOf 43 = .ok (.aload_n 0, 1) := by decide +kernel
theorem dX2_formOf_44 : decode cX2_formOf 44 = .ok (.getfield 9, 3) := by decide +kernel
theorem dX2_formOf_47 : decode cX2_formOf 47 = .ok (.iaload, 1) := by decide +kernel
