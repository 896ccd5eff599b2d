theorem dLH_operationOf_0 : decode bLH_operationOf 0 = .ok (.aload_n 0, 1) := by decide +kernel
theorem dLH_operationOf_1 : decode bLH_operationOf 1 = .ok (.iload_n 1, 1) := by decide +kernel
theorem dLH_operationOf_2 : decode bLH_operationOf 2 = .ok (.invokevirtual 71, 3) := by decide +kernel
theorem dLH_operationOf_5 : decode bLH_operationOf 5 = .ok (.aload_n 0, 1) := by decide +kernel
theorem dLH_operationOf_6 : decode bLH_operationOf 6 = .ok (.getfield 26, 3) := by decide +kernel
theorem dLH_operationOf_9 : decode bLH_operationOf 9 = .ok (.iload_n 1, 1) := by decide +kernel
theorem dLH_operationOf_10 : decode bLH_operationOf 10 = .ok (.iaload, 1) := by decide +kernel
theorem dLH_operationOf_11 : decode bLH_operationOf 11 = .ok (.iconst (-1), 1) := by decide +kernel
theorem dLH_operationOf_12 : decode bLH_operationOf 12 = .ok (.if_icmp .ne 13, 3) := by decide +kernel
theorem dLH_operationOf_15 : decode bLH_operationOf 15 = .ok (.new 84, 3) := by decide +kernel
theorem dLH_operationOf_18 : decode bLH_operationOf 18 = .ok (.dup, 1) := by decide +kernel
theorem dLH_operationOf_19 : decode bLH_operationOf 19 = .ok (.ldc 169, 2) := by decide +kernel
theorem dLH_operationOf_21 : decode bLH_operationOf 21 = .ok (.invokespecial 88, 3) := by decide +kernel
theorem dLH_operationOf_24 : decode bLH_operationOf 24 = .ok (.athrow, 1) := by decide +kernel
theorem dLH_operationOf_25 : decode bLH_operationOf 25 = .ok (.aload_n 0, 1) := by decide +kernel
theorem dLH_operationOf_26 : decode bLH_operationOf 26 = .ok (.getfield 26, 3) := by decide +kernel
theorem dLH_operationOf_29 : decode bLH_operationOf 29 = .ok (.iload_n 1, 1) := by decide +kernel
theorem dLH_operationOf_30 : decode bLH_operationOf 30 = .ok (.iaload, 1) := by decide +kernel
theorem dLH_operationOf_31 : decode bLH_operationOf 31 = .ok (.ireturn, 1) := by decide +kernel
theorem dLH_lose_0 : decode bLH_lose 0 = .ok (.aload_n 0, 1) := by decide +kernel
theorem dLH_lose_1 : decode bLH_lose 1 = .ok (.iload_n 1, 1) := by decide +kernel
theorem dLH_lose_2 : decode bLH_lose 2 = .ok (.invokevirtual 106, 3) := by decide +kernel
theorem dLH_lose_5 : decode bLH_lose 5 = .ok (.pop, 1) := by decide +kernel
theorem dLH_lose_6 : decode bLH_lose 6 = .ok (.aload_n 0, 1) := by decide +kernel
theorem dLH_lose_7 : decode bLH_lose 7 = .ok (.getfield 26, 3) := by decide +kernel
theorem dLH_lose_10 : decode bLH_lose 10 = .ok (.iload_n 1, 1) := by decide +kernel
theorem dLH_lose_11 : decode bLH_lose 11 = .ok (.iconst (-1), 1) := by decide +kernel
theorem dLH_lose_12 : decode bLH_lose 12 = .ok (.iastore, 1) := by decide +kernel
theorem dLH_lose_13 : decode bLH_lose 13 = .ok (.aload_n 0, 1) := by decide +kernel
theorem dLH_lose_14 : decode bLH_lose 14 = .ok (.dup, 1) := by decide +kernel
theorem dLH_lose_15 : decode bLH_lose 15 = .ok (.getfield 103, 3) := by decide +kernel
theorem dLH_lose_18 : decode bLH_lose 18 = .ok (.iconst 1, 1) := by decide +kernel
theorem dLH_lose_19 : decode bLH_lose 19 = .ok (.iadd, 1) := by decide +kernel
theorem dLH_lose_20 : decode bLH_lose 20 = .ok (.putfield 103, 3) := by decide +kernel
theorem dLH_lose_23 : decode bLH_lose 23 = .ok (.return_, 1) := by decide +kernel
theorem dLH_possibilities_0 : decode bLH_possibilities 0 = .ok (.aload_n 0, 1) := by decide +kernel
theorem dLH_possibilities_1 : decode bLH_possibilities 1 = .ok (.iload_n 1, 1) := by decide +kernel
theorem dLH_possibilities_2 : decode bLH_possibilities 2 = .ok (.invokevirtual 114, 3) := by decide +kernel
theorem dLH_possibilities_5 : decode bLH_possibilities 5 = .ok (.getfield 117, 3) := by decide +kernel
theorem dLH_possibilities_8 : decode bLH_possibilities 8 = .ok (.ireturn, 1) := by decide +kernel
theorem dLH_learnedSubject_0 : decode bLH_learnedSubject 0 = .ok (.aload_n 0, 1) := by decide +kernel
theorem dLH_learnedSubject_1 : decode bLH_learnedSubject 1 = .ok (.iload_n 1, 1) := by decide +kernel
theorem dLH_learnedSubject_2 : decode bLH_learnedSubject 2 = .ok (.invokevirtual 74, 3) := by decide +kernel
theorem dLH_learnedSubject_5 : decode bLH_learnedSubject 5 = .ok (.astore_n 2, 1) := by decide +kernel
theorem dLH_learnedSubject_6 : decode bLH_learnedSubject 6 = .ok (.aload_n 2, 1) := by decide +kernel
theorem dLH_learnedSubject_7 : decode bLH_learnedSubject 7 = .ok (.aload_n 0, 1) := by decide +kernel
theorem dLH_learnedSubject_8 : decode bLH_learnedSubject 8 = .ok (.getfield 32, 3) := by decide +kernel
theorem dLH_learnedSubject_11 : decode bLH_learnedSubject 11 = .ok (.invokevirtual 142, 3) := by decide +kernel
theorem dLH_learnedSubject_14 : decode bLH_learnedSubject 14 = .ok (.aload_n 2, 1) := by decide +kernel
theorem dLH_learnedSubject_15 : decode bLH_learnedSubject 15 = .ok (.areturn, 1) := by decide +kernel
theorem dLH_judge_0 : decode bLH_judge 0 = .ok (.aload_n 0, 1) := by decide +kernel
theorem dLH_judge_1 : decode bLH_judge 1 = .ok (.iload_n 1, 1) := by decide +kernel
theorem dLH_judge_2 : decode bLH_judge 2 = .ok (.invokevirtual 114, 3) := by decide +kernel
theorem dLH_judge_5 : decode bLH_judge 5 = .ok (.getfield 120, 3) := by decide +kernel
theorem dLH_judge_8 : decode bLH_judge 8 = .ok (.ireturn, 1) := by decide +kernel
theorem dLH_judgeOwn_0 : decode bLH_judgeOwn 0 = .ok (.aload_n 0, 1) := by decide +kernel
theorem dLH_judgeOwn_1 : decode bLH_judgeOwn 1 = .ok (.iload_n 1, 1) := by decide +kernel
theorem dLH_judgeOwn_2 : decode bLH_judgeOwn 2 = .ok (.invokevirtual 74, 3) := by decide +kernel
theorem dLH_judgeOwn_5 : decode bLH_judgeOwn 5 = .ok (.astore_n 2, 1) := by decide +kernel
theorem dLH_judgeOwn_6 : decode bLH_judgeOwn 6 = .ok (.aload_n 2, 1) := by decide +kernel
theorem dLH_judgeOwn_7 : decode bLH_judgeOwn 7 = .ok (.aload_n 0, 1) := by decide +kernel
theorem dLH_judgeOwn_8 : decode bLH_judgeOwn 8 = .ok (.getfield 32, 3) := by decide +kernel
theorem dLH_judgeOwn_11 : decode bLH_judgeOwn 11 = .ok (.invokevirtual 123, 3) := by decide +kernel
theorem dLH_judgeOwn_14 : decode bLH_judgeOwn 14 = .ok (.aload_n 2, 1) := by decide +kernel
theorem dLH_judgeOwn_15 : decode bLH_judgeOwn 15 = .ok (.getfield 127, 3) := by decide +kernel
theorem dLH_judgeOwn_18 : decode bLH_judgeOwn 18 = .ok (.ireturn, 1) := by decide +kernel
theorem dLH_ways_0 : decode bLH_ways 0 = .ok (.aload_n 0, 1) := by decide +kernel
theorem dLH_ways_1 : decode bLH_ways 1 = .ok (.iload_n 1, 1) := by decide +kernel
theorem dLH_ways_2 : decode bLH_ways 2 = .ok (.invokevirtual 114, 3) := by decide +kernel
theorem dLH_ways_5 : decode bLH_ways 5 = .ok (.getfield 130, 3) := by decide +kernel
theorem dLH_ways_8 : decode bLH_ways 8 = .ok (.lreturn, 1) := by decide +kernel
theorem dLH_lasts_0 : decode bLH_lasts 0 = .ok (.aload_n 0, 1) := by decide +kernel
theorem dLH_lasts_1 : decode bLH_lasts 1 = .ok (.iload_n 1, 1) := by decide +kernel
theorem dLH_lasts_2 : decode bLH_lasts 2 = .ok (.invokevirtual 114, 3) := by decide +kernel
theorem dLH_lasts_5 : decode bLH_lasts 5 = .ok (.getfield 133, 3) := by decide +kernel
theorem dLH_lasts_8 : decode bLH_lasts 8 = .ok (.ireturn, 1) := by decide +kernel
theorem dLH_broken_0 : decode bLH_broken 0 = .ok (.aload_n 0, 1) := by decide +kernel
theorem dLH_broken_1 : decode bLH_broken 1 = .ok (.iload_n 1, 1) := by decide +kernel
theorem dLH_broken_2 : decode bLH_broken 2 = .ok (.invokevirtual 74, 3) := by decide +kernel
theorem dLH_broken_5 : decode bLH_broken 5 = .ok (.astore_n 2, 1) := by decide +kernel
theorem dLH_broken_6 : decode bLH_broken 6 = .ok (.aload_n 2, 1) := by decide +kernel
theorem dLH_broken_7 : decode bLH_broken 7 = .ok (.aload_n 0, 1) := by decide +kernel
theorem dLH_broken_8 : decode bLH_broken 8 = .ok (.getfield 32, 3) := by decide +kernel
theorem dLH_broken_11 : decode bLH_broken 11 = .ok (.invokevirtual 136, 3) := by decide +kernel
theorem dLH_broken_14 : decode bLH_broken 14 = .ok (.aload_n 2, 1) := by decide +kernel
theorem dLH_broken_15 : decode bLH_broken 15 = .ok (.getfield 139, 3) := by decide +kernel
theorem dLH_broken_18 : decode bLH_broken 18 = .ok (.ireturn, 1) := by decide +kernel
theorem dLH_length_0 : decode bLH_length 0 = .ok (.aload_n 0, 1) := by decide +kernel
theorem dLH_length_1 : decode bLH_length 1 = .ok (.aload_n 0, 1) := by decide +kernel
theorem dLH_length_2 : decode bLH_length 2 = .ok (.invokevirtual 145, 3) := by decide +kernel
theorem dLH_length_5 : decode bLH_length 5 = .ok (.invokevirtual 148, 3) := by decide +kernel
theorem dLH_length_8 : decode bLH_length 8 = .ok (.aload_n 0, 1) := by decide +kernel
theorem dLH_length_9 : decode bLH_length 9 = .ok (.invokevirtual 151, 3) := by decide +kernel
theorem dLH_length_12 : decode bLH_length 12 = .ok (.aload_n 0, 1) := by decide +kernel
theorem dLH_length_13 : decode bLH_length 13 = .ok (.getfield 154, 3) := by decide +kernel
theorem dLH_length_16 : decode bLH_length 16 = .ok (.ireturn, 1) := by decide +kernel
theorem dLH_checkLinear_0 : decode bLH_checkLinear 0 = .ok (.iload_n 1, 1) := by decide +kernel
theorem dLH_checkLinear_1 : decode bLH_checkLinear 1 = .ok (.iconst 1, 1) := by decide +kernel
theorem dLH_checkLinear_2 : decode bLH_checkLinear 2 = .ok (.if_icmp .eq 13, 3) := by decide +kernel
theorem dLH_checkLinear_5 : decode bLH_checkLinear 5 = .ok (.new 84, 3) := by decide +kernel
theorem dLH_checkLinear_8 : decode bLH_checkLinear 8 = .ok (.dup, 1) := by decide +kernel
theorem dLH_checkLinear_9 : decode bLH_checkLinear 9 = .ok (.ldc 160, 2) := by decide +kernel
theorem dLH_checkLinear_11 : decode bLH_checkLinear 11 = .ok (.invokespecial 88, 3) := by decide +kernel
theorem dLH_checkLinear_14 : decode bLH_checkLinear 14 = .ok (.athrow, 1) := by decide +kernel
theorem dLH_checkLinear_15 : decode bLH_checkLinear 15 = .ok (.return_, 1) := by decide +kernel
theorem dLH_buildRow_0 : decode bLH_buildRow 0 = .ok (.aload_n 0, 1) := by decide +kernel
theorem dLH_buildRow_1 : decode bLH_buildRow 1 = .ok (.getfield 67, 3) := by decide +kernel
theorem dLH_buildRow_4 : decode bLH_buildRow 4 = .ok (.ifCond .eq 4, 3) := by decide +kernel
theorem dLH_buildRow_7 : decode bLH_buildRow 7 = .ok (.return_, 1) := by decide +kernel
theorem dLH_buildRow_8 : decode bLH_buildRow 8 = .ok (.iconst 0, 1) := by decide +kernel
theorem dLH_buildRow_9 : decode bLH_buildRow 9 = .ok (.istore_n 1, 1) := by decide +kernel
theorem dLH_buildRow_10 : decode bLH_buildRow 10 = .ok (.iload_n 1, 1) := by decide +kernel
theorem dLH_buildRow_11 : decode bLH_buildRow 11 = .ok (.aload_n 0, 1) := by decide +kernel
theorem dLH_buildRow_12 : decode bLH_buildRow 12 = .ok (.getfield 58, 3) := by decide +kernel
theorem dLH_buildRow_15 : decode bLH_buildRow 15 = .ok (.if_icmp .ge 30, 3) := by decide +kernel
theorem dLH_buildRow_18 : decode bLH_buildRow 18 = .ok (.aload_n 0, 1) := by decide +kernel
theorem dLH_buildRow_19 : decode bLH_buildRow 19 = .ok (.iload_n 1, 1) := by decide +kernel
theorem dLH_buildRow_20 : decode bLH_buildRow 20 = .ok (.invokevirtual 74, 3) := by decide +kernel
theorem dLH_buildRow_23 : decode bLH_buildRow 23 = .ok (.astore_n 2, 1) := by decide +kernel
theorem dLH_buildRow_24 : decode bLH_buildRow 24 = .ok (.aload_n 2, 1) := by decide +kernel
theorem dLH_buildRow_25 : decode bLH_buildRow 25 = .ok (.getfield 173, 3) := by decide +kernel
theorem dLH_buildRow_28 : decode bLH_buildRow 28 = .ok (.aload_n 2, 1) := by decide +kernel
theorem dLH_buildRow_29 : decode bLH_buildRow 29 = .ok (.invokevirtual 176, 3) := by decide +kernel
theorem dLH_buildRow_32 : decode bLH_buildRow 32 = .ok (.aload_n 0, 1) := by decide +kernel
theorem dLH_buildRow_33 : decode bLH_buildRow 33 = .ok (.getfield 42, 3) := by decide +kernel
theorem dLH_buildRow_36 : decode bLH_buildRow 36 = .ok (.iload_n 1, 1) := by decide +kernel
theorem dLH_buildRow_37 : decode bLH_buildRow 37 = .ok (.iconst 0, 1) := by decide +kernel
theorem dLH_buildRow_38 : decode bLH_buildRow 38 = .ok (.iastore, 1) := by decide +kernel
theorem dLH_buildRow_39 : decode bLH_buildRow 39 = .ok (.iinc 1 1, 3) := by decide +kernel
theorem dLH_buildRow_42 : decode bLH_buildRow 42 = .ok (.goto (-32), 3) := by decide +kernel
theorem dLH_buildRow_45 : decode bLH_buildRow 45 = .ok (.lconst 0, 1) := by decide +kernel
theorem dLH_buildRow_46 : decode bLH_buildRow 46 = .ok (.lstore_n 1, 1) := by decide +kernel
theorem dLH_buildRow_47 : decode bLH_buildRow 47 = .ok (.aload_n 0, 1) := by decide +kernel
theorem dLH_buildRow_48 : decode bLH_buildRow 48 = .ok (.iconst 0, 1) := by decide +kernel
theorem dLH_buildRow_49 : decode bLH_buildRow 49 = .ok (.putfield 154, 3) := by decide +kernel
theorem dLH_buildRow_52 : decode bLH_buildRow 52 = .ok (.aload_n 0, 1) := by decide +kernel
theorem dLH_buildRow_53 : decode bLH_buildRow 53 = .ok (.getfield 154, 3) := by decide +kernel
theorem dLH_buildRow_56 : decode bLH_buildRow 56 = .ok (.aload_n 0, 1) := by decide +kernel
theorem dLH_buildRow_57 : decode bLH_buildRow 57 = .ok (.getfield 89, 3) := by decide +kernel
theorem dLH_buildRow_60 : decode bLH_buildRow 60 = .ok (.if_icmp .ge 43, 3) := by decide +kernel
theorem dLH_buildRow_63 : decode bLH_buildRow 63 = .ok (.aload_n 0, 1) := by decide +kernel
theorem dLH_buildRow_64 : decode bLH_buildRow 64 = .ok (.invokevirtual 180, 3) := by decide +kernel
theorem dLH_buildRow_67 : decode bLH_buildRow 67 = .ok (.ifCond .ne 36, 3) := by decide +kernel
theorem dLH_buildRow_70 : decode bLH_buildRow 70 = .ok (.aload_n 0, 1) := by decide +kernel
theorem dLH_buildRow_71 : decode bLH_buildRow 71 = .ok (.lload_n 1, 1) := by decide +kernel
theorem dLH_buildRow_72 : decode bLH_buildRow 72 = .ok (.invokevirtual 184, 3) := by decide +kernel
theorem dLH_buildRow_75 : decode bLH_buildRow 75 = .ok (.istore_n 3, 1) := by decide +kernel
theorem dLH_buildRow_76 : decode bLH_buildRow 76 = .ok (.iload_n 3, 1) := by decide +kernel
theorem dLH_buildRow_77 : decode bLH_buildRow 77 = .ok (.iconst (-1), 1) := by decide +kernel
theorem dLH_buildRow_78 : decode bLH_buildRow 78 = .ok (.if_icmp .ne 6, 3) := by decide +kernel
theorem dLH_buildRow_81 : decode bLH_buildRow 81 = .ok (.goto 22, 3) := by decide +kernel
theorem dLH_buildRow_84 : decode bLH_buildRow 84 = .ok (.lload_n 1, 1) := by decide +kernel
theorem dLH_buildRow_85 : decode bLH_buildRow 85 = .ok (.lconst 1, 1) := by decide +kernel
theorem dLH_buildRow_86 : decode bLH_buildRow 86 = .ok (.iload_n 3, 1) := by decide +kernel
theorem dLH_buildRow_87 : decode bLH_buildRow 87 = .ok (.lshl, 1) := by decide +kernel
theorem dLH_buildRow_88 : decode bLH_buildRow 88 = .ok (.lor, 1) := by decide +kernel
theorem dLH_buildRow_89 : decode bLH_buildRow 89 = .ok (.lstore_n 1, 1) := by decide +kernel
theorem dLH_buildRow_90 : decode bLH_buildRow 90 = .ok (.aload_n 0, 1) := by decide +kernel
theorem dLH_buildRow_91 : decode bLH_buildRow 91 = .ok (.dup, 1) := by decide +kernel
theorem dLH_buildRow_92 : decode bLH_buildRow 92 = .ok (.getfield 154, 3) := by decide +kernel
theorem dLH_buildRow_95 : decode bLH_buildRow 95 = .ok (.iconst 1, 1) := by decide +kernel
theorem dLH_buildRow_96 : decode bLH_buildRow 96 = .ok (.iadd, 1) := by decide +kernel
theorem dLH_buildRow_97 : decode bLH_buildRow 97 = .ok (.putfield 154, 3) := by decide +kernel
theorem dLH_buildRow_100 : decode bLH_buildRow 100 = .ok (.goto (-48), 3) := by decide +kernel
theorem dLH_buildRow_103 : decode bLH_buildRow 103 = .ok (.aload_n 0, 1) := by decide +kernel
theorem dLH_buildRow_104 : decode bLH_buildRow 104 = .ok (.iconst 1, 1) := by decide +kernel
theorem dLH_buildRow_105 : decode bLH_buildRow 105 = .ok (.putfield 67, 3) := by decide +kernel
theorem dLH_buildRow_108 : decode bLH_buildRow 108 = .ok (.return_, 1) := by decide +kernel
theorem dLH_allAtEnds_0 : decode bLH_allAtEnds 0 = .ok (.iconst 0, 1) := by decide +kernel
theorem dLH_allAtEnds_1 : decode bLH_allAtEnds 1 = .ok (.istore_n 1, 1) := by decide +kernel
theorem dLH_allAtEnds_2 : decode bLH_allAtEnds 2 = .ok (.iload_n 1, 1) := by decide +kernel
theorem dLH_allAtEnds_3 : decode bLH_allAtEnds 3 = .ok (.aload_n 0, 1) := by decide +kernel
theorem dLH_allAtEnds_4 : decode bLH_allAtEnds 4 = .ok (.getfield 58, 3) := by decide +kernel
theorem dLH_allAtEnds_7 : decode bLH_allAtEnds 7 = .ok (.if_icmp .ge 31, 3) := by decide +kernel
theorem dLH_allAtEnds_10 : decode bLH_allAtEnds 10 = .ok (.aload_n 0, 1) := by decide +kernel
theorem dLH_allAtEnds_11 : decode bLH_allAtEnds 11 = .ok (.iload_n 1, 1) := by decide +kernel
theorem dLH_allAtEnds_12 : decode bLH_allAtEnds 12 = .ok (.invokevirtual 74, 3) := by decide +kernel
theorem dLH_allAtEnds_15 : decode bLH_allAtEnds 15 = .ok (.getfield 173, 3) := by decide +kernel
theorem dLH_allAtEnds_18 : decode bLH_allAtEnds 18 = .ok (.aload_n 0, 1) := by decide +kernel
theorem dLH_allAtEnds_19 : decode bLH_allAtEnds 19 = .ok (.getfield 42, 3) := by decide +kernel
theorem dLH_allAtEnds_22 : decode bLH_allAtEnds 22 = .ok (.iload_n 1, 1) := by decide +kernel
theorem dLH_allAtEnds_23 : decode bLH_allAtEnds 23 = .ok (.iaload, 1) := by decide +kernel
theorem dLH_allAtEnds_24 : decode bLH_allAtEnds 24 = .ok (.invokevirtual 188, 3) := by decide +kernel
theorem dLH_allAtEnds_27 : decode bLH_allAtEnds 27 = .ok (.ifCond .ne 5, 3) := by decide +kernel
theorem dLH_allAtEnds_30 : decode bLH_allAtEnds 30 = .ok (.iconst 0, 1) := by decide +kernel
theorem dLH_allAtEnds_31 : decode bLH_allAtEnds 31 = .ok (.ireturn, 1) := by decide +kernel
theorem dLH_allAtEnds_32 : decode bLH_allAtEnds 32 = .ok (.iinc 1 1, 3) := by decide +kernel
theorem dLH_allAtEnds_35 : decode bLH_allAtEnds 35 = .ok (.goto (-33), 3) := by decide +kernel
theorem dLH_allAtEnds_38 : decode bLH_allAtEnds 38 = .ok (.iconst 1, 1) := by decide +kernel
theorem dLH_allAtEnds_39 : decode bLH_allAtEnds 39 = .ok (.ireturn, 1) := by decide +kernel
theorem dLH_placeNext_0 : decode bLH_placeNext 0 = .ok (.iconst 0, 1) := by decide +kernel
theorem dLH_placeNext_1 : decode bLH_placeNext 1 = .ok (.istore_n 3, 1) := by decide +kernel
theorem dLH_placeNext_2 : decode bLH_placeNext 2 = .ok (.iload_n 3, 1) := by decide +kernel
theorem dLH_placeNext_3 : decode bLH_placeNext 3 = .ok (.aload_n 0, 1) := by decide +kernel
theorem dLH_placeNext_4 : decode bLH_placeNext 4 = .ok (.getfield 89, 3) := by decide +kernel
theorem dLH_placeNext_7 : decode bLH_placeNext 7 = .ok (.if_icmp .ge 153, 3) := by decide +kernel
theorem dLH_placeNext_10 : decode bLH_placeNext 10 = .ok (.lload_n 1, 1) := by decide +kernel
theorem dLH_placeNext_11 : decode bLH_placeNext 11 = .ok (.iload_n 3, 1) := by decide +kernel
theorem dLH_placeNext_12 : decode bLH_placeNext 12 = .ok (.lushr, 1) := by decide +kernel
theorem dLH_placeNext_13 : decode bLH_placeNext 13 = .ok (.lconst 1, 1) := by decide +kernel
theorem dLH_placeNext_14 : decode bLH_placeNext 14 = .ok (.land, 1) := by decide +kernel
theorem dLH_placeNext_15 : decode bLH_placeNext 15 = .ok (.lconst 0, 1) := by decide +kernel
theorem dLH_placeNext_16 : decode bLH_placeNext 16 = .ok (.lcmp, 1) := by decide +kernel
theorem dLH_placeNext_17 : decode bLH_placeNext 17 = .ok (.ifCond .eq 7, 3) := by decide +kernel
theorem dLH_placeNext_20 : decode bLH_placeNext 20 = .ok (.iconst 1, 1) := by decide +kernel
theorem dLH_placeNext_21 : decode bLH_placeNext 21 = .ok (.goto 4, 3) := by decide +kernel
theorem dLH_placeNext_24 : decode bLH_placeNext 24 = .ok (.iconst 0, 1) := by decide +kernel
theorem dLH_placeNext_25 : decode bLH_placeNext 25 = .ok (.istore 4, 2) := by decide +kernel
theorem dLH_placeNext_27 : decode bLH_placeNext 27 = .ok (.iload 4, 2) := by decide +kernel
theorem dLH_placeNext_29 : decode bLH_placeNext 29 = .ok (.ifCond .ne 125, 3) := by decide +kernel
theorem dLH_placeNext_32 : decode bLH_placeNext 32 = .ok (.aload_n 0, 1) := by decide +kernel
theorem dLH_placeNext_33 : decode bLH_placeNext 33 = .ok (.getfield 22, 3) := by decide +kernel
theorem dLH_placeNext_36 : decode bLH_placeNext 36 = .ok (.iload_n 3, 1) := by decide +kernel
theorem dLH_placeNext_37 : decode bLH_placeNext 37 = .ok (.laload, 1) := by decide +kernel
theorem dLH_placeNext_38 : decode bLH_placeNext 38 = .ok (.lload_n 1, 1) := by decide +kernel
theorem dLH_placeNext_39 : decode bLH_placeNext 39 = .ok (.ldc2_w 192, 3) := by decide +kernel
theorem dLH_placeNext_42 : decode bLH_placeNext 42 = .ok (.lxor, 1) := by decide +kernel
theorem dLH_placeNext_43 : decode bLH_placeNext 43 = .ok (.land, 1) := by decide +kernel
theorem dLH_placeNext_44 : decode bLH_placeNext 44 = .ok (.lconst 0, 1) := by decide +kernel
theorem dLH_placeNext_45 : decode bLH_placeNext 45 = .ok (.lcmp, 1) := by decide +kernel
theorem dLH_placeNext_46 : decode bLH_placeNext 46 = .ok (.ifCond .eq 6, 3) := by decide +kernel
theorem dLH_placeNext_49 : decode bLH_placeNext 49 = .ok (.goto 105, 3) := by decide +kernel
theorem dLH_placeNext_52 : decode bLH_placeNext 52 = .ok (.aload_n 0, 1) := by decide +kernel
theorem dLH_placeNext_53 : decode bLH_placeNext 53 = .ok (.getfield 15, 3) := by decide +kernel
theorem dLH_placeNext_56 : decode bLH_placeNext 56 = .ok (.iload_n 3, 1) := by decide +kernel
theorem dLH_placeNext_57 : decode bLH_placeNext 57 = .ok (.iaload, 1) := by decide +kernel
theorem dLH_placeNext_58 : decode bLH_placeNext 58 = .ok (.istore 5, 2) := by decide +kernel
theorem dLH_placeNext_60 : decode bLH_placeNext 60 = .ok (.aload_n 0, 1) := by decide +kernel
theorem dLH_placeNext_61 : decode bLH_placeNext 61 = .ok (.iload 5, 2) := by decide +kernel
theorem dLH_placeNext_63 : decode bLH_placeNext 63 = .ok (.invokevirtual 74, 3) := by decide +kernel
theorem dLH_placeNext_66 : decode bLH_placeNext 66 = .ok (.astore 6, 2) := by decide +kernel
theorem dLH_placeNext_68 : decode bLH_placeNext 68 = .ok (.aload 6, 2) := by decide +kernel
theorem dLH_placeNext_70 : decode bLH_placeNext 70 = .ok (.getfield 173, 3) := by decide +kernel
theorem dLH_placeNext_73 : decode bLH_placeNext 73 = .ok (.aload 6, 2) := by decide +kernel
theorem dLH_placeNext_75 : decode bLH_placeNext 75 = .ok (.aload_n 0, 1) := by decide +kernel
theorem dLH_placeNext_76 : decode bLH_placeNext 76 = .ok (.getfield 42, 3) := by decide +kernel
theorem dLH_placeNext_79 : decode bLH_placeNext 79 = .ok (.iload 5, 2) := by decide +kernel
theorem dLH_placeNext_81 : decode bLH_placeNext 81 = .ok (.iaload, 1) := by decide +kernel
theorem dLH_placeNext_82 : decode bLH_placeNext 82 = .ok (.aload_n 0, 1) := by decide +kernel
theorem dLH_placeNext_83 : decode bLH_placeNext 83 = .ok (.getfield 19, 3) := by decide +kernel
theorem dLH_placeNext_86 : decode bLH_placeNext 86 = .ok (.iload_n 3, 1) := by decide +kernel
theorem dLH_placeNext_87 : decode bLH_placeNext 87 = .ok (.iaload, 1) := by decide +kernel
theorem dLH_placeNext_88 : decode bLH_placeNext 88 = .ok (.invokevirtual 194, 3) := by decide +kernel
theorem dLH_placeNext_91 : decode bLH_placeNext 91 = .ok (.istore 7, 2) := by decide +kernel
theorem dLH_placeNext_93 : decode bLH_placeNext 93 = .ok (.iload 7, 2) := by decide +kernel
theorem dLH_placeNext_95 : decode bLH_placeNext 95 = .ok (.iconst (-1), 1) := by decide +kernel
theorem dLH_placeNext_96 : decode bLH_placeNext 96 = .ok (.if_icmp .eq 58, 3) := by decide +kernel
theorem dLH_placeNext_99 : decode bLH_placeNext 99 = .ok (.aload 6, 2) := by decide +kernel
theorem dLH_placeNext_101 : decode bLH_placeNext 101 = .ok (.getfield 173, 3) := by decide +kernel
theorem dLH_placeNext_104 : decode bLH_placeNext 104 = .ok (.getfield 198, 3) := by decide +kernel
theorem dLH_placeNext_107 : decode bLH_placeNext 107 = .ok (.iload 7, 2) := by decide +kernel
theorem dLH_placeNext_109 : decode bLH_placeNext 109 = .ok (.baload, 1) := by decide +kernel
theorem dLH_placeNext_110 : decode bLH_placeNext 110 = .ok (.ifCond .eq 44, 3) := by decide +kernel
theorem dLH_placeNext_113 : decode bLH_placeNext 113 = .ok (.aload_n 0, 1) := by decide +kernel
theorem dLH_placeNext_114 : decode bLH_placeNext 114 = .ok (.getfield 42, 3) := by decide +kernel
theorem dLH_placeNext_117 : decode bLH_placeNext 117 = .ok (.iload 5, 2) := by decide +kernel
theorem dLH_placeNext_119 : decode bLH_placeNext 119 = .ok (.iload 7, 2) := by decide +kernel
theorem dLH_placeNext_121 : decode bLH_placeNext 121 = .ok (.iastore, 1) := by decide +kernel
theorem dLH_placeNext_122 : decode bLH_placeNext 122 = .ok (.aload_n 0, 1) := by decide +kernel
theorem dLH_placeNext_123 : decode bLH_placeNext 123 = .ok (.getfield 36, 3) := by decide +kernel
theorem dLH_placeNext_126 : decode bLH_placeNext 126 = .ok (.aload_n 0, 1) := by decide +kernel
theorem dLH_placeNext_127 : decode bLH_placeNext 127 = .ok (.getfield 154, 3) := by decide +kernel
theorem dLH_placeNext_130 : decode bLH_placeNext 130 = .ok (.iload_n 3, 1) := by decide +kernel
theorem dLH_placeNext_131 : decode bLH_placeNext 131 = .ok (.iastore, 1) := by decide +kernel
theorem dLH_placeNext_132 : decode bLH_placeNext 132 = .ok (.aload_n 0, 1) := by decide +kernel
theorem dLH_placeNext_133 : decode bLH_placeNext 133 = .ok (.getfield 39, 3) := by decide +kernel
theorem dLH_placeNext_136 : decode bLH_placeNext 136 = .ok (.aload_n 0, 1) := by decide +kernel
theorem dLH_placeNext_137 : decode bLH_placeNext 137 = .ok (.getfield 154, 3) := by decide +kernel
theorem dLH_placeNext_140 : decode bLH_placeNext 140 = .ok (.aload 6, 2) := by decide +kernel
theorem dLH_placeNext_142 : decode bLH_placeNext 142 = .ok (.getfield 173, 3) := by decide +kernel
theorem dLH_placeNext_145 : decode bLH_placeNext 145 = .ok (.getfield 202, 3) := by decide +kernel
theorem dLH_placeNext_148 : decode bLH_placeNext 148 = .ok (.getfield 206, 3) := by decide +kernel
theorem dLH_placeNext_151 : decode bLH_placeNext 151 = .ok (.iastore, 1) := by decide +kernel
theorem dLH_placeNext_152 : decode bLH_placeNext 152 = .ok (.iload_n 3, 1) := by decide +kernel
theorem dLH_placeNext_153 : decode bLH_placeNext 153 = .ok (.ireturn, 1) := by decide +kernel
theorem dLH_placeNext_154 : decode bLH_placeNext 154 = .ok (.iinc 3 1, 3) := by decide +kernel
theorem dLH_placeNext_157 : decode bLH_placeNext 157 = .ok (.goto (-155), 3) := by decide +kernel
theorem dLH_placeNext_160 : decode bLH_placeNext 160 = .ok (.iconst (-1), 1) := by decide +kernel
theorem dLH_placeNext_161 : decode bLH_placeNext 161 = .ok (.ireturn, 1) := by decide +kernel
theorem dLH_row_0 : decode bLH_row 0 = .ok (.aload_n 0, 1) := by decide +kernel
theorem dLH_row_1 : decode bLH_row 1 = .ok (.aload_n 0, 1) := by decide +kernel
theorem dLH_row_2 : decode bLH_row 2 = .ok (.invokevirtual 145, 3) := by decide +kernel
theorem dLH_row_5 : decode bLH_row 5 = .ok (.invokevirtual 148, 3) := by decide +kernel
theorem dLH_row_8 : decode bLH_row 8 = .ok (.aload_n 0, 1) := by decide +kernel
theorem dLH_row_9 : decode bLH_row 9 = .ok (.invokevirtual 151, 3) := by decide +kernel
theorem dLH_row_12 : decode bLH_row 12 = .ok (.aload_n 0, 1) := by decide +kernel
theorem dLH_row_13 : decode bLH_row 13 = .ok (.iload_n 1, 1) := by decide +kernel
theorem dLH_row_14 : decode bLH_row 14 = .ok (.invokevirtual 157, 3) := by decide +kernel
theorem dLH_row_17 : decode bLH_row 17 = .ok (.aload_n 0, 1) := by decide +kernel
theorem dLH_row_18 : decode bLH_row 18 = .ok (.getfield 36, 3) := by decide +kernel
theorem dLH_row_21 : decode bLH_row 21 = .ok (.iload_n 1, 1) := by decide +kernel
theorem dLH_row_22 : decode bLH_row 22 = .ok (.iaload, 1) := by decide +kernel
theorem dLH_row_23 : decode bLH_row 23 = .ok (.ireturn, 1) := by decide +kernel
theorem dLH_checkPlace_0 : decode bLH_checkPlace 0 = .ok (.iload_n 1, 1) := by decide +kernel
theorem dLH_checkPlace_1 : decode bLH_checkPlace 1 = .ok (.ifCond .lt 11, 3) := by decide +kernel
theorem dLH_checkPlace_4 : decode bLH_checkPlace 4 = .ok (.iload_n 1, 1) := by decide +kernel
theorem dLH_checkPlace_5 : decode bLH_checkPlace 5 = .ok (.aload_n 0, 1) := by decide +kernel
theorem dLH_checkPlace_6 : decode bLH_checkPlace 6 = .ok (.getfield 154, 3) := by decide +kernel
theorem dLH_checkPlace_9 : decode bLH_checkPlace 9 = .ok (.if_icmp .lt 13, 3) := by decide +kernel
theorem dLH_checkPlace_12 : decode bLH_checkPlace 12 = .ok (.new 162, 3) := by decide +kernel
theorem dLH_checkPlace_15 : decode bLH_checkPlace 15 = .ok (.dup, 1) := by decide +kernel
theorem dLH_checkPlace_16 : decode bLH_checkPlace 16 = .ok (.ldc 164, 2) := by decide +kernel
theorem dLH_checkPlace_18 : decode bLH_checkPlace 18 = .ok (.invokespecial 166, 3) := by decide +kernel
theorem dLH_checkPlace_21 : decode bLH_checkPlace 21 = .ok (.athrow, 1) := by decide +kernel
theorem dLH_checkPlace_22 : decode bLH_checkPlace 22 = .ok (.return_, 1) := by decide +kernel
theorem dLH_result_0 : decode bLH_result 0 = .ok (.aload_n 0, 1) := by decide +kernel
theorem dLH_result_1 : decode bLH_result 1 = .ok (.aload_n 0, 1) := by decide +kernel
theorem dLH_result_2 : decode bLH_result 2 = .ok (.invokevirtual 145, 3) := by decide +kernel
theorem dLH_result_5 : decode bLH_result 5 = .ok (.invokevirtual 148, 3) := by decide +kernel
theorem dLH_result_8 : decode bLH_result 8 = .ok (.aload_n 0, 1) := by decide +kernel
theorem dLH_result_9 : decode bLH_result 9 = .ok (.invokevirtual 151, 3) := by decide +kernel
theorem dLH_result_12 : decode bLH_result 12 = .ok (.aload_n 0, 1) := by decide +kernel
theorem dLH_result_13 : decode bLH_result 13 = .ok (.iload_n 1, 1) := by decide +kernel
theorem dLH_result_14 : decode bLH_result 14 = .ok (.invokevirtual 157, 3) := by decide +kernel
theorem dLH_result_17 : decode bLH_result 17 = .ok (.aload_n 0, 1) := by decide +kernel
theorem dLH_result_18 : decode bLH_result 18 = .ok (.getfield 39, 3) := by decide +kernel
theorem dLH_result_21 : decode bLH_result 21 = .ok (.iload_n 1, 1) := by decide +kernel
theorem dLH_result_22 : decode bLH_result 22 = .ok (.iaload, 1) := by decide +kernel
theorem dLH_result_23 : decode bLH_result 23 = .ok (.ireturn, 1) := by decide +kernel
