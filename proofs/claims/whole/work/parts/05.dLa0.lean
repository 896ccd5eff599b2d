theorem dLa_object_0 : decode bLa_object 0 = .ok (.aload_n 2, 1) := by decide +kernel
theorem dLa_object_1 : decode bLa_object 1 = .ok (.iconst 0, 1) := by decide +kernel
theorem dLa_object_2 : decode bLa_object 2 = .ok (.aload_n 0, 1) := by decide +kernel
theorem dLa_object_3 : decode bLa_object 3 = .ok (.iload_n 1, 1) := by decide +kernel
theorem dLa_object_4 : decode bLa_object 4 = .ok (.invokevirtual 7, 3) := by decide +kernel
theorem dLa_object_7 : decode bLa_object 7 = .ok (.i2l, 1) := by decide +kernel
theorem dLa_object_8 : decode bLa_object 8 = .ok (.lastore, 1) := by decide +kernel
theorem dLa_object_9 : decode bLa_object 9 = .ok (.goto 6, 3) := by decide +kernel
theorem dLa_object_12 : decode bLa_object 12 = .ok (.astore_n 3, 1) := by decide +kernel
theorem dLa_object_13 : decode bLa_object 13 = .ok (.iconst 1, 1) := by decide +kernel
theorem dLa_object_14 : decode bLa_object 14 = .ok (.ireturn, 1) := by decide +kernel
theorem dLa_object_15 : decode bLa_object 15 = .ok (.iconst 0, 1) := by decide +kernel
theorem dLa_object_16 : decode bLa_object 16 = .ok (.ireturn, 1) := by decide +kernel
theorem dLa_call_0 : decode bLa_call 0 = .ok (.aload 6, 2) := by decide +kernel
theorem dLa_call_2 : decode bLa_call 2 = .ok (.iconst 0, 1) := by decide +kernel
theorem dLa_call_3 : decode bLa_call 3 = .ok (.aload_n 0, 1) := by decide +kernel
theorem dLa_call_4 : decode bLa_call 4 = .ok (.iload_n 1, 1) := by decide +kernel
theorem dLa_call_5 : decode bLa_call 5 = .ok (.iload_n 2, 1) := by decide +kernel
theorem dLa_call_6 : decode bLa_call 6 = .ok (.iload_n 3, 1) := by decide +kernel
theorem dLa_call_7 : decode bLa_call 7 = .ok (.iload 4, 2) := by decide +kernel
theorem dLa_call_9 : decode bLa_call 9 = .ok (.iload 5, 2) := by decide +kernel
theorem dLa_call_11 : decode bLa_call 11 = .ok (.invokevirtual 15, 3) := by decide +kernel
theorem dLa_call_14 : decode bLa_call 14 = .ok (.i2l, 1) := by decide +kernel
theorem dLa_call_15 : decode bLa_call 15 = .ok (.lastore, 1) := by decide +kernel
theorem dLa_call_16 : decode bLa_call 16 = .ok (.goto 11, 3) := by decide +kernel
theorem dLa_call_19 : decode bLa_call 19 = .ok (.astore 7, 2) := by decide +kernel
theorem dLa_call_21 : decode bLa_call 21 = .ok (.iconst 1, 1) := by decide +kernel
theorem dLa_call_22 : decode bLa_call 22 = .ok (.ireturn, 1) := by decide +kernel
theorem dLa_call_23 : decode bLa_call 23 = .ok (.astore 7, 2) := by decide +kernel
theorem dLa_call_25 : decode bLa_call 25 = .ok (.iconst 2, 1) := by decide +kernel
theorem dLa_call_26 : decode bLa_call 26 = .ok (.ireturn, 1) := by decide +kernel
theorem dLa_call_27 : decode bLa_call 27 = .ok (.iconst 0, 1) := by decide +kernel
theorem dLa_call_28 : decode bLa_call 28 = .ok (.ireturn, 1) := by decide +kernel
theorem dLa_back_0 : decode bLa_back 0 = .ok (.aload_n 0, 1) := by decide +kernel
theorem dLa_back_1 : decode bLa_back 1 = .ok (.iload_n 1, 1) := by decide +kernel
theorem dLa_back_2 : decode bLa_back 2 = .ok (.iload_n 2, 1) := by decide +kernel
theorem dLa_back_3 : decode bLa_back 3 = .ok (.invokevirtual 21, 3) := by decide +kernel
theorem dLa_back_6 : decode bLa_back 6 = .ok (.goto 9, 3) := by decide +kernel
theorem dLa_back_9 : decode bLa_back 9 = .ok (.astore_n 3, 1) := by decide +kernel
theorem dLa_back_10 : decode bLa_back 10 = .ok (.iconst 1, 1) := by decide +kernel
theorem dLa_back_11 : decode bLa_back 11 = .ok (.ireturn, 1) := by decide +kernel
theorem dLa_back_12 : decode bLa_back 12 = .ok (.astore_n 3, 1) := by decide +kernel
theorem dLa_back_13 : decode bLa_back 13 = .ok (.iconst 2, 1) := by decide +kernel
theorem dLa_back_14 : decode bLa_back 14 = .ok (.ireturn, 1) := by decide +kernel
theorem dLa_back_15 : decode bLa_back 15 = .ok (.iconst 0, 1) := by decide +kernel
theorem dLa_back_16 : decode bLa_back 16 = .ok (.ireturn, 1) := by decide +kernel
theorem dLa_lose_0 : decode bLa_lose 0 = .ok (.aload_n 0, 1) := by decide +kernel
theorem dLa_lose_1 : decode bLa_lose 1 = .ok (.iload_n 1, 1) := by decide +kernel
theorem dLa_lose_2 : decode bLa_lose 2 = .ok (.invokevirtual 25, 3) := by decide +kernel
theorem dLa_lose_5 : decode bLa_lose 5 = .ok (.goto 9, 3) := by decide +kernel
theorem dLa_lose_8 : decode bLa_lose 8 = .ok (.astore_n 2, 1) := by decide +kernel
theorem dLa_lose_9 : decode bLa_lose 9 = .ok (.iconst 1, 1) := by decide +kernel
theorem dLa_lose_10 : decode bLa_lose 10 = .ok (.ireturn, 1) := by decide +kernel
theorem dLa_lose_11 : decode bLa_lose 11 = .ok (.astore_n 2, 1) := by decide +kernel
theorem dLa_lose_12 : decode bLa_lose 12 = .ok (.iconst 2, 1) := by decide +kernel
theorem dLa_lose_13 : decode bLa_lose 13 = .ok (.ireturn, 1) := by decide +kernel
theorem dLa_lose_14 : decode bLa_lose 14 = .ok (.iconst 0, 1) := by decide +kernel
theorem dLa_lose_15 : decode bLa_lose 15 = .ok (.ireturn, 1) := by decide +kernel
theorem dLa_possibilities_0 : decode bLa_possibilities 0 = .ok (.aload_n 2, 1) := by decide +kernel
theorem dLa_possibilities_1 : decode bLa_possibilities 1 = .ok (.iconst 0, 1) := by decide +kernel
theorem dLa_possibilities_2 : decode bLa_possibilities 2 = .ok (.aload_n 0, 1) := by decide +kernel
theorem dLa_possibilities_3 : decode bLa_possibilities 3 = .ok (.iload_n 1, 1) := by decide +kernel
theorem dLa_possibilities_4 : decode bLa_possibilities 4 = .ok (.invokevirtual 29, 3) := by decide +kernel
theorem dLa_possibilities_7 : decode bLa_possibilities 7 = .ok (.i2l, 1) := by decide +kernel
theorem dLa_possibilities_8 : decode bLa_possibilities 8 = .ok (.lastore, 1) := by decide +kernel
theorem dLa_possibilities_9 : decode bLa_possibilities 9 = .ok (.goto 6, 3) := by decide +kernel
theorem dLa_possibilities_12 : decode bLa_possibilities 12 = .ok (.astore_n 3, 1) := by decide +kernel
theorem dLa_possibilities_13 : decode bLa_possibilities 13 = .ok (.iconst 1, 1) := by decide +kernel
theorem dLa_possibilities_14 : decode bLa_possibilities 14 = .ok (.ireturn, 1) := by decide +kernel
theorem dLa_possibilities_15 : decode bLa_possibilities 15 = .ok (.iconst 0, 1) := by decide +kernel
theorem dLa_possibilities_16 : decode bLa_possibilities 16 = .ok (.ireturn, 1) := by decide +kernel
theorem dLa_judge_0 : decode bLa_judge 0 = .ok (.aload_n 2, 1) := by decide +kernel
theorem dLa_judge_1 : decode bLa_judge 1 = .ok (.iconst 0, 1) := by decide +kernel
theorem dLa_judge_2 : decode bLa_judge 2 = .ok (.aload_n 0, 1) := by decide +kernel
theorem dLa_judge_3 : decode bLa_judge 3 = .ok (.iload_n 1, 1) := by decide +kernel
theorem dLa_judge_4 : decode bLa_judge 4 = .ok (.invokevirtual 32, 3) := by decide +kernel
theorem dLa_judge_7 : decode bLa_judge 7 = .ok (.i2l, 1) := by decide +kernel
theorem dLa_judge_8 : decode bLa_judge 8 = .ok (.lastore, 1) := by decide +kernel
theorem dLa_judge_9 : decode bLa_judge 9 = .ok (.goto 6, 3) := by decide +kernel
theorem dLa_judge_12 : decode bLa_judge 12 = .ok (.astore_n 3, 1) := by decide +kernel
theorem dLa_judge_13 : decode bLa_judge 13 = .ok (.iconst 1, 1) := by decide +kernel
theorem dLa_judge_14 : decode bLa_judge 14 = .ok (.ireturn, 1) := by decide +kernel
theorem dLa_judge_15 : decode bLa_judge 15 = .ok (.iconst 0, 1) := by decide +kernel
theorem dLa_judge_16 : decode bLa_judge 16 = .ok (.ireturn, 1) := by decide +kernel
theorem dLa_judgeOwn_0 : decode bLa_judgeOwn 0 = .ok (.aload_n 2, 1) := by decide +kernel
theorem dLa_judgeOwn_1 : decode bLa_judgeOwn 1 = .ok (.iconst 0, 1) := by decide +kernel
theorem dLa_judgeOwn_2 : decode bLa_judgeOwn 2 = .ok (.aload_n 0, 1) := by decide +kernel
theorem dLa_judgeOwn_3 : decode bLa_judgeOwn 3 = .ok (.iload_n 1, 1) := by decide +kernel
theorem dLa_judgeOwn_4 : decode bLa_judgeOwn 4 = .ok (.invokevirtual 35, 3) := by decide +kernel
theorem dLa_judgeOwn_7 : decode bLa_judgeOwn 7 = .ok (.i2l, 1) := by decide +kernel
theorem dLa_judgeOwn_8 : decode bLa_judgeOwn 8 = .ok (.lastore, 1) := by decide +kernel
theorem dLa_judgeOwn_9 : decode bLa_judgeOwn 9 = .ok (.goto 6, 3) := by decide +kernel
theorem dLa_judgeOwn_12 : decode bLa_judgeOwn 12 = .ok (.astore_n 3, 1) := by decide +kernel
theorem dLa_judgeOwn_13 : decode bLa_judgeOwn 13 = .ok (.iconst 1, 1) := by decide +kernel
theorem dLa_judgeOwn_14 : decode bLa_judgeOwn 14 = .ok (.ireturn, 1) := by decide +kernel
theorem dLa_judgeOwn_15 : decode bLa_judgeOwn 15 = .ok (.iconst 0, 1) := by decide +kernel
theorem dLa_judgeOwn_16 : decode bLa_judgeOwn 16 = .ok (.ireturn, 1) := by decide +kernel
theorem dLa_ways_0 : decode bLa_ways 0 = .ok (.aload_n 2, 1) := by decide +kernel
theorem dLa_ways_1 : decode bLa_ways 1 = .ok (.iconst 0, 1) := by decide +kernel
theorem dLa_ways_2 : decode bLa_ways 2 = .ok (.aload_n 0, 1) := by decide +kernel
theorem dLa_ways_3 : decode bLa_ways 3 = .ok (.iload_n 1, 1) := by decide +kernel
theorem dLa_ways_4 : decode bLa_ways 4 = .ok (.invokevirtual 38, 3) := by decide +kernel
theorem dLa_ways_7 : decode bLa_ways 7 = .ok (.lastore, 1) := by decide +kernel
theorem dLa_ways_8 : decode bLa_ways 8 = .ok (.goto 6, 3) := by decide +kernel
theorem dLa_ways_11 : decode bLa_ways 11 = .ok (.astore_n 3, 1) := by decide +kernel
theorem dLa_ways_12 : decode bLa_ways 12 = .ok (.iconst 1, 1) := by decide +kernel
theorem dLa_ways_13 : decode bLa_ways 13 = .ok (.ireturn, 1) := by decide +kernel
theorem dLa_ways_14 : decode bLa_ways 14 = .ok (.iconst 0, 1) := by decide +kernel
theorem dLa_ways_15 : decode bLa_ways 15 = .ok (.ireturn, 1) := by decide +kernel
theorem dLa_lasts_0 : decode bLa_lasts 0 = .ok (.aload_n 2, 1) := by decide +kernel
theorem dLa_lasts_1 : decode bLa_lasts 1 = .ok (.iconst 0, 1) := by decide +kernel
theorem dLa_lasts_2 : decode bLa_lasts 2 = .ok (.aload_n 0, 1) := by decide +kernel
theorem dLa_lasts_3 : decode bLa_lasts 3 = .ok (.iload_n 1, 1) := by decide +kernel
theorem dLa_lasts_4 : decode bLa_lasts 4 = .ok (.invokevirtual 42, 3) := by decide +kernel
theorem dLa_lasts_7 : decode bLa_lasts 7 = .ok (.i2l, 1) := by decide +kernel
theorem dLa_lasts_8 : decode bLa_lasts 8 = .ok (.lastore, 1) := by decide +kernel
theorem dLa_lasts_9 : decode bLa_lasts 9 = .ok (.goto 6, 3) := by decide +kernel
theorem dLa_lasts_12 : decode bLa_lasts 12 = .ok (.astore_n 3, 1) := by decide +kernel
theorem dLa_lasts_13 : decode bLa_lasts 13 = .ok (.iconst 1, 1) := by decide +kernel
theorem dLa_lasts_14 : decode bLa_lasts 14 = .ok (.ireturn, 1) := by decide +kernel
theorem dLa_lasts_15 : decode bLa_lasts 15 = .ok (.iconst 0, 1) := by decide +kernel
theorem dLa_lasts_16 : decode bLa_lasts 16 = .ok (.ireturn, 1) := by decide +kernel
theorem dLa_broken_0 : decode bLa_broken 0 = .ok (.aload_n 2, 1) := by decide +kernel
theorem dLa_broken_1 : decode bLa_broken 1 = .ok (.iconst 0, 1) := by decide +kernel
theorem dLa_broken_2 : decode bLa_broken 2 = .ok (.aload_n 0, 1) := by decide +kernel
theorem dLa_broken_3 : decode bLa_broken 3 = .ok (.iload_n 1, 1) := by decide +kernel
theorem dLa_broken_4 : decode bLa_broken 4 = .ok (.invokevirtual 45, 3) := by decide +kernel
theorem dLa_broken_7 : decode bLa_broken 7 = .ok (.i2l, 1) := by decide +kernel
theorem dLa_broken_8 : decode bLa_broken 8 = .ok (.lastore, 1) := by decide +kernel
theorem dLa_broken_9 : decode bLa_broken 9 = .ok (.goto 6, 3) := by decide +kernel
theorem dLa_broken_12 : decode bLa_broken 12 = .ok (.astore_n 3, 1) := by decide +kernel
theorem dLa_broken_13 : decode bLa_broken 13 = .ok (.iconst 1, 1) := by decide +kernel
theorem dLa_broken_14 : decode bLa_broken 14 = .ok (.ireturn, 1) := by decide +kernel
theorem dLa_broken_15 : decode bLa_broken 15 = .ok (.iconst 0, 1) := by decide +kernel
theorem dLa_broken_16 : decode bLa_broken 16 = .ok (.ireturn, 1) := by decide +kernel
theorem dLa_length_0 : decode bLa_length 0 = .ok (.aload_n 1, 1) := by decide +kernel
theorem dLa_length_1 : decode bLa_length 1 = .ok (.iconst 0, 1) := by decide +kernel
theorem dLa_length_2 : decode bLa_length 2 = .ok (.aload_n 0, 1) := by decide +kernel
theorem dLa_length_3 : decode bLa_length 3 = .ok (.invokevirtual 48, 3) := by decide +kernel
theorem dLa_length_6 : decode bLa_length 6 = .ok (.i2l, 1) := by decide +kernel
theorem dLa_length_7 : decode bLa_length 7 = .ok (.lastore, 1) := by decide +kernel
theorem dLa_length_8 : decode bLa_length 8 = .ok (.goto 6, 3) := by decide +kernel
theorem dLa_length_11 : decode bLa_length 11 = .ok (.astore_n 2, 1) := by decide +kernel
theorem dLa_length_12 : decode bLa_length 12 = .ok (.iconst 1, 1) := by decide +kernel
theorem dLa_length_13 : decode bLa_length 13 = .ok (.ireturn, 1) := by decide +kernel
theorem dLa_length_14 : decode bLa_length 14 = .ok (.iconst 0, 1) := by decide +kernel
theorem dLa_length_15 : decode bLa_length 15 = .ok (.ireturn, 1) := by decide +kernel
theorem dLa_row_0 : decode bLa_row 0 = .ok (.aload_n 2, 1) := by decide +kernel
theorem dLa_row_1 : decode bLa_row 1 = .ok (.iconst 0, 1) := by decide +kernel
theorem dLa_row_2 : decode bLa_row 2 = .ok (.aload_n 0, 1) := by decide +kernel
theorem dLa_row_3 : decode bLa_row 3 = .ok (.iload_n 1, 1) := by decide +kernel
theorem dLa_row_4 : decode bLa_row 4 = .ok (.invokevirtual 52, 3) := by decide +kernel
theorem dLa_row_7 : decode bLa_row 7 = .ok (.i2l, 1) := by decide +kernel
theorem dLa_row_8 : decode bLa_row 8 = .ok (.lastore, 1) := by decide +kernel
theorem dLa_row_9 : decode bLa_row 9 = .ok (.goto 9, 3) := by decide +kernel
theorem dLa_row_12 : decode bLa_row 12 = .ok (.astore_n 3, 1) := by decide +kernel
theorem dLa_row_13 : decode bLa_row 13 = .ok (.iconst 1, 1) := by decide +kernel
theorem dLa_row_14 : decode bLa_row 14 = .ok (.ireturn, 1) := by decide +kernel
theorem dLa_row_15 : decode bLa_row 15 = .ok (.astore_n 3, 1) := by decide +kernel
theorem dLa_row_16 : decode bLa_row 16 = .ok (.iconst 2, 1) := by decide +kernel
theorem dLa_row_17 : decode bLa_row 17 = .ok (.ireturn, 1) := by decide +kernel
theorem dLa_row_18 : decode bLa_row 18 = .ok (.iconst 0, 1) := by decide +kernel
theorem dLa_row_19 : decode bLa_row 19 = .ok (.ireturn, 1) := by decide +kernel
theorem dLa_result_0 : decode bLa_result 0 = .ok (.aload_n 2, 1) := by decide +kernel
theorem dLa_result_1 : decode bLa_result 1 = .ok (.iconst 0, 1) := by decide +kernel
theorem dLa_result_2 : decode bLa_result 2 = .ok (.aload_n 0, 1) := by decide +kernel
theorem dLa_result_3 : decode bLa_result 3 = .ok (.iload_n 1, 1) := by decide +kernel
theorem dLa_result_4 : decode bLa_result 4 = .ok (.invokevirtual 57, 3) := by decide +kernel
theorem dLa_result_7 : decode bLa_result 7 = .ok (.i2l, 1) := by decide +kernel
theorem dLa_result_8 : decode bLa_result 8 = .ok (.lastore, 1) := by decide +kernel
theorem dLa_result_9 : decode bLa_result 9 = .ok (.goto 9, 3) := by decide +kernel
theorem dLa_result_12 : decode bLa_result 12 = .ok (.astore_n 3, 1) := by decide +kernel
theorem dLa_result_13 : decode bLa_result 13 = .ok (.iconst 1, 1) := by decide +kernel
theorem dLa_result_14 : decode bLa_result 14 = .ok (.ireturn, 1) := by decide +kernel
theorem dLa_result_15 : decode bLa_result 15 = .ok (.astore_n 3, 1) := by decide +kernel
theorem dLa_result_16 : decode bLa_result 16 = .ok (.iconst 2, 1) := by decide +kernel
theorem dLa_result_17 : decode bLa_result 17 = .ok (.ireturn, 1) := by decide +kernel
theorem dLa_result_18 : decode bLa_result 18 = .ok (.iconst 0, 1) := by decide +kernel
theorem dLa_result_19 : decode bLa_result 19 = .ok (.ireturn, 1) := by decide +kernel
