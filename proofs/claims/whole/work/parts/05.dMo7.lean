theorem dMo_result_0 : decode bMo_result 0 = .ok (.aload_n 0, 1) := by decide +kernel
theorem dMo_result_1 : decode bMo_result 1 = .ok (.aload_n 0, 1) := by decide +kernel
theorem dMo_result_2 : decode bMo_result 2 = .ok (.invokevirtual 222, 3) := by decide +kernel
theorem dMo_result_5 : decode bMo_result 5 = .ok (.ifCond .ne 7, 3) := by decide +kernel
theorem dMo_result_8 : decode bMo_result 8 = .ok (.iconst 1, 1) := by decide +kernel
theorem dMo_result_9 : decode bMo_result 9 = .ok (.goto 20, 3) := by decide +kernel
theorem dMo_result_12 : decode bMo_result 12 = .ok (.iload_n 1, 1) := by decide +kernel
theorem dMo_result_13 : decode bMo_result 13 = .ok (.ifCond .lt 11, 3) := by decide +kernel
theorem dMo_result_16 : decode bMo_result 16 = .ok (.iload_n 1, 1) := by decide +kernel
theorem dMo_result_17 : decode bMo_result 17 = .ok (.aload_n 0, 1) := by decide +kernel
theorem dMo_result_18 : decode bMo_result 18 = .ok (.getfield 209, 3) := by decide +kernel
theorem dMo_result_21 : decode bMo_result 21 = .ok (.if_icmp .lt 7, 3) := by decide +kernel
theorem dMo_result_24 : decode bMo_result 24 = .ok (.iconst 2, 1) := by decide +kernel
theorem dMo_result_25 : decode bMo_result 25 = .ok (.goto 4, 3) := by decide +kernel
theorem dMo_result_28 : decode bMo_result 28 = .ok (.iconst 0, 1) := by decide +kernel
theorem dMo_result_29 : decode bMo_result 29 = .ok (.putfield 93, 3) := by decide +kernel
theorem dMo_result_32 : decode bMo_result 32 = .ok (.aload_n 0, 1) := by decide +kernel
theorem dMo_result_33 : decode bMo_result 33 = .ok (.getfield 93, 3) := by decide +kernel
theorem dMo_result_36 : decode bMo_result 36 = .ok (.ifCond .le 7, 3) := by decide +kernel
theorem dMo_result_39 : decode bMo_result 39 = .ok (.iconst 0, 1) := by decide +kernel
theorem dMo_result_40 : decode bMo_result 40 = .ok (.goto 9, 3) := by decide +kernel
theorem dMo_result_43 : decode bMo_result 43 = .ok (.aload_n 0, 1) := by decide +kernel
theorem dMo_result_44 : decode bMo_result 44 = .ok (.getfield 84, 3) := by decide +kernel
theorem dMo_result_47 : decode bMo_result 47 = .ok (.iload_n 1, 1) := by decide +kernel
theorem dMo_result_48 : decode bMo_result 48 = .ok (.iaload, 1) := by decide +kernel
theorem dMo_result_49 : decode bMo_result 49 = .ok (.ireturn, 1) := by decide +kernel
