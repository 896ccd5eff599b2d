theorem dSp_markHopeful_0 : decode bSp_markHopeful 0 = .ok (.aload_n 0, 1) := by decide +kernel
theorem dSp_markHopeful_1 : decode bSp_markHopeful 1 = .ok (.getfield 44, 3) := by decide +kernel
theorem dSp_markHopeful_4 : decode bSp_markHopeful 4 = .ok (.ifCond .eq 4, 3) := by decide +kernel
theorem dSp_markHopeful_7 : decode bSp_markHopeful 7 = .ok (.return_, 1) := by decide +kernel
theorem dSp_markHopeful_8 : decode bSp_markHopeful 8 = .ok (.aload_n 0, 1) := by decide +kernel
theorem dSp_markHopeful_9 : decode bSp_markHopeful 9 = .ok (.iconst 1, 1) := by decide +kernel
theorem dSp_markHopeful_10 : decode bSp_markHopeful 10 = .ok (.putfield 44, 3) := by decide +kernel
theorem dSp_markHopeful_13 : decode bSp_markHopeful 13 = .ok (.aload_n 0, 1) := by decide +kernel
theorem dSp_markHopeful_14 : decode bSp_markHopeful 14 = .ok (.getfield 12, 3) := by decide +kernel
theorem dSp_markHopeful_17 : decode bSp_markHopeful 17 = .ok (.getfield 54, 3) := by decide +kernel
theorem dSp_markHopeful_20 : decode bSp_markHopeful 20 = .ok (.iconst 1, 1) := by decide +kernel
theorem dSp_markHopeful_21 : decode bSp_markHopeful 21 = .ok (.isub, 1) := by decide +kernel
theorem dSp_markHopeful_22 : decode bSp_markHopeful 22 = .ok (.istore_n 2, 1) := by decide +kernel
theorem dSp_markHopeful_23 : decode bSp_markHopeful 23 = .ok (.iload_n 2, 1) := by decide +kernel
theorem dSp_markHopeful_24 : decode bSp_markHopeful 24 = .ok (.ifCond .lt 76, 3) := by decide +kernel
theorem dSp_markHopeful_27 : decode bSp_markHopeful 27 = .ok (.aload_n 0, 1) := by decide +kernel
theorem dSp_markHopeful_28 : decode bSp_markHopeful 28 = .ok (.iload_n 2, 1) := by decide +kernel
theorem dSp_markHopeful_29 : decode bSp_markHopeful 29 = .ok (.invokevirtual 110, 3) := by decide +kernel
theorem dSp_markHopeful_32 : decode bSp_markHopeful 32 = .ok (.istore_n 3, 1) := by decide +kernel
theorem dSp_markHopeful_33 : decode bSp_markHopeful 33 = .ok (.iconst 0, 1) := by decide +kernel
theorem dSp_markHopeful_34 : decode bSp_markHopeful 34 = .ok (.istore 4, 2) := by decide +kernel
theorem dSp_markHopeful_36 : decode bSp_markHopeful 36 = .ok (.iload 4, 2) := by decide +kernel
theorem dSp_markHopeful_38 : decode bSp_markHopeful 38 = .ok (.aload_n 0, 1) := by decide +kernel
theorem dSp_markHopeful_39 : decode bSp_markHopeful 39 = .ok (.getfield 33, 3) := by decide +kernel
theorem dSp_markHopeful_42 : decode bSp_markHopeful 42 = .ok (.if_icmp .ge 45, 3) := by decide +kernel
theorem dSp_markHopeful_45 : decode bSp_markHopeful 45 = .ok (.iload_n 3, 1) := by decide +kernel
theorem dSp_markHopeful_46 : decode bSp_markHopeful 46 = .ok (.ifCond .ne 41, 3) := by decide +kernel
theorem dSp_markHopeful_49 : decode bSp_markHopeful 49 = .ok (.aload_n 0, 1) := by decide +kernel
theorem dSp_markHopeful_50 : decode bSp_markHopeful 50 = .ok (.aload_n 1, 1) := by decide +kernel
theorem dSp_markHopeful_51 : decode bSp_markHopeful 51 = .ok (.iload_n 2, 1) := by decide +kernel
theorem dSp_markHopeful_52 : decode bSp_markHopeful 52 = .ok (.iload 4, 2) := by decide +kernel
theorem dSp_markHopeful_54 : decode bSp_markHopeful 54 = .ok (.invokevirtual 114, 3) := by decide +kernel
theorem dSp_markHopeful_57 : decode bSp_markHopeful 57 = .ok (.istore 5, 2) := by decide +kernel
theorem dSp_markHopeful_59 : decode bSp_markHopeful 59 = .ok (.iload 5, 2) := by decide +kernel
theorem dSp_markHopeful_61 : decode bSp_markHopeful 61 = .ok (.iconst (-1), 1) := by decide +kernel
theorem dSp_markHopeful_62 : decode bSp_markHopeful 62 = .ok (.if_icmp .eq 17, 3) := by decide +kernel
theorem dSp_markHopeful_65 : decode bSp_markHopeful 65 = .ok (.aload_n 0, 1) := by decide +kernel
theorem dSp_markHopeful_66 : decode bSp_markHopeful 66 = .ok (.getfield 29, 3) := by decide +kernel
theorem dSp_markHopeful_69 : decode bSp_markHopeful 69 = .ok (.iload 5, 2) := by decide +kernel
theorem dSp_markHopeful_71 : decode bSp_markHopeful 71 = .ok (.baload, 1) := by decide +kernel
theorem dSp_markHopeful_72 : decode bSp_markHopeful 72 = .ok (.ifCond .eq 7, 3) := by decide +kernel
theorem dSp_markHopeful_75 : decode bSp_markHopeful 75 = .ok (.iconst 1, 1) := by decide +kernel
theorem dSp_markHopeful_76 : decode bSp_markHopeful 76 = .ok (.goto 4, 3) := by decide +kernel
theorem dSp_markHopeful_79 : decode bSp_markHopeful 79 = .ok (.iconst 0, 1) := by decide +kernel
theorem dSp_markHopeful_80 : decode bSp_markHopeful 80 = .ok (.istore_n 3, 1) := by decide +kernel
theorem dSp_markHopeful_81 : decode bSp_markHopeful 81 = .ok (.iinc 4 1, 3) := by decide +kernel
theorem dSp_markHopeful_84 : decode bSp_markHopeful 84 = .ok (.goto (-48), 3) := by decide +kernel
theorem dSp_markHopeful_87 : decode bSp_markHopeful 87 = .ok (.aload_n 0, 1) := by decide +kernel
theorem dSp_markHopeful_88 : decode bSp_markHopeful 88 = .ok (.getfield 29, 3) := by decide +kernel
theorem dSp_markHopeful_91 : decode bSp_markHopeful 91 = .ok (.iload_n 2, 1) := by decide +kernel
theorem dSp_markHopeful_92 : decode bSp_markHopeful 92 = .ok (.iload_n 3, 1) := by decide +kernel
theorem dSp_markHopeful_93 : decode bSp_markHopeful 93 = .ok (.bastore, 1) := by decide +kernel
theorem dSp_markHopeful_94 : decode bSp_markHopeful 94 = .ok (.iinc 2 (-1), 3) := by decide +kernel
theorem dSp_markHopeful_97 : decode bSp_markHopeful 97 = .ok (.goto (-74), 3) := by decide +kernel
theorem dSp_markHopeful_100 : decode bSp_markHopeful 100 = .ok (.return_, 1) := by decide +kernel
theorem dSp_target_0 : decode bSp_target 0 = .ok (.aload_n 0, 1) := by decide +kernel
theorem dSp_target_1 : decode bSp_target 1 = .ok (.aload_n 1, 1) := by decide +kernel
theorem dSp_target_2 : decode bSp_target 2 = .ok (.iload_n 2, 1) := by decide +kernel
theorem dSp_target_3 : decode bSp_target 3 = .ok (.iload_n 3, 1) := by decide +kernel
theorem dSp_target_4 : decode bSp_target 4 = .ok (.invokevirtual 55, 3) := by decide +kernel
theorem dSp_target_7 : decode bSp_target 7 = .ok (.ifCond .ne 5, 3) := by decide +kernel
theorem dSp_target_10 : decode bSp_target 10 = .ok (.iconst (-1), 1) := by decide +kernel
theorem dSp_target_11 : decode bSp_target 11 = .ok (.ireturn, 1) := by decide +kernel
theorem dSp_target_12 : decode bSp_target 12 = .ok (.aload_n 0, 1) := by decide +kernel
theorem dSp_target_13 : decode bSp_target 13 = .ok (.getfield 12, 3) := by decide +kernel
theorem dSp_target_16 : decode bSp_target 16 = .ok (.aload_n 0, 1) := by decide +kernel
theorem dSp_target_17 : decode bSp_target 17 = .ok (.iload_n 2, 1) := by decide +kernel
theorem dSp_target_18 : decode bSp_target 18 = .ok (.iload_n 3, 1) := by decide +kernel
theorem dSp_target_19 : decode bSp_target 19 = .ok (.invokevirtual 59, 3) := by decide +kernel
theorem dSp_target_22 : decode bSp_target 22 = .ok (.aload_n 0, 1) := by decide +kernel
theorem dSp_target_23 : decode bSp_target 23 = .ok (.getfield 21, 3) := by decide +kernel
theorem dSp_target_26 : decode bSp_target 26 = .ok (.getfield 63, 3) := by decide +kernel
theorem dSp_target_29 : decode bSp_target 29 = .ok (.invokevirtual 107, 3) := by decide +kernel
theorem dSp_target_32 : decode bSp_target 32 = .ok (.ireturn, 1) := by decide +kernel
