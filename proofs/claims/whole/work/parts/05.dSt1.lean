theorem dSt_removeAt_0 : decode bSt_removeAt 0 = .ok (.iconst 4, 1) := by decide +kernel
theorem dSt_removeAt_1 : decode bSt_removeAt 1 = .ok (.iload_n 1, 1) := by decide +kernel
theorem dSt_removeAt_2 : decode bSt_removeAt 2 = .ok (.imul, 1) := by decide +kernel
theorem dSt_removeAt_3 : decode bSt_removeAt 3 = .ok (.istore_n 2, 1) := by decide +kernel
theorem dSt_removeAt_4 : decode bSt_removeAt 4 = .ok (.aload_n 0, 1) := by decide +kernel
theorem dSt_removeAt_5 : decode bSt_removeAt 5 = .ok (.getfield 9, 3) := by decide +kernel
theorem dSt_removeAt_8 : decode bSt_removeAt 8 = .ok (.iload_n 2, 1) := by decide +kernel
theorem dSt_removeAt_9 : decode bSt_removeAt 9 = .ok (.lushr, 1) := by decide +kernel
theorem dSt_removeAt_10 : decode bSt_removeAt 10 = .ok (.l2i, 1) := by decide +kernel
theorem dSt_removeAt_11 : decode bSt_removeAt 11 = .ok (.bipush 15, 2) := by decide +kernel
theorem dSt_removeAt_13 : decode bSt_removeAt 13 = .ok (.iand, 1) := by decide +kernel
theorem dSt_removeAt_14 : decode bSt_removeAt 14 = .ok (.istore_n 3, 1) := by decide +kernel
theorem dSt_removeAt_15 : decode bSt_removeAt 15 = .ok (.aload_n 0, 1) := by decide +kernel
theorem dSt_removeAt_16 : decode bSt_removeAt 16 = .ok (.getfield 9, 3) := by decide +kernel
theorem dSt_removeAt_19 : decode bSt_removeAt 19 = .ok (.lconst 1, 1) := by decide +kernel
theorem dSt_removeAt_20 : decode bSt_removeAt 20 = .ok (.iload_n 2, 1) := by decide +kernel
theorem dSt_removeAt_21 : decode bSt_removeAt 21 = .ok (.lshl, 1) := by decide +kernel
theorem dSt_removeAt_22 : decode bSt_removeAt 22 = .ok (.lconst 1, 1) := by decide +kernel
theorem dSt_removeAt_23 : decode bSt_removeAt 23 = .ok (.lsub, 1) := by decide +kernel
theorem dSt_removeAt_24 : decode bSt_removeAt 24 = .ok (.land, 1) := by decide +kernel
theorem dSt_removeAt_25 : decode bSt_removeAt 25 = .ok (.lstore 4, 2) := by decide +kernel
theorem dSt_removeAt_27 : decode bSt_removeAt 27 = .ok (.aload_n 0, 1) := by decide +kernel
theorem dSt_removeAt_28 : decode bSt_removeAt 28 = .ok (.getfield 9, 3) := by decide +kernel
theorem dSt_removeAt_31 : decode bSt_removeAt 31 = .ok (.iload_n 2, 1) := by decide +kernel
theorem dSt_removeAt_32 : decode bSt_removeAt 32 = .ok (.lushr, 1) := by decide +kernel
theorem dSt_removeAt_33 : decode bSt_removeAt 33 = .ok (.iconst 4, 1) := by decide +kernel
theorem dSt_removeAt_34 : decode bSt_removeAt 34 = .ok (.lushr, 1) := by decide +kernel
theorem dSt_removeAt_35 : decode bSt_removeAt 35 = .ok (.iload_n 2, 1) := by decide +kernel
theorem dSt_removeAt_36 : decode bSt_removeAt 36 = .ok (.lshl, 1) := by decide +kernel
theorem dSt_removeAt_37 : decode bSt_removeAt 37 = .ok (.lstore 6, 2) := by decide +kernel
theorem dSt_removeAt_39 : decode bSt_removeAt 39 = .ok (.aload_n 0, 1) := by decide +kernel
theorem dSt_removeAt_40 : decode bSt_removeAt 40 = .ok (.lload 4, 2) := by decide +kernel
theorem dSt_removeAt_42 : decode bSt_removeAt 42 = .ok (.lload 6, 2) := by decide +kernel
theorem dSt_removeAt_44 : decode bSt_removeAt 44 = .ok (.lor, 1) := by decide +kernel
theorem dSt_removeAt_45 : decode bSt_removeAt 45 = .ok (.putfield 9, 3) := by decide +kernel
theorem dSt_removeAt_48 : decode bSt_removeAt 48 = .ok (.aload_n 0, 1) := by decide +kernel
theorem dSt_removeAt_49 : decode bSt_removeAt 49 = .ok (.dup, 1) := by decide +kernel
theorem dSt_removeAt_50 : decode bSt_removeAt 50 = .ok (.getfield 15, 3) := by decide +kernel
theorem dSt_removeAt_53 : decode bSt_removeAt 53 = .ok (.iconst 1, 1) := by decide +kernel
theorem dSt_removeAt_54 : decode bSt_removeAt 54 = .ok (.isub, 1) := by decide +kernel
theorem dSt_removeAt_55 : decode bSt_removeAt 55 = .ok (.putfield 15, 3) := by decide +kernel
theorem dSt_removeAt_58 : decode bSt_removeAt 58 = .ok (.iload_n 3, 1) := by decide +kernel
theorem dSt_removeAt_59 : decode bSt_removeAt 59 = .ok (.ireturn, 1) := by decide +kernel
