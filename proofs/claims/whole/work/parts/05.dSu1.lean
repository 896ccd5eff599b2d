theorem dSu_learnBreak_0 : decode bSu_learnBreak 0 = .ok (.aload_n 0, 1) := by decide +kernel
theorem dSu_learnBreak_1 : decode bSu_learnBreak 1 = .ok (.aload_n 1, 1) := by decide +kernel
theorem dSu_learnBreak_2 : decode bSu_learnBreak 2 = .ok (.invokevirtual 136, 3) := by decide +kernel
theorem dSu_learnBreak_5 : decode bSu_learnBreak 5 = .ok (.aload_n 0, 1) := by decide +kernel
theorem dSu_learnBreak_6 : decode bSu_learnBreak 6 = .ok (.getfield 128, 3) := by decide +kernel
theorem dSu_learnBreak_9 : decode bSu_learnBreak 9 = .ok (.iconst 1, 1) := by decide +kernel
theorem dSu_learnBreak_10 : decode bSu_learnBreak 10 = .ok (.if_icmp .ne 10, 3) := by decide +kernel
theorem dSu_learnBreak_13 : decode bSu_learnBreak 13 = .ok (.aload_n 0, 1) := by decide +kernel
theorem dSu_learnBreak_14 : decode bSu_learnBreak 14 = .ok (.getfield 42, 3) := by decide +kernel
theorem dSu_learnBreak_17 : decode bSu_learnBreak 17 = .ok (.goto 7, 3) := by decide +kernel
theorem dSu_learnBreak_20 : decode bSu_learnBreak 20 = .ok (.aload_n 0, 1) := by decide +kernel
theorem dSu_learnBreak_21 : decode bSu_learnBreak 21 = .ok (.getfield 48, 3) := by decide +kernel
theorem dSu_learnBreak_24 : decode bSu_learnBreak 24 = .ok (.istore_n 2, 1) := by decide +kernel
theorem dSu_learnBreak_25 : decode bSu_learnBreak 25 = .ok (.iload_n 2, 1) := by decide +kernel
theorem dSu_learnBreak_26 : decode bSu_learnBreak 26 = .ok (.istore_n 3, 1) := by decide +kernel
theorem dSu_learnBreak_27 : decode bSu_learnBreak 27 = .ok (.iload_n 3, 1) := by decide +kernel
theorem dSu_learnBreak_28 : decode bSu_learnBreak 28 = .ok (.aload_n 0, 1) := by decide +kernel
theorem dSu_learnBreak_29 : decode bSu_learnBreak 29 = .ok (.getfield 42, 3) := by decide +kernel
theorem dSu_learnBreak_32 : decode bSu_learnBreak 32 = .ok (.if_icmp .ge 61, 3) := by decide +kernel
theorem dSu_learnBreak_35 : decode bSu_learnBreak 35 = .ok (.aload_n 0, 1) := by decide +kernel
theorem dSu_learnBreak_36 : decode bSu_learnBreak 36 = .ok (.getfield 51, 3) := by decide +kernel
theorem dSu_learnBreak_39 : decode bSu_learnBreak 39 = .ok (.iconst (-1), 1) := by decide +kernel
theorem dSu_learnBreak_40 : decode bSu_learnBreak 40 = .ok (.if_icmp .ne 53, 3) := by decide +kernel
theorem dSu_learnBreak_43 : decode bSu_learnBreak 43 = .ok (.aload_n 1, 1) := by decide +kernel
theorem dSu_learnBreak_44 : decode bSu_learnBreak 44 = .ok (.aload_n 0, 1) := by decide +kernel
theorem dSu_learnBreak_45 : decode bSu_learnBreak 45 = .ok (.aload_n 0, 1) := by decide +kernel
theorem dSu_learnBreak_46 : decode bSu_learnBreak 46 = .ok (.getfield 28, 3) := by decide +kernel
theorem dSu_learnBreak_49 : decode bSu_learnBreak 49 = .ok (.iload_n 3, 1) := by decide +kernel
theorem dSu_learnBreak_50 : decode bSu_learnBreak 50 = .ok (.iaload, 1) := by decide +kernel
theorem dSu_learnBreak_51 : decode bSu_learnBreak 51 = .ok (.aload_n 0, 1) := by decide +kernel
theorem dSu_learnBreak_52 : decode bSu_learnBreak 52 = .ok (.getfield 31, 3) := by decide +kernel
theorem dSu_learnBreak_55 : decode bSu_learnBreak 55 = .ok (.iload_n 3, 1) := by decide +kernel
theorem dSu_learnBreak_56 : decode bSu_learnBreak 56 = .ok (.iaload, 1) := by decide +kernel
theorem dSu_learnBreak_57 : decode bSu_learnBreak 57 = .ok (.iconst 0, 1) := by decide +kernel
theorem dSu_learnBreak_58 : decode bSu_learnBreak 58 = .ok (.invokevirtual 99, 3) := by decide +kernel
theorem dSu_learnBreak_61 : decode bSu_learnBreak 61 = .ok (.istore 4, 2) := by decide +kernel
theorem dSu_learnBreak_63 : decode bSu_learnBreak 63 = .ok (.iload 4, 2) := by decide +kernel
theorem dSu_learnBreak_65 : decode bSu_learnBreak 65 = .ok (.ifCond .eq 22, 3) := by decide +kernel
theorem dSu_learnBreak_68 : decode bSu_learnBreak 68 = .ok (.aload_n 1, 1) := by decide +kernel
theorem dSu_learnBreak_69 : decode bSu_learnBreak 69 = .ok (.invokevirtual 113, 3) := by decide +kernel
theorem dSu_learnBreak_72 : decode bSu_learnBreak 72 = .ok (.lconst 0, 1) := by decide +kernel
theorem dSu_learnBreak_73 : decode bSu_learnBreak 73 = .ok (.lcmp, 1) := by decide +kernel
theorem dSu_learnBreak_74 : decode bSu_learnBreak 74 = .ok (.ifCond .ne 13, 3) := by decide +kernel
theorem dSu_learnBreak_77 : decode bSu_learnBreak 77 = .ok (.aload_n 0, 1) := by decide +kernel
theorem dSu_learnBreak_78 : decode bSu_learnBreak 78 = .ok (.aload_n 0, 1) := by decide +kernel
theorem dSu_learnBreak_79 : decode bSu_learnBreak 79 = .ok (.getfield 24, 3) := by decide +kernel
theorem dSu_learnBreak_82 : decode bSu_learnBreak 82 = .ok (.iload_n 3, 1) := by decide +kernel
theorem dSu_learnBreak_83 : decode bSu_learnBreak 83 = .ok (.iaload, 1) := by decide +kernel
theorem dSu_learnBreak_84 : decode bSu_learnBreak 84 = .ok (.putfield 51, 3) := by decide +kernel
theorem dSu_learnBreak_87 : decode bSu_learnBreak 87 = .ok (.iinc 3 1, 3) := by decide +kernel
theorem dSu_learnBreak_90 : decode bSu_learnBreak 90 = .ok (.goto (-63), 3) := by decide +kernel
theorem dSu_learnBreak_93 : decode bSu_learnBreak 93 = .ok (.aload_n 0, 1) := by decide +kernel
theorem dSu_learnBreak_94 : decode bSu_learnBreak 94 = .ok (.aload_n 0, 1) := by decide +kernel
theorem dSu_learnBreak_95 : decode bSu_learnBreak 95 = .ok (.getfield 42, 3) := by decide +kernel
theorem dSu_learnBreak_98 : decode bSu_learnBreak 98 = .ok (.putfield 48, 3) := by decide +kernel
theorem dSu_learnBreak_101 : decode bSu_learnBreak 101 = .ok (.return_, 1) := by decide +kernel
