theorem dMo_noObject_0 : decode bMo_noObject 0 = .ok (.iload_n 1, 1) := by decide +kernel
theorem dMo_noObject_1 : decode bMo_noObject 1 = .ok (.ifCond .lt 11, 3) := by decide +kernel
theorem dMo_noObject_4 : decode bMo_noObject 4 = .ok (.iload_n 1, 1) := by decide +kernel
theorem dMo_noObject_5 : decode bMo_noObject 5 = .ok (.aload_n 0, 1) := by decide +kernel
theorem dMo_noObject_6 : decode bMo_noObject 6 = .ok (.getfield 104, 3) := by decide +kernel
theorem dMo_noObject_9 : decode bMo_noObject 9 = .ok (.if_icmp .lt 7, 3) := by decide +kernel
theorem dMo_noObject_12 : decode bMo_noObject 12 = .ok (.iconst 1, 1) := by decide +kernel
theorem dMo_noObject_13 : decode bMo_noObject 13 = .ok (.goto 4, 3) := by decide +kernel
theorem dMo_noObject_16 : decode bMo_noObject 16 = .ok (.iconst 0, 1) := by decide +kernel
theorem dMo_noObject_17 : decode bMo_noObject 17 = .ok (.ireturn, 1) := by decide +kernel
theorem dMo_back_0 : decode bMo_back 0 = .ok (.aload_n 0, 1) := by decide +kernel
theorem dMo_back_1 : decode bMo_back 1 = .ok (.iload_n 1, 1) := by decide +kernel
theorem dMo_back_2 : decode bMo_back 2 = .ok (.invokevirtual 117, 3) := by decide +kernel
theorem dMo_back_5 : decode bMo_back 5 = .ok (.ifCond .eq 4, 3) := by decide +kernel
theorem dMo_back_8 : decode bMo_back 8 = .ok (.return_, 1) := by decide +kernel
theorem dMo_back_9 : decode bMo_back 9 = .ok (.aload_n 0, 1) := by decide +kernel
theorem dMo_back_10 : decode bMo_back 10 = .ok (.dup, 1) := by decide +kernel
theorem dMo_back_11 : decode bMo_back 11 = .ok (.getfield 114, 3) := by decide +kernel
theorem dMo_back_14 : decode bMo_back 14 = .ok (.iconst 1, 1) := by decide +kernel
theorem dMo_back_15 : decode bMo_back 15 = .ok (.iadd, 1) := by decide +kernel
theorem dMo_back_16 : decode bMo_back 16 = .ok (.putfield 114, 3) := by decide +kernel
theorem dMo_back_19 : decode bMo_back 19 = .ok (.aload_n 0, 1) := by decide +kernel
theorem dMo_back_20 : decode bMo_back 20 = .ok (.getfield 34, 3) := by decide +kernel
theorem dMo_back_23 : decode bMo_back 23 = .ok (.aload_n 0, 1) := by decide +kernel
theorem dMo_back_24 : decode bMo_back 24 = .ok (.getfield 43, 3) := by decide +kernel
theorem dMo_back_27 : decode bMo_back 27 = .ok (.iload_n 1, 1) := by decide +kernel
theorem dMo_back_28 : decode bMo_back 28 = .ok (.iaload, 1) := by decide +kernel
theorem dMo_back_29 : decode bMo_back 29 = .ok (.iload_n 2, 1) := by decide +kernel
theorem dMo_back_30 : decode bMo_back 30 = .ok (.iastore, 1) := by decide +kernel
theorem dMo_back_31 : decode bMo_back 31 = .ok (.aload_n 0, 1) := by decide +kernel
theorem dMo_back_32 : decode bMo_back 32 = .ok (.getfield 40, 3) := by decide +kernel
theorem dMo_back_35 : decode bMo_back 35 = .ok (.aload_n 0, 1) := by decide +kernel
theorem dMo_back_36 : decode bMo_back 36 = .ok (.getfield 43, 3) := by decide +kernel
theorem dMo_back_39 : decode bMo_back 39 = .ok (.iload_n 1, 1) := by decide +kernel
theorem dMo_back_40 : decode bMo_back 40 = .ok (.iaload, 1) := by decide +kernel
theorem dMo_back_41 : decode bMo_back 41 = .ok (.aload_n 0, 1) := by decide +kernel
theorem dMo_back_42 : decode bMo_back 42 = .ok (.getfield 114, 3) := by decide +kernel
theorem dMo_back_45 : decode bMo_back 45 = .ok (.iastore, 1) := by decide +kernel
theorem dMo_back_46 : decode bMo_back 46 = .ok (.aload_n 0, 1) := by decide +kernel
theorem dMo_back_47 : decode bMo_back 47 = .ok (.getfield 43, 3) := by decide +kernel
theorem dMo_back_50 : decode bMo_back 50 = .ok (.iload_n 1, 1) := by decide +kernel
theorem dMo_back_51 : decode bMo_back 51 = .ok (.iconst (-1), 1) := by decide +kernel
theorem dMo_back_52 : decode bMo_back 52 = .ok (.iastore, 1) := by decide +kernel
theorem dMo_back_53 : decode bMo_back 53 = .ok (.aload_n 0, 1) := by decide +kernel
theorem dMo_back_54 : decode bMo_back 54 = .ok (.invokevirtual 97, 3) := by decide +kernel
theorem dMo_back_57 : decode bMo_back 57 = .ok (.return_, 1) := by decide +kernel
theorem dMo_isIdle_0 : decode bMo_isIdle 0 = .ok (.aload_n 0, 1) := by decide +kernel
theorem dMo_isIdle_1 : decode bMo_isIdle 1 = .ok (.iload_n 1, 1) := by decide +kernel
theorem dMo_isIdle_2 : decode bMo_isIdle 2 = .ok (.ifCond .lt 9, 3) := by decide +kernel
theorem dMo_isIdle_5 : decode bMo_isIdle 5 = .ok (.iload_n 1, 1) := by decide +kernel
theorem dMo_isIdle_6 : decode bMo_isIdle 6 = .ok (.bipush 7, 2) := by decide +kernel
theorem dMo_isIdle_8 : decode bMo_isIdle 8 = .ok (.if_icmp .le 7, 3) := by decide +kernel
theorem dMo_isIdle_11 : decode bMo_isIdle 11 = .ok (.iconst 1, 1) := by decide +kernel
theorem dMo_isIdle_12 : decode bMo_isIdle 12 = .ok (.goto 17, 3) := by decide +kernel
theorem dMo_isIdle_15 : decode bMo_isIdle 15 = .ok (.aload_n 0, 1) := by decide +kernel
theorem dMo_isIdle_16 : decode bMo_isIdle 16 = .ok (.getfield 43, 3) := by decide +kernel
theorem dMo_isIdle_19 : decode bMo_isIdle 19 = .ok (.iload_n 1, 1) := by decide +kernel
theorem dMo_isIdle_20 : decode bMo_isIdle 20 = .ok (.iaload, 1) := by decide +kernel
theorem dMo_isIdle_21 : decode bMo_isIdle 21 = .ok (.ifCond .ge 7, 3) := by decide +kernel
theorem dMo_isIdle_24 : decode bMo_isIdle 24 = .ok (.iconst 2, 1) := by decide +kernel
theorem dMo_isIdle_25 : decode bMo_isIdle 25 = .ok (.goto 4, 3) := by decide +kernel
theorem dMo_isIdle_28 : decode bMo_isIdle 28 = .ok (.iconst 0, 1) := by decide +kernel
theorem dMo_isIdle_29 : decode bMo_isIdle 29 = .ok (.putfield 93, 3) := by decide +kernel
theorem dMo_isIdle_32 : decode bMo_isIdle 32 = .ok (.aload_n 0, 1) := by decide +kernel
theorem dMo_isIdle_33 : decode bMo_isIdle 33 = .ok (.getfield 93, 3) := by decide +kernel
theorem dMo_isIdle_36 : decode bMo_isIdle 36 = .ok (.ifCond .le 7, 3) := by decide +kernel
theorem dMo_isIdle_39 : decode bMo_isIdle 39 = .ok (.iconst 1, 1) := by decide +kernel
theorem dMo_isIdle_40 : decode bMo_isIdle 40 = .ok (.goto 4, 3) := by decide +kernel
theorem dMo_isIdle_43 : decode bMo_isIdle 43 = .ok (.iconst 0, 1) := by decide +kernel
theorem dMo_isIdle_44 : decode bMo_isIdle 44 = .ok (.ireturn, 1) := by decide +kernel
theorem dMo_lose_0 : decode bMo_lose 0 = .ok (.aload_n 0, 1) := by decide +kernel
theorem dMo_lose_1 : decode bMo_lose 1 = .ok (.iload_n 1, 1) := by decide +kernel
theorem dMo_lose_2 : decode bMo_lose 2 = .ok (.invokevirtual 117, 3) := by decide +kernel
theorem dMo_lose_5 : decode bMo_lose 5 = .ok (.ifCond .eq 4, 3) := by decide +kernel
theorem dMo_lose_8 : decode bMo_lose 8 = .ok (.return_, 1) := by decide +kernel
theorem dMo_lose_9 : decode bMo_lose 9 = .ok (.aload_n 0, 1) := by decide +kernel
theorem dMo_lose_10 : decode bMo_lose 10 = .ok (.dup, 1) := by decide +kernel
theorem dMo_lose_11 : decode bMo_lose 11 = .ok (.getfield 114, 3) := by decide +kernel
theorem dMo_lose_14 : decode bMo_lose 14 = .ok (.iconst 1, 1) := by decide +kernel
theorem dMo_lose_15 : decode bMo_lose 15 = .ok (.iadd, 1) := by decide +kernel
theorem dMo_lose_16 : decode bMo_lose 16 = .ok (.putfield 114, 3) := by decide +kernel
theorem dMo_lose_19 : decode bMo_lose 19 = .ok (.aload_n 0, 1) := by decide +kernel
theorem dMo_lose_20 : decode bMo_lose 20 = .ok (.getfield 43, 3) := by decide +kernel
theorem dMo_lose_23 : decode bMo_lose 23 = .ok (.iload_n 1, 1) := by decide +kernel
theorem dMo_lose_24 : decode bMo_lose 24 = .ok (.iconst (-1), 1) := by decide +kernel
theorem dMo_lose_25 : decode bMo_lose 25 = .ok (.iastore, 1) := by decide +kernel
theorem dMo_lose_26 : decode bMo_lose 26 = .ok (.aload_n 0, 1) := by decide +kernel
theorem dMo_lose_27 : decode bMo_lose 27 = .ok (.invokevirtual 97, 3) := by decide +kernel
theorem dMo_lose_30 : decode bMo_lose 30 = .ok (.return_, 1) := by decide +kernel
theorem dMo_clear_0 : decode bMo_clear 0 = .ok (.aload_n 0, 1) := by decide +kernel
theorem dMo_clear_1 : decode bMo_clear 1 = .ok (.iconst 0, 1) := by decide +kernel
theorem dMo_clear_2 : decode bMo_clear 2 = .ok (.putfield 93, 3) := by decide +kernel
theorem dMo_clear_5 : decode bMo_clear 5 = .ok (.aload_n 0, 1) := by decide +kernel
theorem dMo_clear_6 : decode bMo_clear 6 = .ok (.getfield 114, 3) := by decide +kernel
theorem dMo_clear_9 : decode bMo_clear 9 = .ok (.istore_n 1, 1) := by decide +kernel
theorem dMo_clear_10 : decode bMo_clear 10 = .ok (.aload_n 0, 1) := by decide +kernel
theorem dMo_clear_11 : decode bMo_clear 11 = .ok (.iconst 0, 1) := by decide +kernel
theorem dMo_clear_12 : decode bMo_clear 12 = .ok (.putfield 104, 3) := by decide +kernel
theorem dMo_clear_15 : decode bMo_clear 15 = .ok (.aload_n 0, 1) := by decide +kernel
theorem dMo_clear_16 : decode bMo_clear 16 = .ok (.iconst 0, 1) := by decide +kernel
theorem dMo_clear_17 : decode bMo_clear 17 = .ok (.putfield 111, 3) := by decide +kernel
theorem dMo_clear_20 : decode bMo_clear 20 = .ok (.aload_n 0, 1) := by decide +kernel
theorem dMo_clear_21 : decode bMo_clear 21 = .ok (.iconst 0, 1) := by decide +kernel
theorem dMo_clear_22 : decode bMo_clear 22 = .ok (.putfield 114, 3) := by decide +kernel
theorem dMo_clear_25 : decode bMo_clear 25 = .ok (.aload_n 0, 1) := by decide +kernel
theorem dMo_clear_26 : decode bMo_clear 26 = .ok (.invokevirtual 90, 3) := by decide +kernel
theorem dMo_clear_29 : decode bMo_clear 29 = .ok (.iload_n 1, 1) := by decide +kernel
theorem dMo_clear_30 : decode bMo_clear 30 = .ok (.ireturn, 1) := by decide +kernel
theorem dMo_events_0 : decode bMo_events 0 = .ok (.aload_n 0, 1) := by decide +kernel
theorem dMo_events_1 : decode bMo_events 1 = .ok (.iconst 0, 1) := by decide +kernel
theorem dMo_events_2 : decode bMo_events 2 = .ok (.putfield 93, 3) := by decide +kernel
theorem dMo_events_5 : decode bMo_events 5 = .ok (.aload_n 0, 1) := by decide +kernel
theorem dMo_events_6 : decode bMo_events 6 = .ok (.getfield 114, 3) := by decide +kernel
theorem dMo_events_9 : decode bMo_events 9 = .ok (.ireturn, 1) := by decide +kernel
theorem dMo_possibilities_0 : decode bMo_possibilities 0 = .ok (.aload_n 0, 1) := by decide +kernel
theorem dMo_possibilities_1 : decode bMo_possibilities 1 = .ok (.aload_n 0, 1) := by decide +kernel
theorem dMo_possibilities_2 : decode bMo_possibilities 2 = .ok (.iload_n 1, 1) := by decide +kernel
theorem dMo_possibilities_3 : decode bMo_possibilities 3 = .ok (.invokevirtual 107, 3) := by decide +kernel
theorem dMo_possibilities_6 : decode bMo_possibilities 6 = .ok (.ifCond .eq 7, 3) := by decide +kernel
theorem dMo_possibilities_9 : decode bMo_possibilities 9 = .ok (.iconst 1, 1) := by decide +kernel
theorem dMo_possibilities_10 : decode bMo_possibilities 10 = .ok (.goto 4, 3) := by decide +kernel
theorem dMo_possibilities_13 : decode bMo_possibilities 13 = .ok (.iconst 0, 1) := by decide +kernel
theorem dMo_possibilities_14 : decode bMo_possibilities 14 = .ok (.putfield 93, 3) := by decide +kernel
theorem dMo_possibilities_17 : decode bMo_possibilities 17 = .ok (.aload_n 0, 1) := by decide +kernel
theorem dMo_possibilities_18 : decode bMo_possibilities 18 = .ok (.getfield 93, 3) := by decide +kernel
theorem dMo_possibilities_21 : decode bMo_possibilities 21 = .ok (.ifCond .le 5, 3) := by decide +kernel
theorem dMo_possibilities_24 : decode bMo_possibilities 24 = .ok (.iconst 0, 1) := by decide +kernel
theorem dMo_possibilities_25 : decode bMo_possibilities 25 = .ok (.ireturn, 1) := by decide +kernel
theorem dMo_possibilities_26 : decode bMo_possibilities 26 = .ok (.aload_n 0, 1) := by decide +kernel
theorem dMo_possibilities_27 : decode bMo_possibilities 27 = .ok (.iload_n 1, 1) := by decide +kernel
theorem dMo_possibilities_28 : decode bMo_possibilities 28 = .ok (.invokevirtual 195, 3) := by decide +kernel
theorem dMo_possibilities_31 : decode bMo_possibilities 31 = .ok (.aload_n 0, 1) := by decide +kernel
theorem dMo_possibilities_32 : decode bMo_possibilities 32 = .ok (.getfield 63, 3) := by decide +kernel
theorem dMo_possibilities_35 : decode bMo_possibilities 35 = .ok (.iload_n 1, 1) := by decide +kernel
theorem dMo_possibilities_36 : decode bMo_possibilities 36 = .ok (.iaload, 1) := by decide +kernel
theorem dMo_possibilities_37 : decode bMo_possibilities 37 = .ok (.ireturn, 1) := by decide +kernel
theorem dMo_look_0 : decode bMo_look 0 = .ok (.aload_n 0, 1) := by decide +kernel
theorem dMo_look_1 : decode bMo_look 1 = .ok (.getfield 60, 3) := by decide +kernel
theorem dMo_look_4 : decode bMo_look 4 = .ok (.iload_n 1, 1) := by decide +kernel
theorem dMo_look_5 : decode bMo_look 5 = .ok (.baload, 1) := by decide +kernel
theorem dMo_look_6 : decode bMo_look 6 = .ok (.ifCond .eq 4, 3) := by decide +kernel
theorem dMo_look_9 : decode bMo_look 9 = .ok (.return_, 1) := by decide +kernel
theorem dMo_look_10 : decode bMo_look 10 = .ok (.sipush 2001, 3) := by decide +kernel
theorem dMo_look_13 : decode bMo_look 13 = .ok (.iload_n 1, 1) := by decide +kernel
theorem dMo_look_14 : decode bMo_look 14 = .ok (.imul, 1) := by decide +kernel
theorem dMo_look_15 : decode bMo_look 15 = .ok (.istore_n 2, 1) := by decide +kernel
theorem dMo_look_16 : decode bMo_look 16 = .ok (.aload_n 0, 1) := by decide +kernel
theorem dMo_look_17 : decode bMo_look 17 = .ok (.iload_n 1, 1) := by decide +kernel
theorem dMo_look_18 : decode bMo_look 18 = .ok (.iload_n 2, 1) := by decide +kernel
theorem dMo_look_19 : decode bMo_look 19 = .ok (.aload_n 0, 1) := by decide +kernel
theorem dMo_look_20 : decode bMo_look 20 = .ok (.getfield 114, 3) := by decide +kernel
theorem dMo_look_23 : decode bMo_look 23 = .ok (.iconst 0, 1) := by decide +kernel
theorem dMo_look_24 : decode bMo_look 24 = .ok (.invokevirtual 185, 3) := by decide +kernel
theorem dMo_look_27 : decode bMo_look 27 = .ok (.istore_n 3, 1) := by decide +kernel
theorem dMo_look_28 : decode bMo_look 28 = .ok (.aload_n 0, 1) := by decide +kernel
theorem dMo_look_29 : decode bMo_look 29 = .ok (.getfield 60, 3) := by decide +kernel
theorem dMo_look_32 : decode bMo_look 32 = .ok (.iload_n 1, 1) := by decide +kernel
theorem dMo_look_33 : decode bMo_look 33 = .ok (.iconst 1, 1) := by decide +kernel
theorem dMo_look_34 : decode bMo_look 34 = .ok (.bastore, 1) := by decide +kernel
theorem dMo_look_35 : decode bMo_look 35 = .ok (.aload_n 0, 1) := by decide +kernel
theorem dMo_look_36 : decode bMo_look 36 = .ok (.getfield 63, 3) := by decide +kernel
theorem dMo_look_39 : decode bMo_look 39 = .ok (.iload_n 1, 1) := by decide +kernel
theorem dMo_look_40 : decode bMo_look 40 = .ok (.iload_n 3, 1) := by decide +kernel
theorem dMo_look_41 : decode bMo_look 41 = .ok (.iastore, 1) := by decide +kernel
theorem dMo_look_42 : decode bMo_look 42 = .ok (.aload_n 0, 1) := by decide +kernel
theorem dMo_look_43 : decode bMo_look 43 = .ok (.getfield 66, 3) := by decide +kernel
theorem dMo_look_46 : decode bMo_look 46 = .ok (.iload_n 1, 1) := by decide +kernel
theorem dMo_look_47 : decode bMo_look 47 = .ok (.aload_n 0, 1) := by decide +kernel
theorem dMo_look_48 : decode bMo_look 48 = .ok (.iload_n 1, 1) := by decide +kernel
theorem dMo_look_49 : decode bMo_look 49 = .ok (.iload_n 2, 1) := by decide +kernel
theorem dMo_look_50 : decode bMo_look 50 = .ok (.iload_n 3, 1) := by decide +kernel
theorem dMo_look_51 : decode bMo_look 51 = .ok (.aload_n 0, 1) := by decide +kernel
theorem dMo_look_52 : decode bMo_look 52 = .ok (.getfield 114, 3) := by decide +kernel
theorem dMo_look_55 : decode bMo_look 55 = .ok (.invokevirtual 189, 3) := by decide +kernel
theorem dMo_look_58 : decode bMo_look 58 = .ok (.iastore, 1) := by decide +kernel
theorem dMo_look_59 : decode bMo_look 59 = .ok (.aload_n 0, 1) := by decide +kernel
theorem dMo_look_60 : decode bMo_look 60 = .ok (.getfield 69, 3) := by decide +kernel
theorem dMo_look_63 : decode bMo_look 63 = .ok (.iload_n 1, 1) := by decide +kernel
theorem dMo_look_64 : decode bMo_look 64 = .ok (.iload_n 3, 1) := by decide +kernel
theorem dMo_look_65 : decode bMo_look 65 = .ok (.bipush (-2), 2) := by decide +kernel
theorem dMo_look_67 : decode bMo_look 67 = .ok (.if_icmp .ne 9, 3) := by decide +kernel
theorem dMo_look_70 : decode bMo_look 70 = .ok (.ldc2_w 193, 3) := by decide +kernel
theorem dMo_look_73 : decode bMo_look 73 = .ok (.goto 4, 3) := by decide +kernel
theorem dMo_look_76 : decode bMo_look 76 = .ok (.lconst 0, 1) := by decide +kernel
theorem dMo_look_77 : decode bMo_look 77 = .ok (.lastore, 1) := by decide +kernel
theorem dMo_look_78 : decode bMo_look 78 = .ok (.aload_n 0, 1) := by decide +kernel
theorem dMo_look_79 : decode bMo_look 79 = .ok (.getfield 72, 3) := by decide +kernel
theorem dMo_look_82 : decode bMo_look 82 = .ok (.iload_n 1, 1) := by decide +kernel
theorem dMo_look_83 : decode bMo_look 83 = .ok (.iload_n 3, 1) := by decide +kernel
theorem dMo_look_84 : decode bMo_look 84 = .ok (.bipush (-2), 2) := by decide +kernel
theorem dMo_look_86 : decode bMo_look 86 = .ok (.if_icmp .ne 8, 3) := by decide +kernel
theorem dMo_look_89 : decode bMo_look 89 = .ok (.bipush (-2), 2) := by decide +kernel
theorem dMo_look_91 : decode bMo_look 91 = .ok (.goto 4, 3) := by decide +kernel
theorem dMo_look_94 : decode bMo_look 94 = .ok (.iconst 0, 1) := by decide +kernel
theorem dMo_look_95 : decode bMo_look 95 = .ok (.iastore, 1) := by decide +kernel
theorem dMo_look_96 : decode bMo_look 96 = .ok (.iconst 0, 1) := by decide +kernel
theorem dMo_look_97 : decode bMo_look 97 = .ok (.istore 4, 2) := by decide +kernel
theorem dMo_look_99 : decode bMo_look 99 = .ok (.iload 4, 2) := by decide +kernel
theorem dMo_look_101 : decode bMo_look 101 = .ok (.iload_n 3, 1) := by decide +kernel
theorem dMo_look_102 : decode bMo_look 102 = .ok (.if_icmp .ge 156, 3) := by decide +kernel
theorem dMo_look_105 : decode bMo_look 105 = .ok (.aload_n 0, 1) := by decide +kernel
theorem dMo_look_106 : decode bMo_look 106 = .ok (.iload_n 1, 1) := by decide +kernel
theorem dMo_look_107 : decode bMo_look 107 = .ok (.iload_n 2, 1) := by decide +kernel
theorem dMo_look_108 : decode bMo_look 108 = .ok (.iload 4, 2) := by decide +kernel
theorem dMo_look_110 : decode bMo_look 110 = .ok (.iadd, 1) := by decide +kernel
theorem dMo_look_111 : decode bMo_look 111 = .ok (.aload_n 0, 1) := by decide +kernel
theorem dMo_look_112 : decode bMo_look 112 = .ok (.getfield 114, 3) := by decide +kernel
theorem dMo_look_115 : decode bMo_look 115 = .ok (.invokevirtual 181, 3) := by decide +kernel
theorem dMo_look_118 : decode bMo_look 118 = .ok (.ifCond .eq 134, 3) := by decide +kernel
theorem dMo_look_121 : decode bMo_look 121 = .ok (.aload_n 0, 1) := by decide +kernel
theorem dMo_look_122 : decode bMo_look 122 = .ok (.getfield 69, 3) := by decide +kernel
theorem dMo_look_125 : decode bMo_look 125 = .ok (.iload_n 1, 1) := by decide +kernel
theorem dMo_look_126 : decode bMo_look 126 = .ok (.dup2, 1) := by decide +kernel
theorem dMo_look_127 : decode bMo_look 127 = .ok (.laload, 1) := by decide +kernel
theorem dMo_look_128 : decode bMo_look 128 = .ok (.aload_n 0, 1) := by decide +kernel
theorem dMo_look_129 : decode bMo_look 129 = .ok (.getfield 57, 3) := by decide +kernel
theorem dMo_look_132 : decode bMo_look 132 = .ok (.iload 4, 2) := by decide +kernel
theorem dMo_look_134 : decode bMo_look 134 = .ok (.laload, 1) := by decide +kernel
theorem dMo_look_135 : decode bMo_look 135 = .ok (.ladd, 1) := by decide +kernel
theorem dMo_look_136 : decode bMo_look 136 = .ok (.lastore, 1) := by decide +kernel
theorem dMo_look_137 : decode bMo_look 137 = .ok (.iconst 0, 1) := by decide +kernel
theorem dMo_look_138 : decode bMo_look 138 = .ok (.istore 5, 2) := by decide +kernel
theorem dMo_look_140 : decode bMo_look 140 = .ok (.iconst 0, 1) := by decide +kernel
theorem dMo_look_141 : decode bMo_look 141 = .ok (.istore 6, 2) := by decide +kernel
theorem dMo_look_143 : decode bMo_look 143 = .ok (.iload 6, 2) := by decide +kernel
theorem dMo_look_145 : decode bMo_look 145 = .ok (.iload 4, 2) := by decide +kernel
theorem dMo_look_147 : decode bMo_look 147 = .ok (.if_icmp .ge 86, 3) := by decide +kernel
theorem dMo_look_150 : decode bMo_look 150 = .ok (.iload 5, 2) := by decide +kernel
theorem dMo_look_152 : decode bMo_look 152 = .ok (.ifCond .ne 81, 3) := by decide +kernel
theorem dMo_look_155 : decode bMo_look 155 = .ok (.aload_n 0, 1) := by decide +kernel
theorem dMo_look_156 : decode bMo_look 156 = .ok (.getfield 46, 3) := by decide +kernel
theorem dMo_look_159 : decode bMo_look 159 = .ok (.iload_n 2, 1) := by decide +kernel
theorem dMo_look_160 : decode bMo_look 160 = .ok (.iload 6, 2) := by decide +kernel
theorem dMo_look_162 : decode bMo_look 162 = .ok (.iadd, 1) := by decide +kernel
theorem dMo_look_163 : decode bMo_look 163 = .ok (.iaload, 1) := by decide +kernel
theorem dMo_look_164 : decode bMo_look 164 = .ok (.bipush 16, 2) := by decide +kernel
theorem dMo_look_166 : decode bMo_look 166 = .ok (.ishr, 1) := by decide +kernel
theorem dMo_look_167 : decode bMo_look 167 = .ok (.aload_n 0, 1) := by decide +kernel
theorem dMo_look_168 : decode bMo_look 168 = .ok (.getfield 46, 3) := by decide +kernel
theorem dMo_look_171 : decode bMo_look 171 = .ok (.iload_n 2, 1) := by decide +kernel
theorem dMo_look_172 : decode bMo_look 172 = .ok (.iload 4, 2) := by decide +kernel
theorem dMo_look_174 : decode bMo_look 174 = .ok (.iadd, 1) := by decide +kernel
theorem dMo_look_175 : decode bMo_look 175 = .ok (.iaload, 1) := by decide +kernel
theorem dMo_look_176 : decode bMo_look 176 = .ok (.bipush 16, 2) := by decide +kernel
theorem dMo_look_178 : decode bMo_look 178 = .ok (.ishr, 1) := by decide +kernel
theorem dMo_look_179 : decode bMo_look 179 = .ok (.if_icmp .ne 45, 3) := by decide +kernel
theorem dMo_look_182 : decode bMo_look 182 = .ok (.aload_n 0, 1) := by decide +kernel
theorem dMo_look_183 : decode bMo_look 183 = .ok (.getfield 49, 3) := by decide +kernel
theorem dMo_look_186 : decode bMo_look 186 = .ok (.iload_n 2, 1) := by decide +kernel
theorem dMo_look_187 : decode bMo_look 187 = .ok (.iload 6, 2) := by decide +kernel
theorem dMo_look_189 : decode bMo_look 189 = .ok (.iadd, 1) := by decide +kernel
theorem dMo_look_190 : decode bMo_look 190 = .ok (.laload, 1) := by decide +kernel
theorem dMo_look_191 : decode bMo_look 191 = .ok (.aload_n 0, 1) := by decide +kernel
theorem dMo_look_192 : decode bMo_look 192 = .ok (.getfield 49, 3) := by decide +kernel
theorem dMo_look_195 : decode bMo_look 195 = .ok (.iload_n 2, 1) := by decide +kernel
theorem dMo_look_196 : decode bMo_look 196 = .ok (.iload 4, 2) := by decide +kernel
theorem dMo_look_198 : decode bMo_look 198 = .ok (.iadd, 1) := by decide +kernel
theorem dMo_look_199 : decode bMo_look 199 = .ok (.laload, 1) := by decide +kernel
theorem dMo_look_200 : decode bMo_look 200 = .ok (.lcmp, 1) := by decide +kernel
theorem dMo_look_201 : decode bMo_look 201 = .ok (.ifCond .ne 23, 3) := by decide +kernel
theorem dMo_look_204 : decode bMo_look 204 = .ok (.aload_n 0, 1) := by decide +kernel
theorem dMo_look_205 : decode bMo_look 205 = .ok (.iload_n 1, 1) := by decide +kernel
theorem dMo_look_206 : decode bMo_look 206 = .ok (.iload_n 2, 1) := by decide +kernel
theorem dMo_look_207 : decode bMo_look 207 = .ok (.iload 6, 2) := by decide +kernel
theorem dMo_look_209 : decode bMo_look 209 = .ok (.iadd, 1) := by decide +kernel
theorem dMo_look_210 : decode bMo_look 210 = .ok (.aload_n 0, 1) := by decide +kernel
theorem dMo_look_211 : decode bMo_look 211 = .ok (.getfield 114, 3) := by decide +kernel
theorem dMo_look_214 : decode bMo_look 214 = .ok (.invokevirtual 181, 3) := by decide +kernel
theorem dMo_look_217 : decode bMo_look 217 = .ok (.ifCond .eq 7, 3) := by decide +kernel
theorem dMo_look_220 : decode bMo_look 220 = .ok (.iconst 1, 1) := by decide +kernel
theorem dMo_look_221 : decode bMo_look 221 = .ok (.goto 4, 3) := by decide +kernel
theorem dMo_look_224 : decode bMo_look 224 = .ok (.iconst 0, 1) := by decide +kernel
theorem dMo_look_225 : decode bMo_look 225 = .ok (.istore 5, 2) := by decide +kernel
theorem dMo_look_227 : decode bMo_look 227 = .ok (.iinc 6 1, 3) := by decide +kernel
theorem dMo_look_230 : decode bMo_look 230 = .ok (.goto (-87), 3) := by decide +kernel
theorem dMo_look_233 : decode bMo_look 233 = .ok (.aload_n 0, 1) := by decide +kernel
theorem dMo_look_234 : decode bMo_look 234 = .ok (.getfield 72, 3) := by decide +kernel
theorem dMo_look_237 : decode bMo_look 237 = .ok (.iload_n 1, 1) := by decide +kernel
theorem dMo_look_238 : decode bMo_look 238 = .ok (.dup2, 1) := by decide +kernel
theorem dMo_look_239 : decode bMo_look 239 = .ok (.iaload, 1) := by decide +kernel
theorem dMo_look_240 : decode bMo_look 240 = .ok (.iload 5, 2) := by decide +kernel
theorem dMo_look_242 : decode bMo_look 242 = .ok (.ifCond .eq 7, 3) := by decide +kernel
theorem dMo_look_245 : decode bMo_look 245 = .ok (.iconst 0, 1) := by decide +kernel
theorem dMo_look_246 : decode bMo_look 246 = .ok (.goto 4, 3) := by decide +kernel
theorem dMo_look_249 : decode bMo_look 249 = .ok (.iconst 1, 1) := by decide +kernel
theorem dMo_look_250 : decode bMo_look 250 = .ok (.iadd, 1) := by decide +kernel
theorem dMo_look_251 : decode bMo_look 251 = .ok (.iastore, 1) := by decide +kernel
theorem dMo_look_252 : decode bMo_look 252 = .ok (.iinc 4 1, 3) := by decide +kernel
theorem dMo_look_255 : decode bMo_look 255 = .ok (.goto (-156), 3) := by decide +kernel
theorem dMo_look_258 : decode bMo_look 258 = .ok (.return_, 1) := by decide +kernel
