theorem dTa_init_0 : decode bTa_init 0 = .ok (.aload_n 0, 1) := by decide +kernel
theorem dTa_init_1 : decode bTa_init 1 = .ok (.invokespecial 3, 3) := by decide +kernel
theorem dTa_init_4 : decode bTa_init 4 = .ok (.aload_n 0, 1) := by decide +kernel
theorem dTa_init_5 : decode bTa_init 5 = .ok (.sipush 2000, 3) := by decide +kernel
theorem dTa_init_8 : decode bTa_init 8 = .ok (.newarray .int, 2) := by decide +kernel
theorem dTa_init_10 : decode bTa_init 10 = .ok (.putfield 9, 3) := by decide +kernel
theorem dTa_init_13 : decode bTa_init 13 = .ok (.aload_n 0, 1) := by decide +kernel
theorem dTa_init_14 : decode bTa_init 14 = .ok (.sipush 2000, 3) := by decide +kernel
theorem dTa_init_17 : decode bTa_init 17 = .ok (.newarray .long, 2) := by decide +kernel
theorem dTa_init_19 : decode bTa_init 19 = .ok (.putfield 15, 3) := by decide +kernel
theorem dTa_init_22 : decode bTa_init 22 = .ok (.aload_n 0, 1) := by decide +kernel
theorem dTa_init_23 : decode bTa_init 23 = .ok (.sipush 1024, 3) := by decide +kernel
theorem dTa_init_26 : decode bTa_init 26 = .ok (.newarray .int, 2) := by decide +kernel
theorem dTa_init_28 : decode bTa_init 28 = .ok (.putfield 19, 3) := by decide +kernel
theorem dTa_init_31 : decode bTa_init 31 = .ok (.aload_n 0, 1) := by decide +kernel
theorem dTa_init_32 : decode bTa_init 32 = .ok (.sipush 2000, 3) := by decide +kernel
theorem dTa_init_35 : decode bTa_init 35 = .ok (.newarray .int, 2) := by decide +kernel
theorem dTa_init_37 : decode bTa_init 37 = .ok (.putfield 22, 3) := by decide +kernel
theorem dTa_init_40 : decode bTa_init 40 = .ok (.return_, 1) := by decide +kernel
theorem dTa_makeEmpty_0 : decode bTa_makeEmpty 0 = .ok (.aload_n 0, 1) := by decide +kernel
theorem dTa_makeEmpty_1 : decode bTa_makeEmpty 1 = .ok (.iconst 0, 1) := by decide +kernel
theorem dTa_makeEmpty_2 : decode bTa_makeEmpty 2 = .ok (.putfield 25, 3) := by decide +kernel
theorem dTa_makeEmpty_5 : decode bTa_makeEmpty 5 = .ok (.aload_n 0, 1) := by decide +kernel
theorem dTa_makeEmpty_6 : decode bTa_makeEmpty 6 = .ok (.getfield 19, 3) := by decide +kernel
theorem dTa_makeEmpty_9 : decode bTa_makeEmpty 9 = .ok (.iconst (-1), 1) := by decide +kernel
theorem dTa_makeEmpty_10 : decode bTa_makeEmpty 10 = .ok (.invokestatic 29, 3) := by decide +kernel
theorem dTa_makeEmpty_13 : decode bTa_makeEmpty 13 = .ok (.return_, 1) := by decide +kernel
theorem dTa_keep_0 : decode bTa_keep 0 = .ok (.aload_n 0, 1) := by decide +kernel
theorem dTa_keep_1 : decode bTa_keep 1 = .ok (.iload_n 1, 1) := by decide +kernel
theorem dTa_keep_2 : decode bTa_keep 2 = .ok (.lload_n 2, 1) := by decide +kernel
theorem dTa_keep_3 : decode bTa_keep 3 = .ok (.invokevirtual 35, 3) := by decide +kernel
theorem dTa_keep_6 : decode bTa_keep 6 = .ok (.istore 4, 2) := by decide +kernel
theorem dTa_keep_8 : decode bTa_keep 8 = .ok (.aload_n 0, 1) := by decide +kernel
theorem dTa_keep_9 : decode bTa_keep 9 = .ok (.iload 4, 2) := by decide +kernel
theorem dTa_keep_11 : decode bTa_keep 11 = .ok (.iload_n 1, 1) := by decide +kernel
theorem dTa_keep_12 : decode bTa_keep 12 = .ok (.lload_n 2, 1) := by decide +kernel
theorem dTa_keep_13 : decode bTa_keep 13 = .ok (.invokevirtual 39, 3) := by decide +kernel
theorem dTa_keep_16 : decode bTa_keep 16 = .ok (.istore 5, 2) := by decide +kernel
theorem dTa_keep_18 : decode bTa_keep 18 = .ok (.iload 5, 2) := by decide +kernel
theorem dTa_keep_20 : decode bTa_keep 20 = .ok (.iconst (-1), 1) := by decide +kernel
theorem dTa_keep_21 : decode bTa_keep 21 = .ok (.if_icmp .ne 13, 3) := by decide +kernel
theorem dTa_keep_24 : decode bTa_keep 24 = .ok (.aload_n 0, 1) := by decide +kernel
theorem dTa_keep_25 : decode bTa_keep 25 = .ok (.getfield 25, 3) := by decide +kernel
theorem dTa_keep_28 : decode bTa_keep 28 = .ok (.sipush 2000, 3) := by decide +kernel
theorem dTa_keep_31 : decode bTa_keep 31 = .ok (.if_icmp .lt 6, 3) := by decide +kernel
theorem dTa_keep_34 : decode bTa_keep 34 = .ok (.iload 5, 2) := by decide +kernel
theorem dTa_keep_36 : decode bTa_keep 36 = .ok (.ireturn, 1) := by decide +kernel
theorem dTa_keep_37 : decode bTa_keep 37 = .ok (.aload_n 0, 1) := by decide +kernel
theorem dTa_keep_38 : decode bTa_keep 38 = .ok (.getfield 9, 3) := by decide +kernel
theorem dTa_keep_41 : decode bTa_keep 41 = .ok (.aload_n 0, 1) := by decide +kernel
theorem dTa_keep_42 : decode bTa_keep 42 = .ok (.getfield 25, 3) := by decide +kernel
theorem dTa_keep_45 : decode bTa_keep 45 = .ok (.iload_n 1, 1) := by decide +kernel
theorem dTa_keep_46 : decode bTa_keep 46 = .ok (.iastore, 1) := by decide +kernel
theorem dTa_keep_47 : decode bTa_keep 47 = .ok (.aload_n 0, 1) := by decide +kernel
theorem dTa_keep_48 : decode bTa_keep 48 = .ok (.getfield 15, 3) := by decide +kernel
theorem dTa_keep_51 : decode bTa_keep 51 = .ok (.aload_n 0, 1) := by decide +kernel
theorem dTa_keep_52 : decode bTa_keep 52 = .ok (.getfield 25, 3) := by decide +kernel
theorem dTa_keep_55 : decode bTa_keep 55 = .ok (.lload_n 2, 1) := by decide +kernel
theorem dTa_keep_56 : decode bTa_keep 56 = .ok (.lastore, 1) := by decide +kernel
theorem dTa_keep_57 : decode bTa_keep 57 = .ok (.aload_n 0, 1) := by decide +kernel
theorem dTa_keep_58 : decode bTa_keep 58 = .ok (.getfield 22, 3) := by decide +kernel
theorem dTa_keep_61 : decode bTa_keep 61 = .ok (.aload_n 0, 1) := by decide +kernel
theorem dTa_keep_62 : decode bTa_keep 62 = .ok (.getfield 25, 3) := by decide +kernel
theorem dTa_keep_65 : decode bTa_keep 65 = .ok (.aload_n 0, 1) := by decide +kernel
theorem dTa_keep_66 : decode bTa_keep 66 = .ok (.getfield 19, 3) := by decide +kernel
theorem dTa_keep_69 : decode bTa_keep 69 = .ok (.iload 4, 2) := by decide +kernel
theorem dTa_keep_71 : decode bTa_keep 71 = .ok (.iaload, 1) := by decide +kernel
theorem dTa_keep_72 : decode bTa_keep 72 = .ok (.iastore, 1) := by decide +kernel
theorem dTa_keep_73 : decode bTa_keep 73 = .ok (.aload_n 0, 1) := by decide +kernel
theorem dTa_keep_74 : decode bTa_keep 74 = .ok (.getfield 19, 3) := by decide +kernel
theorem dTa_keep_77 : decode bTa_keep 77 = .ok (.iload 4, 2) := by decide +kernel
theorem dTa_keep_79 : decode bTa_keep 79 = .ok (.aload_n 0, 1) := by decide +kernel
theorem dTa_keep_80 : decode bTa_keep 80 = .ok (.getfield 25, 3) := by decide +kernel
theorem dTa_keep_83 : decode bTa_keep 83 = .ok (.iastore, 1) := by decide +kernel
theorem dTa_keep_84 : decode bTa_keep 84 = .ok (.aload_n 0, 1) := by decide +kernel
theorem dTa_keep_85 : decode bTa_keep 85 = .ok (.dup, 1) := by decide +kernel
theorem dTa_keep_86 : decode bTa_keep 86 = .ok (.getfield 25, 3) := by decide +kernel
theorem dTa_keep_89 : decode bTa_keep 89 = .ok (.iconst 1, 1) := by decide +kernel
theorem dTa_keep_90 : decode bTa_keep 90 = .ok (.iadd, 1) := by decide +kernel
theorem dTa_keep_91 : decode bTa_keep 91 = .ok (.putfield 25, 3) := by decide +kernel
theorem dTa_keep_94 : decode bTa_keep 94 = .ok (.aload_n 0, 1) := by decide +kernel
theorem dTa_keep_95 : decode bTa_keep 95 = .ok (.getfield 25, 3) := by decide +kernel
theorem dTa_keep_98 : decode bTa_keep 98 = .ok (.iconst 1, 1) := by decide +kernel
theorem dTa_keep_99 : decode bTa_keep 99 = .ok (.isub, 1) := by decide +kernel
theorem dTa_keep_100 : decode bTa_keep 100 = .ok (.ireturn, 1) := by decide +kernel
theorem dTa_chainOf_0 : decode bTa_chainOf 0 = .ok (.lload_n 2, 1) := by decide +kernel
theorem dTa_chainOf_1 : decode bTa_chainOf 1 = .ok (.ldc2_w 43, 3) := by decide +kernel
theorem dTa_chainOf_4 : decode bTa_chainOf 4 = .ok (.lmul, 1) := by decide +kernel
theorem dTa_chainOf_5 : decode bTa_chainOf 5 = .ok (.iload_n 1, 1) := by decide +kernel
theorem dTa_chainOf_6 : decode bTa_chainOf 6 = .ok (.i2l, 1) := by decide +kernel
theorem dTa_chainOf_7 : decode bTa_chainOf 7 = .ok (.ldc2_w 45, 3) := by decide +kernel
theorem dTa_chainOf_10 : decode bTa_chainOf 10 = .ok (.lmul, 1) := by decide +kernel
theorem dTa_chainOf_11 : decode bTa_chainOf 11 = .ok (.ladd, 1) := by decide +kernel
theorem dTa_chainOf_12 : decode bTa_chainOf 12 = .ok (.bipush 54, 2) := by decide +kernel
theorem dTa_chainOf_14 : decode bTa_chainOf 14 = .ok (.lushr, 1) := by decide +kernel
theorem dTa_chainOf_15 : decode bTa_chainOf 15 = .ok (.l2i, 1) := by decide +kernel
theorem dTa_chainOf_16 : decode bTa_chainOf 16 = .ok (.ireturn, 1) := by decide +kernel
theorem dTa_findIn_0 : decode bTa_findIn 0 = .ok (.aload_n 0, 1) := by decide +kernel
theorem dTa_findIn_1 : decode bTa_findIn 1 = .ok (.getfield 19, 3) := by decide +kernel
theorem dTa_findIn_4 : decode bTa_findIn 4 = .ok (.iload_n 1, 1) := by decide +kernel
theorem dTa_findIn_5 : decode bTa_findIn 5 = .ok (.iaload, 1) := by decide +kernel
theorem dTa_findIn_6 : decode bTa_findIn 6 = .ok (.istore 5, 2) := by decide +kernel
theorem dTa_findIn_8 : decode bTa_findIn 8 = .ok (.aload_n 0, 1) := by decide +kernel
theorem dTa_findIn_9 : decode bTa_findIn 9 = .ok (.getfield 25, 3) := by decide +kernel
theorem dTa_findIn_12 : decode bTa_findIn 12 = .ok (.istore 6, 2) := by decide +kernel
theorem dTa_findIn_14 : decode bTa_findIn 14 = .ok (.iload 6, 2) := by decide +kernel
theorem dTa_findIn_16 : decode bTa_findIn 16 = .ok (.ifCond .le 49, 3) := by decide +kernel
theorem dTa_findIn_19 : decode bTa_findIn 19 = .ok (.iload 5, 2) := by decide +kernel
theorem dTa_findIn_21 : decode bTa_findIn 21 = .ok (.ifCond .lt 44, 3) := by decide +kernel
theorem dTa_findIn_24 : decode bTa_findIn 24 = .ok (.aload_n 0, 1) := by decide +kernel
theorem dTa_findIn_25 : decode bTa_findIn 25 = .ok (.getfield 9, 3) := by decide +kernel
theorem dTa_findIn_28 : decode bTa_findIn 28 = .ok (.iload 5, 2) := by decide +kernel
theorem dTa_findIn_30 : decode bTa_findIn 30 = .ok (.iaload, 1) := by decide +kernel
theorem dTa_findIn_31 : decode bTa_findIn 31 = .ok (.iload_n 2, 1) := by decide +kernel
theorem dTa_findIn_32 : decode bTa_findIn 32 = .ok (.if_icmp .ne 18, 3) := by decide +kernel
theorem dTa_findIn_35 : decode bTa_findIn 35 = .ok (.aload_n 0, 1) := by decide +kernel
theorem dTa_findIn_36 : decode bTa_findIn 36 = .ok (.getfield 15, 3) := by decide +kernel
theorem dTa_findIn_39 : decode bTa_findIn 39 = .ok (.iload 5, 2) := by decide +kernel
theorem dTa_findIn_41 : decode bTa_findIn 41 = .ok (.laload, 1) := by decide +kernel
theorem dTa_findIn_42 : decode bTa_findIn 42 = .ok (.lload_n 3, 1) := by decide +kernel
theorem dTa_findIn_43 : decode bTa_findIn 43 = .ok (.lcmp, 1) := by decide +kernel
theorem dTa_findIn_44 : decode bTa_findIn 44 = .ok (.ifCond .ne 6, 3) := by decide +kernel
theorem dTa_findIn_47 : decode bTa_findIn 47 = .ok (.iload 5, 2) := by decide +kernel
theorem dTa_findIn_49 : decode bTa_findIn 49 = .ok (.ireturn, 1) := by decide +kernel
theorem dTa_findIn_50 : decode bTa_findIn 50 = .ok (.aload_n 0, 1) := by decide +kernel
theorem dTa_findIn_51 : decode bTa_findIn 51 = .ok (.getfield 22, 3) := by decide +kernel
theorem dTa_findIn_54 : decode bTa_findIn 54 = .ok (.iload 5, 2) := by decide +kernel
theorem dTa_findIn_56 : decode bTa_findIn 56 = .ok (.iaload, 1) := by decide +kernel
theorem dTa_findIn_57 : decode bTa_findIn 57 = .ok (.istore 5, 2) := by decide +kernel
theorem dTa_findIn_59 : decode bTa_findIn 59 = .ok (.iinc 6 (-1), 3) := by decide +kernel
theorem dTa_findIn_62 : decode bTa_findIn 62 = .ok (.goto (-48), 3) := by decide +kernel
theorem dTa_findIn_65 : decode bTa_findIn 65 = .ok (.iconst (-1), 1) := by decide +kernel
theorem dTa_findIn_66 : decode bTa_findIn 66 = .ok (.ireturn, 1) := by decide +kernel
theorem dTa_find_0 : decode bTa_find 0 = .ok (.aload_n 0, 1) := by decide +kernel
theorem dTa_find_1 : decode bTa_find 1 = .ok (.aload_n 0, 1) := by decide +kernel
theorem dTa_find_2 : decode bTa_find 2 = .ok (.iload_n 1, 1) := by decide +kernel
theorem dTa_find_3 : decode bTa_find 3 = .ok (.lload_n 2, 1) := by decide +kernel
theorem dTa_find_4 : decode bTa_find 4 = .ok (.invokevirtual 35, 3) := by decide +kernel
theorem dTa_find_7 : decode bTa_find 7 = .ok (.iload_n 1, 1) := by decide +kernel
theorem dTa_find_8 : decode bTa_find 8 = .ok (.lload_n 2, 1) := by decide +kernel
theorem dTa_find_9 : decode bTa_find 9 = .ok (.invokevirtual 39, 3) := by decide +kernel
theorem dTa_find_12 : decode bTa_find 12 = .ok (.ireturn, 1) := by decide +kernel
