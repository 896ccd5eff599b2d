theorem dSu_learn_0 : decode bSu_learn 0 = .ok (.aload_n 0, 1) := by decide +kernel
theorem dSu_learn_1 : decode bSu_learn 1 = .ok (.getfield 57, 3) := by decide +kernel
theorem dSu_learn_4 : decode bSu_learn 4 = .ok (.ifCond .eq 4, 3) := by decide +kernel
theorem dSu_learn_7 : decode bSu_learn 7 = .ok (.return_, 1) := by decide +kernel
theorem dSu_learn_8 : decode bSu_learn 8 = .ok (.aload_n 0, 1) := by decide +kernel
theorem dSu_learn_9 : decode bSu_learn 9 = .ok (.iconst 1, 1) := by decide +kernel
theorem dSu_learn_10 : decode bSu_learn 10 = .ok (.putfield 57, 3) := by decide +kernel
theorem dSu_learn_13 : decode bSu_learn 13 = .ok (.aload_n 0, 1) := by decide +kernel
theorem dSu_learn_14 : decode bSu_learn 14 = .ok (.getfield 20, 3) := by decide +kernel
theorem dSu_learn_17 : decode bSu_learn 17 = .ok (.aload_n 0, 1) := by decide +kernel
theorem dSu_learn_18 : decode bSu_learn 18 = .ok (.aload_n 0, 1) := by decide +kernel
theorem dSu_learn_19 : decode bSu_learn 19 = .ok (.getfield 39, 3) := by decide +kernel
theorem dSu_learn_22 : decode bSu_learn 22 = .ok (.aload_n 0, 1) := by decide +kernel
theorem dSu_learn_23 : decode bSu_learn 23 = .ok (.getfield 45, 3) := by decide +kernel
theorem dSu_learn_26 : decode bSu_learn 26 = .ok (.iconst 0, 1) := by decide +kernel
theorem dSu_learn_27 : decode bSu_learn 27 = .ok (.invokevirtual 99, 3) := by decide +kernel
theorem dSu_learn_30 : decode bSu_learn 30 = .ok (.ifCond .eq 64, 3) := by decide +kernel
theorem dSu_learn_33 : decode bSu_learn 33 = .ok (.aload_n 0, 1) := by decide +kernel
theorem dSu_learn_34 : decode bSu_learn 34 = .ok (.aload_n 0, 1) := by decide +kernel
theorem dSu_learn_35 : decode bSu_learn 35 = .ok (.getfield 20, 3) := by decide +kernel
theorem dSu_learn_38 : decode bSu_learn 38 = .ok (.getfield 103, 3) := by decide +kernel
theorem dSu_learn_41 : decode bSu_learn 41 = .ok (.getfield 107, 3) := by decide +kernel
theorem dSu_learn_44 : decode bSu_learn 44 = .ok (.putfield 110, 3) := by decide +kernel
theorem dSu_learn_47 : decode bSu_learn 47 = .ok (.aload_n 0, 1) := by decide +kernel
theorem dSu_learn_48 : decode bSu_learn 48 = .ok (.aload_n 0, 1) := by decide +kernel
theorem dSu_learn_49 : decode bSu_learn 49 = .ok (.getfield 20, 3) := by decide +kernel
theorem dSu_learn_52 : decode bSu_learn 52 = .ok (.invokevirtual 113, 3) := by decide +kernel
theorem dSu_learn_55 : decode bSu_learn 55 = .ok (.putfield 117, 3) := by decide +kernel
theorem dSu_learn_58 : decode bSu_learn 58 = .ok (.aload_n 0, 1) := by decide +kernel
theorem dSu_learn_59 : decode bSu_learn 59 = .ok (.aload_n 0, 1) := by decide +kernel
theorem dSu_learn_60 : decode bSu_learn 60 = .ok (.getfield 20, 3) := by decide +kernel
theorem dSu_learn_63 : decode bSu_learn 63 = .ok (.aload_n 1, 1) := by decide +kernel
theorem dSu_learn_64 : decode bSu_learn 64 = .ok (.getfield 103, 3) := by decide +kernel
theorem dSu_learn_67 : decode bSu_learn 67 = .ok (.invokevirtual 121, 3) := by decide +kernel
theorem dSu_learn_70 : decode bSu_learn 70 = .ok (.putfield 125, 3) := by decide +kernel
theorem dSu_learn_73 : decode bSu_learn 73 = .ok (.aload_n 0, 1) := by decide +kernel
theorem dSu_learn_74 : decode bSu_learn 74 = .ok (.aload_n 0, 1) := by decide +kernel
theorem dSu_learn_75 : decode bSu_learn 75 = .ok (.getfield 117, 3) := by decide +kernel
theorem dSu_learn_78 : decode bSu_learn 78 = .ok (.lconst 0, 1) := by decide +kernel
theorem dSu_learn_79 : decode bSu_learn 79 = .ok (.lcmp, 1) := by decide +kernel
theorem dSu_learn_80 : decode bSu_learn 80 = .ok (.ifCond .le 7, 3) := by decide +kernel
theorem dSu_learn_83 : decode bSu_learn 83 = .ok (.iconst 1, 1) := by decide +kernel
theorem dSu_learn_84 : decode bSu_learn 84 = .ok (.goto 4, 3) := by decide +kernel
theorem dSu_learn_87 : decode bSu_learn 87 = .ok (.iconst 0, 1) := by decide +kernel
theorem dSu_learn_88 : decode bSu_learn 88 = .ok (.putfield 128, 3) := by decide +kernel
theorem dSu_learn_91 : decode bSu_learn 91 = .ok (.goto 28, 3) := by decide +kernel
theorem dSu_learn_94 : decode bSu_learn 94 = .ok (.aload_n 0, 1) := by decide +kernel
theorem dSu_learn_95 : decode bSu_learn 95 = .ok (.bipush (-2), 2) := by decide +kernel
theorem dSu_learn_97 : decode bSu_learn 97 = .ok (.putfield 110, 3) := by decide +kernel
theorem dSu_learn_100 : decode bSu_learn 100 = .ok (.aload_n 0, 1) := by decide +kernel
theorem dSu_learn_101 : decode bSu_learn 101 = .ok (.ldc2_w 131, 3) := by decide +kernel
theorem dSu_learn_104 : decode bSu_learn 104 = .ok (.putfield 117, 3) := by decide +kernel
theorem dSu_learn_107 : decode bSu_learn 107 = .ok (.aload_n 0, 1) := by decide +kernel
theorem dSu_learn_108 : decode bSu_learn 108 = .ok (.bipush (-2), 2) := by decide +kernel
theorem dSu_learn_110 : decode bSu_learn 110 = .ok (.putfield 125, 3) := by decide +kernel
theorem dSu_learn_113 : decode bSu_learn 113 = .ok (.aload_n 0, 1) := by decide +kernel
theorem dSu_learn_114 : decode bSu_learn 114 = .ok (.bipush (-2), 2) := by decide +kernel
theorem dSu_learn_116 : decode bSu_learn 116 = .ok (.putfield 128, 3) := by decide +kernel
theorem dSu_learn_119 : decode bSu_learn 119 = .ok (.return_, 1) := by decide +kernel
theorem dSu_init_0 : decode bSu_init 0 = .ok (.aload_n 0, 1) := by decide +kernel
theorem dSu_init_1 : decode bSu_init 1 = .ok (.invokespecial 3, 3) := by decide +kernel
theorem dSu_init_4 : decode bSu_init 4 = .ok (.aload_n 0, 1) := by decide +kernel
theorem dSu_init_5 : decode bSu_init 5 = .ok (.bipush 16, 2) := by decide +kernel
theorem dSu_init_7 : decode bSu_init 7 = .ok (.anewarray 9, 3) := by decide +kernel
theorem dSu_init_10 : decode bSu_init 10 = .ok (.putfield 11, 3) := by decide +kernel
theorem dSu_init_13 : decode bSu_init 13 = .ok (.aload_n 0, 1) := by decide +kernel
theorem dSu_init_14 : decode bSu_init 14 = .ok (.new 17, 3) := by decide +kernel
theorem dSu_init_17 : decode bSu_init 17 = .ok (.dup, 1) := by decide +kernel
theorem dSu_init_18 : decode bSu_init 18 = .ok (.invokespecial 19, 3) := by decide +kernel
theorem dSu_init_21 : decode bSu_init 21 = .ok (.putfield 20, 3) := by decide +kernel
theorem dSu_init_24 : decode bSu_init 24 = .ok (.aload_n 0, 1) := by decide +kernel
theorem dSu_init_25 : decode bSu_init 25 = .ok (.bipush 16, 2) := by decide +kernel
theorem dSu_init_27 : decode bSu_init 27 = .ok (.newarray .int, 2) := by decide +kernel
theorem dSu_init_29 : decode bSu_init 29 = .ok (.putfield 24, 3) := by decide +kernel
theorem dSu_init_32 : decode bSu_init 32 = .ok (.aload_n 0, 1) := by decide +kernel
theorem dSu_init_33 : decode bSu_init 33 = .ok (.bipush 16, 2) := by decide +kernel
theorem dSu_init_35 : decode bSu_init 35 = .ok (.newarray .int, 2) := by decide +kernel
theorem dSu_init_37 : decode bSu_init 37 = .ok (.putfield 28, 3) := by decide +kernel
theorem dSu_init_40 : decode bSu_init 40 = .ok (.aload_n 0, 1) := by decide +kernel
theorem dSu_init_41 : decode bSu_init 41 = .ok (.bipush 16, 2) := by decide +kernel
theorem dSu_init_43 : decode bSu_init 43 = .ok (.newarray .int, 2) := by decide +kernel
theorem dSu_init_45 : decode bSu_init 45 = .ok (.putfield 31, 3) := by decide +kernel
theorem dSu_init_48 : decode bSu_init 48 = .ok (.iconst 0, 1) := by decide +kernel
theorem dSu_init_49 : decode bSu_init 49 = .ok (.istore_n 1, 1) := by decide +kernel
theorem dSu_init_50 : decode bSu_init 50 = .ok (.iload_n 1, 1) := by decide +kernel
theorem dSu_init_51 : decode bSu_init 51 = .ok (.bipush 16, 2) := by decide +kernel
theorem dSu_init_53 : decode bSu_init 53 = .ok (.if_icmp .ge 22, 3) := by decide +kernel
theorem dSu_init_56 : decode bSu_init 56 = .ok (.aload_n 0, 1) := by decide +kernel
theorem dSu_init_57 : decode bSu_init 57 = .ok (.getfield 11, 3) := by decide +kernel
theorem dSu_init_60 : decode bSu_init 60 = .ok (.iload_n 1, 1) := by decide +kernel
theorem dSu_init_61 : decode bSu_init 61 = .ok (.new 9, 3) := by decide +kernel
theorem dSu_init_64 : decode bSu_init 64 = .ok (.dup, 1) := by decide +kernel
theorem dSu_init_65 : decode bSu_init 65 = .ok (.invokespecial 34, 3) := by decide +kernel
theorem dSu_init_68 : decode bSu_init 68 = .ok (.aastore, 1) := by decide +kernel
theorem dSu_init_69 : decode bSu_init 69 = .ok (.iinc 1 1, 3) := by decide +kernel
theorem dSu_init_72 : decode bSu_init 72 = .ok (.goto (-22), 3) := by decide +kernel
theorem dSu_init_75 : decode bSu_init 75 = .ok (.return_, 1) := by decide +kernel
theorem dSu_begin_0 : decode bSu_begin 0 = .ok (.aload_n 0, 1) := by decide +kernel
theorem dSu_begin_1 : decode bSu_begin 1 = .ok (.iload_n 1, 1) := by decide +kernel
theorem dSu_begin_2 : decode bSu_begin 2 = .ok (.putfield 35, 3) := by decide +kernel
theorem dSu_begin_5 : decode bSu_begin 5 = .ok (.aload_n 0, 1) := by decide +kernel
theorem dSu_begin_6 : decode bSu_begin 6 = .ok (.iconst 0, 1) := by decide +kernel
theorem dSu_begin_7 : decode bSu_begin 7 = .ok (.putfield 39, 3) := by decide +kernel
theorem dSu_begin_10 : decode bSu_begin 10 = .ok (.aload_n 0, 1) := by decide +kernel
theorem dSu_begin_11 : decode bSu_begin 11 = .ok (.iconst 0, 1) := by decide +kernel
theorem dSu_begin_12 : decode bSu_begin 12 = .ok (.putfield 42, 3) := by decide +kernel
theorem dSu_begin_15 : decode bSu_begin 15 = .ok (.aload_n 0, 1) := by decide +kernel
theorem dSu_begin_16 : decode bSu_begin 16 = .ok (.iconst 0, 1) := by decide +kernel
theorem dSu_begin_17 : decode bSu_begin 17 = .ok (.putfield 45, 3) := by decide +kernel
theorem dSu_begin_20 : decode bSu_begin 20 = .ok (.aload_n 0, 1) := by decide +kernel
theorem dSu_begin_21 : decode bSu_begin 21 = .ok (.iconst 0, 1) := by decide +kernel
theorem dSu_begin_22 : decode bSu_begin 22 = .ok (.putfield 48, 3) := by decide +kernel
theorem dSu_begin_25 : decode bSu_begin 25 = .ok (.aload_n 0, 1) := by decide +kernel
theorem dSu_begin_26 : decode bSu_begin 26 = .ok (.iconst (-1), 1) := by decide +kernel
theorem dSu_begin_27 : decode bSu_begin 27 = .ok (.putfield 51, 3) := by decide +kernel
theorem dSu_begin_30 : decode bSu_begin 30 = .ok (.aload_n 0, 1) := by decide +kernel
theorem dSu_begin_31 : decode bSu_begin 31 = .ok (.invokevirtual 54, 3) := by decide +kernel
theorem dSu_begin_34 : decode bSu_begin 34 = .ok (.return_, 1) := by decide +kernel
theorem dSu_forget_0 : decode bSu_forget 0 = .ok (.aload_n 0, 1) := by decide +kernel
theorem dSu_forget_1 : decode bSu_forget 1 = .ok (.iconst 0, 1) := by decide +kernel
theorem dSu_forget_2 : decode bSu_forget 2 = .ok (.putfield 57, 3) := by decide +kernel
theorem dSu_forget_5 : decode bSu_forget 5 = .ok (.aload_n 0, 1) := by decide +kernel
theorem dSu_forget_6 : decode bSu_forget 6 = .ok (.iconst 0, 1) := by decide +kernel
theorem dSu_forget_7 : decode bSu_forget 7 = .ok (.putfield 61, 3) := by decide +kernel
theorem dSu_forget_10 : decode bSu_forget 10 = .ok (.return_, 1) := by decide +kernel
theorem dSu_operationsOfKind_0 : decode bSu_operationsOfKind 0 = .ok (.aload_n 0, 1) := by decide +kernel
theorem dSu_operationsOfKind_1 : decode bSu_operationsOfKind 1 = .ok (.getfield 35, 3) := by decide +kernel
theorem dSu_operationsOfKind_4 : decode bSu_operationsOfKind 4 = .ok (.ifCond .ne 7, 3) := by decide +kernel
theorem dSu_operationsOfKind_7 : decode bSu_operationsOfKind 7 = .ok (.iconst 5, 1) := by decide +kernel
theorem dSu_operationsOfKind_8 : decode bSu_operationsOfKind 8 = .ok (.goto 4, 3) := by decide +kernel
theorem dSu_operationsOfKind_11 : decode bSu_operationsOfKind 11 = .ok (.iconst 3, 1) := by decide +kernel
theorem dSu_operationsOfKind_12 : decode bSu_operationsOfKind 12 = .ok (.ireturn, 1) := by decide +kernel
theorem dSu_addOperation_0 : decode bSu_addOperation 0 = .ok (.aload_n 0, 1) := by decide +kernel
theorem dSu_addOperation_1 : decode bSu_addOperation 1 = .ok (.getfield 39, 3) := by decide +kernel
theorem dSu_addOperation_4 : decode bSu_addOperation 4 = .ok (.bipush 16, 2) := by decide +kernel
theorem dSu_addOperation_6 : decode bSu_addOperation 6 = .ok (.if_icmp .lt 4, 3) := by decide +kernel
theorem dSu_addOperation_9 : decode bSu_addOperation 9 = .ok (.return_, 1) := by decide +kernel
theorem dSu_addOperation_10 : decode bSu_addOperation 10 = .ok (.aload_n 0, 1) := by decide +kernel
theorem dSu_addOperation_11 : decode bSu_addOperation 11 = .ok (.getfield 11, 3) := by decide +kernel
theorem dSu_addOperation_14 : decode bSu_addOperation 14 = .ok (.aload_n 0, 1) := by decide +kernel
theorem dSu_addOperation_15 : decode bSu_addOperation 15 = .ok (.getfield 39, 3) := by decide +kernel
theorem dSu_addOperation_18 : decode bSu_addOperation 18 = .ok (.aaload, 1) := by decide +kernel
theorem dSu_addOperation_19 : decode bSu_addOperation 19 = .ok (.astore 5, 2) := by decide +kernel
theorem dSu_addOperation_21 : decode bSu_addOperation 21 = .ok (.aload 5, 2) := by decide +kernel
theorem dSu_addOperation_23 : decode bSu_addOperation 23 = .ok (.iload_n 1, 1) := by decide +kernel
theorem dSu_addOperation_24 : decode bSu_addOperation 24 = .ok (.putfield 64, 3) := by decide +kernel
theorem dSu_addOperation_27 : decode bSu_addOperation 27 = .ok (.aload 5, 2) := by decide +kernel
theorem dSu_addOperation_29 : decode bSu_addOperation 29 = .ok (.iload_n 2, 1) := by decide +kernel
theorem dSu_addOperation_30 : decode bSu_addOperation 30 = .ok (.putfield 67, 3) := by decide +kernel
theorem dSu_addOperation_33 : decode bSu_addOperation 33 = .ok (.aload 5, 2) := by decide +kernel
theorem dSu_addOperation_35 : decode bSu_addOperation 35 = .ok (.iload_n 3, 1) := by decide +kernel
theorem dSu_addOperation_36 : decode bSu_addOperation 36 = .ok (.putfield 70, 3) := by decide +kernel
theorem dSu_addOperation_39 : decode bSu_addOperation 39 = .ok (.aload 5, 2) := by decide +kernel
theorem dSu_addOperation_41 : decode bSu_addOperation 41 = .ok (.iload 4, 2) := by decide +kernel
theorem dSu_addOperation_43 : decode bSu_addOperation 43 = .ok (.putfield 73, 3) := by decide +kernel
theorem dSu_addOperation_46 : decode bSu_addOperation 46 = .ok (.aload 5, 2) := by decide +kernel
theorem dSu_addOperation_48 : decode bSu_addOperation 48 = .ok (.iconst 0, 1) := by decide +kernel
theorem dSu_addOperation_49 : decode bSu_addOperation 49 = .ok (.putfield 76, 3) := by decide +kernel
theorem dSu_addOperation_52 : decode bSu_addOperation 52 = .ok (.aload 5, 2) := by decide +kernel
theorem dSu_addOperation_54 : decode bSu_addOperation 54 = .ok (.aload_n 0, 1) := by decide +kernel
theorem dSu_addOperation_55 : decode bSu_addOperation 55 = .ok (.getfield 45, 3) := by decide +kernel
theorem dSu_addOperation_58 : decode bSu_addOperation 58 = .ok (.putfield 79, 3) := by decide +kernel
theorem dSu_addOperation_61 : decode bSu_addOperation 61 = .ok (.aload 5, 2) := by decide +kernel
theorem dSu_addOperation_63 : decode bSu_addOperation 63 = .ok (.aload_n 0, 1) := by decide +kernel
theorem dSu_addOperation_64 : decode bSu_addOperation 64 = .ok (.iload_n 1, 1) := by decide +kernel
theorem dSu_addOperation_65 : decode bSu_addOperation 65 = .ok (.invokevirtual 82, 3) := by decide +kernel
theorem dSu_addOperation_68 : decode bSu_addOperation 68 = .ok (.putfield 86, 3) := by decide +kernel
theorem dSu_addOperation_71 : decode bSu_addOperation 71 = .ok (.aload 5, 2) := by decide +kernel
theorem dSu_addOperation_73 : decode bSu_addOperation 73 = .ok (.aload_n 0, 1) := by decide +kernel
theorem dSu_addOperation_74 : decode bSu_addOperation 74 = .ok (.aload_n 0, 1) := by decide +kernel
theorem dSu_addOperation_75 : decode bSu_addOperation 75 = .ok (.aload 5, 2) := by decide +kernel
theorem dSu_addOperation_77 : decode bSu_addOperation 77 = .ok (.invokevirtual 89, 3) := by decide +kernel
theorem dSu_addOperation_80 : decode bSu_addOperation 80 = .ok (.invokevirtual 93, 3) := by decide +kernel
theorem dSu_addOperation_83 : decode bSu_addOperation 83 = .ok (.putfield 96, 3) := by decide +kernel
theorem dSu_addOperation_86 : decode bSu_addOperation 86 = .ok (.aload_n 0, 1) := by decide +kernel
theorem dSu_addOperation_87 : decode bSu_addOperation 87 = .ok (.dup, 1) := by decide +kernel
theorem dSu_addOperation_88 : decode bSu_addOperation 88 = .ok (.getfield 39, 3) := by decide +kernel
theorem dSu_addOperation_91 : decode bSu_addOperation 91 = .ok (.iconst 1, 1) := by decide +kernel
theorem dSu_addOperation_92 : decode bSu_addOperation 92 = .ok (.iadd, 1) := by decide +kernel
theorem dSu_addOperation_93 : decode bSu_addOperation 93 = .ok (.putfield 39, 3) := by decide +kernel
theorem dSu_addOperation_96 : decode bSu_addOperation 96 = .ok (.aload_n 0, 1) := by decide +kernel
theorem dSu_addOperation_97 : decode bSu_addOperation 97 = .ok (.invokevirtual 54, 3) := by decide +kernel
theorem dSu_addOperation_100 : decode bSu_addOperation 100 = .ok (.return_, 1) := by decide +kernel
theorem dSu_placesOf_0 : decode bSu_placesOf 0 = .ok (.iconst 0, 1) := by decide +kernel
theorem dSu_placesOf_1 : decode bSu_placesOf 1 = .ok (.istore_n 2, 1) := by decide +kernel
theorem dSu_placesOf_2 : decode bSu_placesOf 2 = .ok (.iconst 0, 1) := by decide +kernel
theorem dSu_placesOf_3 : decode bSu_placesOf 3 = .ok (.istore_n 3, 1) := by decide +kernel
theorem dSu_placesOf_4 : decode bSu_placesOf 4 = .ok (.iload_n 3, 1) := by decide +kernel
theorem dSu_placesOf_5 : decode bSu_placesOf 5 = .ok (.aload_n 0, 1) := by decide +kernel
theorem dSu_placesOf_6 : decode bSu_placesOf 6 = .ok (.getfield 39, 3) := by decide +kernel
theorem dSu_placesOf_9 : decode bSu_placesOf 9 = .ok (.if_icmp .ge 28, 3) := by decide +kernel
theorem dSu_placesOf_12 : decode bSu_placesOf 12 = .ok (.aload_n 0, 1) := by decide +kernel
theorem dSu_placesOf_13 : decode bSu_placesOf 13 = .ok (.getfield 11, 3) := by decide +kernel
theorem dSu_placesOf_16 : decode bSu_placesOf 16 = .ok (.iload_n 3, 1) := by decide +kernel
theorem dSu_placesOf_17 : decode bSu_placesOf 17 = .ok (.aaload, 1) := by decide +kernel
theorem dSu_placesOf_18 : decode bSu_placesOf 18 = .ok (.getfield 64, 3) := by decide +kernel
theorem dSu_placesOf_21 : decode bSu_placesOf 21 = .ok (.iload_n 1, 1) := by decide +kernel
theorem dSu_placesOf_22 : decode bSu_placesOf 22 = .ok (.if_icmp .ne 9, 3) := by decide +kernel
theorem dSu_placesOf_25 : decode bSu_placesOf 25 = .ok (.iload_n 2, 1) := by decide +kernel
theorem dSu_placesOf_26 : decode bSu_placesOf 26 = .ok (.iconst 1, 1) := by decide +kernel
theorem dSu_placesOf_27 : decode bSu_placesOf 27 = .ok (.iload_n 3, 1) := by decide +kernel
theorem dSu_placesOf_28 : decode bSu_placesOf 28 = .ok (.ishl, 1) := by decide +kernel
theorem dSu_placesOf_29 : decode bSu_placesOf 29 = .ok (.ior, 1) := by decide +kernel
theorem dSu_placesOf_30 : decode bSu_placesOf 30 = .ok (.istore_n 2, 1) := by decide +kernel
theorem dSu_placesOf_31 : decode bSu_placesOf 31 = .ok (.iinc 3 1, 3) := by decide +kernel
theorem dSu_placesOf_34 : decode bSu_placesOf 34 = .ok (.goto (-30), 3) := by decide +kernel
theorem dSu_placesOf_37 : decode bSu_placesOf 37 = .ok (.iload_n 2, 1) := by decide +kernel
theorem dSu_placesOf_38 : decode bSu_placesOf 38 = .ok (.ireturn, 1) := by decide +kernel
theorem dSu_numberOf_0 : decode bSu_numberOf 0 = .ok (.aload_n 0, 1) := by decide +kernel
theorem dSu_numberOf_1 : decode bSu_numberOf 1 = .ok (.getfield 35, 3) := by decide +kernel
theorem dSu_numberOf_4 : decode bSu_numberOf 4 = .ok (.iconst 5, 1) := by decide +kernel
theorem dSu_numberOf_5 : decode bSu_numberOf 5 = .ok (.if_icmp .ne 10, 3) := by decide +kernel
theorem dSu_numberOf_8 : decode bSu_numberOf 8 = .ok (.aload_n 1, 1) := by decide +kernel
theorem dSu_numberOf_9 : decode bSu_numberOf 9 = .ok (.getfield 73, 3) := by decide +kernel
theorem dSu_numberOf_12 : decode bSu_numberOf 12 = .ok (.goto 7, 3) := by decide +kernel
theorem dSu_numberOf_15 : decode bSu_numberOf 15 = .ok (.aload_n 1, 1) := by decide +kernel
theorem dSu_numberOf_16 : decode bSu_numberOf 16 = .ok (.getfield 70, 3) := by decide +kernel
theorem dSu_numberOf_19 : decode bSu_numberOf 19 = .ok (.ireturn, 1) := by decide +kernel
theorem dSu_nameOf_0 : decode bSu_nameOf 0 = .ok (.iconst 0, 1) := by decide +kernel
theorem dSu_nameOf_1 : decode bSu_nameOf 1 = .ok (.istore_n 2, 1) := by decide +kernel
theorem dSu_nameOf_2 : decode bSu_nameOf 2 = .ok (.iload_n 2, 1) := by decide +kernel
theorem dSu_nameOf_3 : decode bSu_nameOf 3 = .ok (.aload_n 0, 1) := by decide +kernel
theorem dSu_nameOf_4 : decode bSu_nameOf 4 = .ok (.getfield 39, 3) := by decide +kernel
theorem dSu_nameOf_7 : decode bSu_nameOf 7 = .ok (.if_icmp .ge 25, 3) := by decide +kernel
theorem dSu_nameOf_10 : decode bSu_nameOf 10 = .ok (.aload_n 0, 1) := by decide +kernel
theorem dSu_nameOf_11 : decode bSu_nameOf 11 = .ok (.aload_n 0, 1) := by decide +kernel
theorem dSu_nameOf_12 : decode bSu_nameOf 12 = .ok (.getfield 11, 3) := by decide +kernel
theorem dSu_nameOf_15 : decode bSu_nameOf 15 = .ok (.iload_n 2, 1) := by decide +kernel
theorem dSu_nameOf_16 : decode bSu_nameOf 16 = .ok (.aaload, 1) := by decide +kernel
theorem dSu_nameOf_17 : decode bSu_nameOf 17 = .ok (.invokevirtual 89, 3) := by decide +kernel
theorem dSu_nameOf_20 : decode bSu_nameOf 20 = .ok (.iload_n 1, 1) := by decide +kernel
theorem dSu_nameOf_21 : decode bSu_nameOf 21 = .ok (.if_icmp .ne 5, 3) := by decide +kernel
theorem dSu_nameOf_24 : decode bSu_nameOf 24 = .ok (.iload_n 2, 1) := by decide +kernel
theorem dSu_nameOf_25 : decode bSu_nameOf 25 = .ok (.ireturn, 1) := by decide +kernel
theorem dSu_nameOf_26 : decode bSu_nameOf 26 = .ok (.iinc 2 1, 3) := by decide +kernel
theorem dSu_nameOf_29 : decode bSu_nameOf 29 = .ok (.goto (-27), 3) := by decide +kernel
theorem dSu_nameOf_32 : decode bSu_nameOf 32 = .ok (.aload_n 0, 1) := by decide +kernel
theorem dSu_nameOf_33 : decode bSu_nameOf 33 = .ok (.getfield 39, 3) := by decide +kernel
theorem dSu_nameOf_36 : decode bSu_nameOf 36 = .ok (.ireturn, 1) := by decide +kernel
theorem dSu_endOperation_0 : decode bSu_endOperation 0 = .ok (.iload_n 1, 1) := by decide +kernel
theorem dSu_endOperation_1 : decode bSu_endOperation 1 = .ok (.ifCond .lt 20, 3) := by decide +kernel
theorem dSu_endOperation_4 : decode bSu_endOperation 4 = .ok (.iload_n 1, 1) := by decide +kernel
theorem dSu_endOperation_5 : decode bSu_endOperation 5 = .ok (.aload_n 0, 1) := by decide +kernel
theorem dSu_endOperation_6 : decode bSu_endOperation 6 = .ok (.getfield 39, 3) := by decide +kernel
theorem dSu_endOperation_9 : decode bSu_endOperation 9 = .ok (.if_icmp .ge 12, 3) := by decide +kernel
theorem dSu_endOperation_12 : decode bSu_endOperation 12 = .ok (.aload_n 0, 1) := by decide +kernel
theorem dSu_endOperation_13 : decode bSu_endOperation 13 = .ok (.getfield 42, 3) := by decide +kernel
theorem dSu_endOperation_16 : decode bSu_endOperation 16 = .ok (.bipush 16, 2) := by decide +kernel
theorem dSu_endOperation_18 : decode bSu_endOperation 18 = .ok (.if_icmp .lt 4, 3) := by decide +kernel
theorem dSu_endOperation_21 : decode bSu_endOperation 21 = .ok (.return_, 1) := by decide +kernel
theorem dSu_endOperation_22 : decode bSu_endOperation 22 = .ok (.aload_n 0, 1) := by decide +kernel
theorem dSu_endOperation_23 : decode bSu_endOperation 23 = .ok (.getfield 11, 3) := by decide +kernel
theorem dSu_endOperation_26 : decode bSu_endOperation 26 = .ok (.iload_n 1, 1) := by decide +kernel
theorem dSu_endOperation_27 : decode bSu_endOperation 27 = .ok (.aaload, 1) := by decide +kernel
theorem dSu_endOperation_28 : decode bSu_endOperation 28 = .ok (.iload_n 2, 1) := by decide +kernel
theorem dSu_endOperation_29 : decode bSu_endOperation 29 = .ok (.putfield 76, 3) := by decide +kernel
theorem dSu_endOperation_32 : decode bSu_endOperation 32 = .ok (.aload_n 0, 1) := by decide +kernel
theorem dSu_endOperation_33 : decode bSu_endOperation 33 = .ok (.dup, 1) := by decide +kernel
theorem dSu_endOperation_34 : decode bSu_endOperation 34 = .ok (.getfield 45, 3) := by decide +kernel
theorem dSu_endOperation_37 : decode bSu_endOperation 37 = .ok (.iconst 1, 1) := by decide +kernel
theorem dSu_endOperation_38 : decode bSu_endOperation 38 = .ok (.iload_n 1, 1) := by decide +kernel
theorem dSu_endOperation_39 : decode bSu_endOperation 39 = .ok (.ishl, 1) := by decide +kernel
theorem dSu_endOperation_40 : decode bSu_endOperation 40 = .ok (.ior, 1) := by decide +kernel
theorem dSu_endOperation_41 : decode bSu_endOperation 41 = .ok (.putfield 45, 3) := by decide +kernel
theorem dSu_endOperation_44 : decode bSu_endOperation 44 = .ok (.aload_n 0, 1) := by decide +kernel
theorem dSu_endOperation_45 : decode bSu_endOperation 45 = .ok (.getfield 24, 3) := by decide +kernel
theorem dSu_endOperation_48 : decode bSu_endOperation 48 = .ok (.aload_n 0, 1) := by decide +kernel
theorem dSu_endOperation_49 : decode bSu_endOperation 49 = .ok (.getfield 42, 3) := by decide +kernel
theorem dSu_endOperation_52 : decode bSu_endOperation 52 = .ok (.iload_n 3, 1) := by decide +kernel
theorem dSu_endOperation_53 : decode bSu_endOperation 53 = .ok (.iastore, 1) := by decide +kernel
theorem dSu_endOperation_54 : decode bSu_endOperation 54 = .ok (.aload_n 0, 1) := by decide +kernel
theorem dSu_endOperation_55 : decode bSu_endOperation 55 = .ok (.getfield 28, 3) := by decide +kernel
theorem dSu_endOperation_58 : decode bSu_endOperation 58 = .ok (.aload_n 0, 1) := by decide +kernel
theorem dSu_endOperation_59 : decode bSu_endOperation 59 = .ok (.getfield 42, 3) := by decide +kernel
theorem dSu_endOperation_62 : decode bSu_endOperation 62 = .ok (.aload_n 0, 1) := by decide +kernel
theorem dSu_endOperation_63 : decode bSu_endOperation 63 = .ok (.getfield 39, 3) := by decide +kernel
theorem dSu_endOperation_66 : decode bSu_endOperation 66 = .ok (.iastore, 1) := by decide +kernel
theorem dSu_endOperation_67 : decode bSu_endOperation 67 = .ok (.aload_n 0, 1) := by decide +kernel
theorem dSu_endOperation_68 : decode bSu_endOperation 68 = .ok (.getfield 31, 3) := by decide +kernel
theorem dSu_endOperation_71 : decode bSu_endOperation 71 = .ok (.aload_n 0, 1) := by decide +kernel
theorem dSu_endOperation_72 : decode bSu_endOperation 72 = .ok (.getfield 42, 3) := by decide +kernel
theorem dSu_endOperation_75 : decode bSu_endOperation 75 = .ok (.aload_n 0, 1) := by decide +kernel
theorem dSu_endOperation_76 : decode bSu_endOperation 76 = .ok (.getfield 45, 3) := by decide +kernel
theorem dSu_endOperation_79 : decode bSu_endOperation 79 = .ok (.iastore, 1) := by decide +kernel
theorem dSu_endOperation_80 : decode bSu_endOperation 80 = .ok (.aload_n 0, 1) := by decide +kernel
theorem dSu_endOperation_81 : decode bSu_endOperation 81 = .ok (.dup, 1) := by decide +kernel
theorem dSu_endOperation_82 : decode bSu_endOperation 82 = .ok (.getfield 42, 3) := by decide +kernel
theorem dSu_endOperation_85 : decode bSu_endOperation 85 = .ok (.iconst 1, 1) := by decide +kernel
theorem dSu_endOperation_86 : decode bSu_endOperation 86 = .ok (.iadd, 1) := by decide +kernel
theorem dSu_endOperation_87 : decode bSu_endOperation 87 = .ok (.putfield 42, 3) := by decide +kernel
theorem dSu_endOperation_90 : decode bSu_endOperation 90 = .ok (.aload_n 0, 1) := by decide +kernel
theorem dSu_endOperation_91 : decode bSu_endOperation 91 = .ok (.invokevirtual 54, 3) := by decide +kernel
theorem dSu_endOperation_94 : decode bSu_endOperation 94 = .ok (.return_, 1) := by decide +kernel
theorem dSu_learnOwn_0 : decode bSu_learnOwn 0 = .ok (.aload_n 0, 1) := by decide +kernel
theorem dSu_learnOwn_1 : decode bSu_learnOwn 1 = .ok (.getfield 61, 3) := by decide +kernel
theorem dSu_learnOwn_4 : decode bSu_learnOwn 4 = .ok (.ifCond .eq 4, 3) := by decide +kernel
theorem dSu_learnOwn_7 : decode bSu_learnOwn 7 = .ok (.return_, 1) := by decide +kernel
theorem dSu_learnOwn_8 : decode bSu_learnOwn 8 = .ok (.aload_n 0, 1) := by decide +kernel
theorem dSu_learnOwn_9 : decode bSu_learnOwn 9 = .ok (.iconst 1, 1) := by decide +kernel
theorem dSu_learnOwn_10 : decode bSu_learnOwn 10 = .ok (.putfield 61, 3) := by decide +kernel
theorem dSu_learnOwn_13 : decode bSu_learnOwn 13 = .ok (.aload_n 1, 1) := by decide +kernel
theorem dSu_learnOwn_14 : decode bSu_learnOwn 14 = .ok (.aload_n 0, 1) := by decide +kernel
theorem dSu_learnOwn_15 : decode bSu_learnOwn 15 = .ok (.aload_n 0, 1) := by decide +kernel
theorem dSu_learnOwn_16 : decode bSu_learnOwn 16 = .ok (.getfield 39, 3) := by decide +kernel
theorem dSu_learnOwn_19 : decode bSu_learnOwn 19 = .ok (.aload_n 0, 1) := by decide +kernel
theorem dSu_learnOwn_20 : decode bSu_learnOwn 20 = .ok (.getfield 45, 3) := by decide +kernel
theorem dSu_learnOwn_23 : decode bSu_learnOwn 23 = .ok (.iconst 1, 1) := by decide +kernel
theorem dSu_learnOwn_24 : decode bSu_learnOwn 24 = .ok (.invokevirtual 99, 3) := by decide +kernel
theorem dSu_learnOwn_27 : decode bSu_learnOwn 27 = .ok (.ifCond .eq 24, 3) := by decide +kernel
theorem dSu_learnOwn_30 : decode bSu_learnOwn 30 = .ok (.aload_n 0, 1) := by decide +kernel
theorem dSu_learnOwn_31 : decode bSu_learnOwn 31 = .ok (.aload_n 1, 1) := by decide +kernel
theorem dSu_learnOwn_32 : decode bSu_learnOwn 32 = .ok (.invokevirtual 113, 3) := by decide +kernel
theorem dSu_learnOwn_35 : decode bSu_learnOwn 35 = .ok (.lconst 0, 1) := by decide +kernel
theorem dSu_learnOwn_36 : decode bSu_learnOwn 36 = .ok (.lcmp, 1) := by decide +kernel
theorem dSu_learnOwn_37 : decode bSu_learnOwn 37 = .ok (.ifCond .le 7, 3) := by decide +kernel
theorem dSu_learnOwn_40 : decode bSu_learnOwn 40 = .ok (.iconst 1, 1) := by decide +kernel
theorem dSu_learnOwn_41 : decode bSu_learnOwn 41 = .ok (.goto 4, 3) := by decide +kernel
theorem dSu_learnOwn_44 : decode bSu_learnOwn 44 = .ok (.iconst 0, 1) := by decide +kernel
theorem dSu_learnOwn_45 : decode bSu_learnOwn 45 = .ok (.putfield 133, 3) := by decide +kernel
theorem dSu_learnOwn_48 : decode bSu_learnOwn 48 = .ok (.goto 9, 3) := by decide +kernel
theorem dSu_learnOwn_51 : decode bSu_learnOwn 51 = .ok (.aload_n 0, 1) := by decide +kernel
theorem dSu_learnOwn_52 : decode bSu_learnOwn 52 = .ok (.bipush (-2), 2) := by decide +kernel
theorem dSu_learnOwn_54 : decode bSu_learnOwn 54 = .ok (.putfield 133, 3) := by decide +kernel
theorem dSu_learnOwn_57 : decode bSu_learnOwn 57 = .ok (.return_, 1) := by decide +kernel
