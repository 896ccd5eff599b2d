theorem dLH_init_0 : decode bLH_init 0 = .ok (.aload_n 0, 1) := by decide +kernel
theorem dLH_init_1 : decode bLH_init 1 = .ok (.invokespecial 1, 3) := by decide +kernel
theorem dLH_init_4 : decode bLH_init 4 = .ok (.aload_n 0, 1) := by decide +kernel
theorem dLH_init_5 : decode bLH_init 5 = .ok (.bipush 6, 2) := by decide +kernel
theorem dLH_init_7 : decode bLH_init 7 = .ok (.anewarray 9, 3) := by decide +kernel
theorem dLH_init_10 : decode bLH_init 10 = .ok (.putfield 11, 3) := by decide +kernel
theorem dLH_init_13 : decode bLH_init 13 = .ok (.aload_n 0, 1) := by decide +kernel
theorem dLH_init_14 : decode bLH_init 14 = .ok (.bipush 48, 2) := by decide +kernel
theorem dLH_init_16 : decode bLH_init 16 = .ok (.newarray .int, 2) := by decide +kernel
theorem dLH_init_18 : decode bLH_init 18 = .ok (.putfield 15, 3) := by decide +kernel
theorem dLH_init_21 : decode bLH_init 21 = .ok (.aload_n 0, 1) := by decide +kernel
theorem dLH_init_22 : decode bLH_init 22 = .ok (.bipush 48, 2) := by decide +kernel
theorem dLH_init_24 : decode bLH_init 24 = .ok (.newarray .int, 2) := by decide +kernel
theorem dLH_init_26 : decode bLH_init 26 = .ok (.putfield 19, 3) := by decide +kernel
theorem dLH_init_29 : decode bLH_init 29 = .ok (.aload_n 0, 1) := by decide +kernel
theorem dLH_init_30 : decode bLH_init 30 = .ok (.bipush 48, 2) := by decide +kernel
theorem dLH_init_32 : decode bLH_init 32 = .ok (.newarray .long, 2) := by decide +kernel
theorem dLH_init_34 : decode bLH_init 34 = .ok (.putfield 22, 3) := by decide +kernel
theorem dLH_init_37 : decode bLH_init 37 = .ok (.aload_n 0, 1) := by decide +kernel
theorem dLH_init_38 : decode bLH_init 38 = .ok (.bipush 8, 2) := by decide +kernel
theorem dLH_init_40 : decode bLH_init 40 = .ok (.newarray .int, 2) := by decide +kernel
theorem dLH_init_42 : decode bLH_init 42 = .ok (.putfield 26, 3) := by decide +kernel
theorem dLH_init_45 : decode bLH_init 45 = .ok (.aload_n 0, 1) := by decide +kernel
theorem dLH_init_46 : decode bLH_init 46 = .ok (.new 29, 3) := by decide +kernel
theorem dLH_init_49 : decode bLH_init 49 = .ok (.dup, 1) := by decide +kernel
theorem dLH_init_50 : decode bLH_init 50 = .ok (.invokespecial 31, 3) := by decide +kernel
theorem dLH_init_53 : decode bLH_init 53 = .ok (.putfield 32, 3) := by decide +kernel
theorem dLH_init_56 : decode bLH_init 56 = .ok (.aload_n 0, 1) := by decide +kernel
theorem dLH_init_57 : decode bLH_init 57 = .ok (.bipush 48, 2) := by decide +kernel
theorem dLH_init_59 : decode bLH_init 59 = .ok (.newarray .int, 2) := by decide +kernel
theorem dLH_init_61 : decode bLH_init 61 = .ok (.putfield 36, 3) := by decide +kernel
theorem dLH_init_64 : decode bLH_init 64 = .ok (.aload_n 0, 1) := by decide +kernel
theorem dLH_init_65 : decode bLH_init 65 = .ok (.bipush 48, 2) := by decide +kernel
theorem dLH_init_67 : decode bLH_init 67 = .ok (.newarray .int, 2) := by decide +kernel
theorem dLH_init_69 : decode bLH_init 69 = .ok (.putfield 39, 3) := by decide +kernel
theorem dLH_init_72 : decode bLH_init 72 = .ok (.aload_n 0, 1) := by decide +kernel
theorem dLH_init_73 : decode bLH_init 73 = .ok (.bipush 6, 2) := by decide +kernel
theorem dLH_init_75 : decode bLH_init 75 = .ok (.newarray .int, 2) := by decide +kernel
theorem dLH_init_77 : decode bLH_init 77 = .ok (.putfield 42, 3) := by decide +kernel
theorem dLH_init_80 : decode bLH_init 80 = .ok (.aload_n 0, 1) := by decide +kernel
theorem dLH_init_81 : decode bLH_init 81 = .ok (.getfield 26, 3) := by decide +kernel
theorem dLH_init_84 : decode bLH_init 84 = .ok (.iconst (-1), 1) := by decide +kernel
theorem dLH_init_85 : decode bLH_init 85 = .ok (.invokestatic 45, 3) := by decide +kernel
theorem dLH_init_88 : decode bLH_init 88 = .ok (.return_, 1) := by decide +kernel
theorem dLH_clear_0 : decode bLH_clear 0 = .ok (.aload_n 0, 1) := by decide +kernel
theorem dLH_clear_1 : decode bLH_clear 1 = .ok (.getfield 103, 3) := by decide +kernel
theorem dLH_clear_4 : decode bLH_clear 4 = .ok (.istore_n 1, 1) := by decide +kernel
theorem dLH_clear_5 : decode bLH_clear 5 = .ok (.aload_n 0, 1) := by decide +kernel
theorem dLH_clear_6 : decode bLH_clear 6 = .ok (.getfield 26, 3) := by decide +kernel
theorem dLH_clear_9 : decode bLH_clear 9 = .ok (.iconst (-1), 1) := by decide +kernel
theorem dLH_clear_10 : decode bLH_clear 10 = .ok (.invokestatic 45, 3) := by decide +kernel
theorem dLH_clear_13 : decode bLH_clear 13 = .ok (.aload_n 0, 1) := by decide +kernel
theorem dLH_clear_14 : decode bLH_clear 14 = .ok (.iconst 0, 1) := by decide +kernel
theorem dLH_clear_15 : decode bLH_clear 15 = .ok (.putfield 58, 3) := by decide +kernel
theorem dLH_clear_18 : decode bLH_clear 18 = .ok (.aload_n 0, 1) := by decide +kernel
theorem dLH_clear_19 : decode bLH_clear 19 = .ok (.iconst 0, 1) := by decide +kernel
theorem dLH_clear_20 : decode bLH_clear 20 = .ok (.putfield 89, 3) := by decide +kernel
theorem dLH_clear_23 : decode bLH_clear 23 = .ok (.aload_n 0, 1) := by decide +kernel
theorem dLH_clear_24 : decode bLH_clear 24 = .ok (.iconst 0, 1) := by decide +kernel
theorem dLH_clear_25 : decode bLH_clear 25 = .ok (.putfield 103, 3) := by decide +kernel
theorem dLH_clear_28 : decode bLH_clear 28 = .ok (.aload_n 0, 1) := by decide +kernel
theorem dLH_clear_29 : decode bLH_clear 29 = .ok (.lconst 0, 1) := by decide +kernel
theorem dLH_clear_30 : decode bLH_clear 30 = .ok (.putfield 95, 3) := by decide +kernel
theorem dLH_clear_33 : decode bLH_clear 33 = .ok (.aload_n 0, 1) := by decide +kernel
theorem dLH_clear_34 : decode bLH_clear 34 = .ok (.iconst 0, 1) := by decide +kernel
theorem dLH_clear_35 : decode bLH_clear 35 = .ok (.putfield 67, 3) := by decide +kernel
theorem dLH_clear_38 : decode bLH_clear 38 = .ok (.iload_n 1, 1) := by decide +kernel
theorem dLH_clear_39 : decode bLH_clear 39 = .ok (.ireturn, 1) := by decide +kernel
theorem dLH_events_0 : decode bLH_events 0 = .ok (.aload_n 0, 1) := by decide +kernel
theorem dLH_events_1 : decode bLH_events 1 = .ok (.getfield 103, 3) := by decide +kernel
theorem dLH_events_4 : decode bLH_events 4 = .ok (.ireturn, 1) := by decide +kernel
theorem dLH_linear_0 : decode bLH_linear 0 = .ok (.iconst 1, 1) := by decide +kernel
theorem dLH_linear_1 : decode bLH_linear 1 = .ok (.istore_n 1, 1) := by decide +kernel
theorem dLH_linear_2 : decode bLH_linear 2 = .ok (.iconst 0, 1) := by decide +kernel
theorem dLH_linear_3 : decode bLH_linear 3 = .ok (.istore_n 2, 1) := by decide +kernel
theorem dLH_linear_4 : decode bLH_linear 4 = .ok (.iload_n 2, 1) := by decide +kernel
theorem dLH_linear_5 : decode bLH_linear 5 = .ok (.aload_n 0, 1) := by decide +kernel
theorem dLH_linear_6 : decode bLH_linear 6 = .ok (.getfield 58, 3) := by decide +kernel
theorem dLH_linear_9 : decode bLH_linear 9 = .ok (.if_icmp .ge 44, 3) := by decide +kernel
theorem dLH_linear_12 : decode bLH_linear 12 = .ok (.aload_n 0, 1) := by decide +kernel
theorem dLH_linear_13 : decode bLH_linear 13 = .ok (.iload_n 2, 1) := by decide +kernel
theorem dLH_linear_14 : decode bLH_linear 14 = .ok (.invokevirtual 74, 3) := by decide +kernel
theorem dLH_linear_17 : decode bLH_linear 17 = .ok (.astore_n 3, 1) := by decide +kernel
theorem dLH_linear_18 : decode bLH_linear 18 = .ok (.aload_n 3, 1) := by decide +kernel
theorem dLH_linear_19 : decode bLH_linear 19 = .ok (.aload_n 0, 1) := by decide +kernel
theorem dLH_linear_20 : decode bLH_linear 20 = .ok (.getfield 32, 3) := by decide +kernel
theorem dLH_linear_23 : decode bLH_linear 23 = .ok (.invokevirtual 142, 3) := by decide +kernel
theorem dLH_linear_26 : decode bLH_linear 26 = .ok (.aload_n 3, 1) := by decide +kernel
theorem dLH_linear_27 : decode bLH_linear 27 = .ok (.getfield 120, 3) := by decide +kernel
theorem dLH_linear_30 : decode bLH_linear 30 = .ok (.ifCond .ne 5, 3) := by decide +kernel
theorem dLH_linear_33 : decode bLH_linear 33 = .ok (.iconst 0, 1) := by decide +kernel
theorem dLH_linear_34 : decode bLH_linear 34 = .ok (.ireturn, 1) := by decide +kernel
theorem dLH_linear_35 : decode bLH_linear 35 = .ok (.aload_n 3, 1) := by decide +kernel
theorem dLH_linear_36 : decode bLH_linear 36 = .ok (.getfield 120, 3) := by decide +kernel
theorem dLH_linear_39 : decode bLH_linear 39 = .ok (.bipush (-2), 2) := by decide +kernel
theorem dLH_linear_41 : decode bLH_linear 41 = .ok (.if_icmp .ne 6, 3) := by decide +kernel
theorem dLH_linear_44 : decode bLH_linear 44 = .ok (.bipush (-2), 2) := by decide +kernel
theorem dLH_linear_46 : decode bLH_linear 46 = .ok (.istore_n 1, 1) := by decide +kernel
theorem dLH_linear_47 : decode bLH_linear 47 = .ok (.iinc 2 1, 3) := by decide +kernel
theorem dLH_linear_50 : decode bLH_linear 50 = .ok (.goto (-46), 3) := by decide +kernel
theorem dLH_linear_53 : decode bLH_linear 53 = .ok (.iload_n 1, 1) := by decide +kernel
theorem dLH_linear_54 : decode bLH_linear 54 = .ok (.ireturn, 1) := by decide +kernel
theorem dLH_subjectOf_0 : decode bLH_subjectOf 0 = .ok (.iload_n 1, 1) := by decide +kernel
theorem dLH_subjectOf_1 : decode bLH_subjectOf 1 = .ok (.ifCond .lt 20, 3) := by decide +kernel
theorem dLH_subjectOf_4 : decode bLH_subjectOf 4 = .ok (.iload_n 1, 1) := by decide +kernel
theorem dLH_subjectOf_5 : decode bLH_subjectOf 5 = .ok (.aload_n 0, 1) := by decide +kernel
theorem dLH_subjectOf_6 : decode bLH_subjectOf 6 = .ok (.getfield 58, 3) := by decide +kernel
theorem dLH_subjectOf_9 : decode bLH_subjectOf 9 = .ok (.if_icmp .ge 12, 3) := by decide +kernel
theorem dLH_subjectOf_12 : decode bLH_subjectOf 12 = .ok (.aload_n 0, 1) := by decide +kernel
theorem dLH_subjectOf_13 : decode bLH_subjectOf 13 = .ok (.getfield 11, 3) := by decide +kernel
theorem dLH_subjectOf_16 : decode bLH_subjectOf 16 = .ok (.iload_n 1, 1) := by decide +kernel
theorem dLH_subjectOf_17 : decode bLH_subjectOf 17 = .ok (.aaload, 1) := by decide +kernel
theorem dLH_subjectOf_18 : decode bLH_subjectOf 18 = .ok (.ifnonnull 13, 3) := by decide +kernel
theorem dLH_subjectOf_21 : decode bLH_subjectOf 21 = .ok (.new 51, 3) := by decide +kernel
theorem dLH_subjectOf_24 : decode bLH_subjectOf 24 = .ok (.dup, 1) := by decide +kernel
theorem dLH_subjectOf_25 : decode bLH_subjectOf 25 = .ok (.ldc 171, 2) := by decide +kernel
theorem dLH_subjectOf_27 : decode bLH_subjectOf 27 = .ok (.invokespecial 55, 3) := by decide +kernel
theorem dLH_subjectOf_30 : decode bLH_subjectOf 30 = .ok (.athrow, 1) := by decide +kernel
theorem dLH_subjectOf_31 : decode bLH_subjectOf 31 = .ok (.aload_n 0, 1) := by decide +kernel
theorem dLH_subjectOf_32 : decode bLH_subjectOf 32 = .ok (.getfield 11, 3) := by decide +kernel
theorem dLH_subjectOf_35 : decode bLH_subjectOf 35 = .ok (.iload_n 1, 1) := by decide +kernel
theorem dLH_subjectOf_36 : decode bLH_subjectOf 36 = .ok (.aaload, 1) := by decide +kernel
theorem dLH_subjectOf_37 : decode bLH_subjectOf 37 = .ok (.areturn, 1) := by decide +kernel
theorem dLH_object_0 : decode bLH_object 0 = .ok (.iload_n 1, 1) := by decide +kernel
theorem dLH_object_1 : decode bLH_object 1 = .ok (.ifCond .lt 8, 3) := by decide +kernel
theorem dLH_object_4 : decode bLH_object 4 = .ok (.iload_n 1, 1) := by decide +kernel
theorem dLH_object_5 : decode bLH_object 5 = .ok (.iconst 5, 1) := by decide +kernel
theorem dLH_object_6 : decode bLH_object 6 = .ok (.if_icmp .le 13, 3) := by decide +kernel
theorem dLH_object_9 : decode bLH_object 9 = .ok (.new 51, 3) := by decide +kernel
theorem dLH_object_12 : decode bLH_object 12 = .ok (.dup, 1) := by decide +kernel
theorem dLH_object_13 : decode bLH_object 13 = .ok (.ldc 53, 2) := by decide +kernel
theorem dLH_object_15 : decode bLH_object 15 = .ok (.invokespecial 55, 3) := by decide +kernel
theorem dLH_object_18 : decode bLH_object 18 = .ok (.athrow, 1) := by decide +kernel
theorem dLH_object_19 : decode bLH_object 19 = .ok (.aload_n 0, 1) := by decide +kernel
theorem dLH_object_20 : decode bLH_object 20 = .ok (.getfield 58, 3) := by decide +kernel
theorem dLH_object_23 : decode bLH_object 23 = .ok (.bipush 6, 2) := by decide +kernel
theorem dLH_object_25 : decode bLH_object 25 = .ok (.if_icmp .lt 5, 3) := by decide +kernel
theorem dLH_object_28 : decode bLH_object 28 = .ok (.iconst (-1), 1) := by decide +kernel
theorem dLH_object_29 : decode bLH_object 29 = .ok (.ireturn, 1) := by decide +kernel
theorem dLH_object_30 : decode bLH_object 30 = .ok (.aload_n 0, 1) := by decide +kernel
theorem dLH_object_31 : decode bLH_object 31 = .ok (.getfield 11, 3) := by decide +kernel
theorem dLH_object_34 : decode bLH_object 34 = .ok (.aload_n 0, 1) := by decide +kernel
theorem dLH_object_35 : decode bLH_object 35 = .ok (.getfield 58, 3) := by decide +kernel
theorem dLH_object_38 : decode bLH_object 38 = .ok (.aaload, 1) := by decide +kernel
theorem dLH_object_39 : decode bLH_object 39 = .ok (.astore_n 2, 1) := by decide +kernel
theorem dLH_object_40 : decode bLH_object 40 = .ok (.aload_n 2, 1) := by decide +kernel
theorem dLH_object_41 : decode bLH_object 41 = .ok (.ifnonnull 21, 3) := by decide +kernel
theorem dLH_object_44 : decode bLH_object 44 = .ok (.new 9, 3) := by decide +kernel
theorem dLH_object_47 : decode bLH_object 47 = .ok (.dup, 1) := by decide +kernel
theorem dLH_object_48 : decode bLH_object 48 = .ok (.invokespecial 62, 3) := by decide +kernel
theorem dLH_object_51 : decode bLH_object 51 = .ok (.astore_n 2, 1) := by decide +kernel
theorem dLH_object_52 : decode bLH_object 52 = .ok (.aload_n 0, 1) := by decide +kernel
theorem dLH_object_53 : decode bLH_object 53 = .ok (.getfield 11, 3) := by decide +kernel
theorem dLH_object_56 : decode bLH_object 56 = .ok (.aload_n 0, 1) := by decide +kernel
theorem dLH_object_57 : decode bLH_object 57 = .ok (.getfield 58, 3) := by decide +kernel
theorem dLH_object_60 : decode bLH_object 60 = .ok (.aload_n 2, 1) := by decide +kernel
theorem dLH_object_61 : decode bLH_object 61 = .ok (.aastore, 1) := by decide +kernel
theorem dLH_object_62 : decode bLH_object 62 = .ok (.aload_n 2, 1) := by decide +kernel
theorem dLH_object_63 : decode bLH_object 63 = .ok (.iload_n 1, 1) := by decide +kernel
theorem dLH_object_64 : decode bLH_object 64 = .ok (.invokevirtual 63, 3) := by decide +kernel
theorem dLH_object_67 : decode bLH_object 67 = .ok (.aload_n 0, 1) := by decide +kernel
theorem dLH_object_68 : decode bLH_object 68 = .ok (.iconst 0, 1) := by decide +kernel
theorem dLH_object_69 : decode bLH_object 69 = .ok (.putfield 67, 3) := by decide +kernel
theorem dLH_object_72 : decode bLH_object 72 = .ok (.aload_n 0, 1) := by decide +kernel
theorem dLH_object_73 : decode bLH_object 73 = .ok (.dup, 1) := by decide +kernel
theorem dLH_object_74 : decode bLH_object 74 = .ok (.getfield 58, 3) := by decide +kernel
theorem dLH_object_77 : decode bLH_object 77 = .ok (.iconst 1, 1) := by decide +kernel
theorem dLH_object_78 : decode bLH_object 78 = .ok (.iadd, 1) := by decide +kernel
theorem dLH_object_79 : decode bLH_object 79 = .ok (.putfield 58, 3) := by decide +kernel
theorem dLH_object_82 : decode bLH_object 82 = .ok (.aload_n 0, 1) := by decide +kernel
theorem dLH_object_83 : decode bLH_object 83 = .ok (.getfield 58, 3) := by decide +kernel
theorem dLH_object_86 : decode bLH_object 86 = .ok (.iconst 1, 1) := by decide +kernel
theorem dLH_object_87 : decode bLH_object 87 = .ok (.isub, 1) := by decide +kernel
theorem dLH_object_88 : decode bLH_object 88 = .ok (.ireturn, 1) := by decide +kernel
theorem dLH_call_0 : decode bLH_call 0 = .ok (.aload_n 0, 1) := by decide +kernel
theorem dLH_call_1 : decode bLH_call 1 = .ok (.iload_n 1, 1) := by decide +kernel
theorem dLH_call_2 : decode bLH_call 2 = .ok (.invokevirtual 71, 3) := by decide +kernel
theorem dLH_call_5 : decode bLH_call 5 = .ok (.aload_n 0, 1) := by decide +kernel
theorem dLH_call_6 : decode bLH_call 6 = .ok (.iload_n 2, 1) := by decide +kernel
theorem dLH_call_7 : decode bLH_call 7 = .ok (.invokevirtual 74, 3) := by decide +kernel
theorem dLH_call_10 : decode bLH_call 10 = .ok (.astore 6, 2) := by decide +kernel
theorem dLH_call_12 : decode bLH_call 12 = .ok (.iload_n 3, 1) := by decide +kernel
theorem dLH_call_13 : decode bLH_call 13 = .ok (.ifCond .lt 12, 3) := by decide +kernel
theorem dLH_call_16 : decode bLH_call 16 = .ok (.iload_n 3, 1) := by decide +kernel
theorem dLH_call_17 : decode bLH_call 17 = .ok (.aload 6, 2) := by decide +kernel
theorem dLH_call_19 : decode bLH_call 19 = .ok (.invokevirtual 78, 3) := by decide +kernel
theorem dLH_call_22 : decode bLH_call 22 = .ok (.if_icmp .lt 13, 3) := by decide +kernel
theorem dLH_call_25 : decode bLH_call 25 = .ok (.new 51, 3) := by decide +kernel
theorem dLH_call_28 : decode bLH_call 28 = .ok (.dup, 1) := by decide +kernel
theorem dLH_call_29 : decode bLH_call 29 = .ok (.ldc 82, 2) := by decide +kernel
theorem dLH_call_31 : decode bLH_call 31 = .ok (.invokespecial 55, 3) := by decide +kernel
theorem dLH_call_34 : decode bLH_call 34 = .ok (.athrow, 1) := by decide +kernel
theorem dLH_call_35 : decode bLH_call 35 = .ok (.aload_n 0, 1) := by decide +kernel
theorem dLH_call_36 : decode bLH_call 36 = .ok (.getfield 26, 3) := by decide +kernel
theorem dLH_call_39 : decode bLH_call 39 = .ok (.iload_n 1, 1) := by decide +kernel
theorem dLH_call_40 : decode bLH_call 40 = .ok (.iaload, 1) := by decide +kernel
theorem dLH_call_41 : decode bLH_call 41 = .ok (.iconst (-1), 1) := by decide +kernel
theorem dLH_call_42 : decode bLH_call 42 = .ok (.if_icmp .eq 13, 3) := by decide +kernel
theorem dLH_call_45 : decode bLH_call 45 = .ok (.new 84, 3) := by decide +kernel
theorem dLH_call_48 : decode bLH_call 48 = .ok (.dup, 1) := by decide +kernel
theorem dLH_call_49 : decode bLH_call 49 = .ok (.ldc 86, 2) := by decide +kernel
theorem dLH_call_51 : decode bLH_call 51 = .ok (.invokespecial 88, 3) := by decide +kernel
theorem dLH_call_54 : decode bLH_call 54 = .ok (.athrow, 1) := by decide +kernel
theorem dLH_call_55 : decode bLH_call 55 = .ok (.aload_n 0, 1) := by decide +kernel
theorem dLH_call_56 : decode bLH_call 56 = .ok (.getfield 89, 3) := by decide +kernel
theorem dLH_call_59 : decode bLH_call 59 = .ok (.bipush 48, 2) := by decide +kernel
theorem dLH_call_61 : decode bLH_call 61 = .ok (.if_icmp .ge 13, 3) := by decide +kernel
theorem dLH_call_64 : decode bLH_call 64 = .ok (.aload 6, 2) := by decide +kernel
theorem dLH_call_66 : decode bLH_call 66 = .ok (.getfield 92, 3) := by decide +kernel
theorem dLH_call_69 : decode bLH_call 69 = .ok (.bipush 16, 2) := by decide +kernel
theorem dLH_call_71 : decode bLH_call 71 = .ok (.if_icmp .lt 5, 3) := by decide +kernel
theorem dLH_call_74 : decode bLH_call 74 = .ok (.iconst (-1), 1) := by decide +kernel
theorem dLH_call_75 : decode bLH_call 75 = .ok (.ireturn, 1) := by decide +kernel
theorem dLH_call_76 : decode bLH_call 76 = .ok (.aload_n 0, 1) := by decide +kernel
theorem dLH_call_77 : decode bLH_call 77 = .ok (.getfield 89, 3) := by decide +kernel
theorem dLH_call_80 : decode bLH_call 80 = .ok (.istore 7, 2) := by decide +kernel
theorem dLH_call_82 : decode bLH_call 82 = .ok (.aload_n 0, 1) := by decide +kernel
theorem dLH_call_83 : decode bLH_call 83 = .ok (.getfield 15, 3) := by decide +kernel
theorem dLH_call_86 : decode bLH_call 86 = .ok (.iload 7, 2) := by decide +kernel
theorem dLH_call_88 : decode bLH_call 88 = .ok (.iload_n 2, 1) := by decide +kernel
theorem dLH_call_89 : decode bLH_call 89 = .ok (.iastore, 1) := by decide +kernel
theorem dLH_call_90 : decode bLH_call 90 = .ok (.aload_n 0, 1) := by decide +kernel
theorem dLH_call_91 : decode bLH_call 91 = .ok (.getfield 19, 3) := by decide +kernel
theorem dLH_call_94 : decode bLH_call 94 = .ok (.iload 7, 2) := by decide +kernel
theorem dLH_call_96 : decode bLH_call 96 = .ok (.aload 6, 2) := by decide +kernel
theorem dLH_call_98 : decode bLH_call 98 = .ok (.getfield 92, 3) := by decide +kernel
theorem dLH_call_101 : decode bLH_call 101 = .ok (.iastore, 1) := by decide +kernel
theorem dLH_call_102 : decode bLH_call 102 = .ok (.aload_n 0, 1) := by decide +kernel
theorem dLH_call_103 : decode bLH_call 103 = .ok (.getfield 22, 3) := by decide +kernel
theorem dLH_call_106 : decode bLH_call 106 = .ok (.iload 7, 2) := by decide +kernel
theorem dLH_call_108 : decode bLH_call 108 = .ok (.aload_n 0, 1) := by decide +kernel
theorem dLH_call_109 : decode bLH_call 109 = .ok (.getfield 95, 3) := by decide +kernel
theorem dLH_call_112 : decode bLH_call 112 = .ok (.lastore, 1) := by decide +kernel
theorem dLH_call_113 : decode bLH_call 113 = .ok (.aload_n 0, 1) := by decide +kernel
theorem dLH_call_114 : decode bLH_call 114 = .ok (.getfield 26, 3) := by decide +kernel
theorem dLH_call_117 : decode bLH_call 117 = .ok (.iload_n 1, 1) := by decide +kernel
theorem dLH_call_118 : decode bLH_call 118 = .ok (.iload 7, 2) := by decide +kernel
theorem dLH_call_120 : decode bLH_call 120 = .ok (.iastore, 1) := by decide +kernel
theorem dLH_call_121 : decode bLH_call 121 = .ok (.aload 6, 2) := by decide +kernel
theorem dLH_call_123 : decode bLH_call 123 = .ok (.iload_n 1, 1) := by decide +kernel
theorem dLH_call_124 : decode bLH_call 124 = .ok (.iload_n 3, 1) := by decide +kernel
theorem dLH_call_125 : decode bLH_call 125 = .ok (.iload 4, 2) := by decide +kernel
theorem dLH_call_127 : decode bLH_call 127 = .ok (.iload 5, 2) := by decide +kernel
theorem dLH_call_129 : decode bLH_call 129 = .ok (.invokevirtual 99, 3) := by decide +kernel
theorem dLH_call_132 : decode bLH_call 132 = .ok (.aload_n 0, 1) := by decide +kernel
theorem dLH_call_133 : decode bLH_call 133 = .ok (.iconst 0, 1) := by decide +kernel
theorem dLH_call_134 : decode bLH_call 134 = .ok (.putfield 67, 3) := by decide +kernel
theorem dLH_call_137 : decode bLH_call 137 = .ok (.aload_n 0, 1) := by decide +kernel
theorem dLH_call_138 : decode bLH_call 138 = .ok (.dup, 1) := by decide +kernel
theorem dLH_call_139 : decode bLH_call 139 = .ok (.getfield 89, 3) := by decide +kernel
theorem dLH_call_142 : decode bLH_call 142 = .ok (.iconst 1, 1) := by decide +kernel
theorem dLH_call_143 : decode bLH_call 143 = .ok (.iadd, 1) := by decide +kernel
theorem dLH_call_144 : decode bLH_call 144 = .ok (.putfield 89, 3) := by decide +kernel
theorem dLH_call_147 : decode bLH_call 147 = .ok (.aload_n 0, 1) := by decide +kernel
theorem dLH_call_148 : decode bLH_call 148 = .ok (.dup, 1) := by decide +kernel
theorem dLH_call_149 : decode bLH_call 149 = .ok (.getfield 103, 3) := by decide +kernel
theorem dLH_call_152 : decode bLH_call 152 = .ok (.iconst 1, 1) := by decide +kernel
theorem dLH_call_153 : decode bLH_call 153 = .ok (.iadd, 1) := by decide +kernel
theorem dLH_call_154 : decode bLH_call 154 = .ok (.putfield 103, 3) := by decide +kernel
theorem dLH_call_157 : decode bLH_call 157 = .ok (.iload 7, 2) := by decide +kernel
theorem dLH_call_159 : decode bLH_call 159 = .ok (.ireturn, 1) := by decide +kernel
theorem dLH_checkProcess_0 : decode bLH_checkProcess 0 = .ok (.iload_n 1, 1) := by decide +kernel
theorem dLH_checkProcess_1 : decode bLH_checkProcess 1 = .ok (.ifCond .lt 9, 3) := by decide +kernel
theorem dLH_checkProcess_4 : decode bLH_checkProcess 4 = .ok (.iload_n 1, 1) := by decide +kernel
theorem dLH_checkProcess_5 : decode bLH_checkProcess 5 = .ok (.bipush 8, 2) := by decide +kernel
theorem dLH_checkProcess_7 : decode bLH_checkProcess 7 = .ok (.if_icmp .lt 13, 3) := by decide +kernel
theorem dLH_checkProcess_10 : decode bLH_checkProcess 10 = .ok (.new 51, 3) := by decide +kernel
theorem dLH_checkProcess_13 : decode bLH_checkProcess 13 = .ok (.dup, 1) := by decide +kernel
theorem dLH_checkProcess_14 : decode bLH_checkProcess 14 = .ok (.ldc 167, 2) := by decide +kernel
theorem dLH_checkProcess_16 : decode bLH_checkProcess 16 = .ok (.invokespecial 55, 3) := by decide +kernel
theorem dLH_checkProcess_19 : decode bLH_checkProcess 19 = .ok (.athrow, 1) := by decide +kernel
theorem dLH_checkProcess_20 : decode bLH_checkProcess 20 = .ok (.return_, 1) := by decide +kernel
theorem dLH_back_0 : decode bLH_back 0 = .ok (.aload_n 0, 1) := by decide +kernel
theorem dLH_back_1 : decode bLH_back 1 = .ok (.iload_n 1, 1) := by decide +kernel
theorem dLH_back_2 : decode bLH_back 2 = .ok (.invokevirtual 106, 3) := by decide +kernel
theorem dLH_back_5 : decode bLH_back 5 = .ok (.istore_n 3, 1) := by decide +kernel
theorem dLH_back_6 : decode bLH_back 6 = .ok (.aload_n 0, 1) := by decide +kernel
theorem dLH_back_7 : decode bLH_back 7 = .ok (.getfield 26, 3) := by decide +kernel
theorem dLH_back_10 : decode bLH_back 10 = .ok (.iload_n 1, 1) := by decide +kernel
theorem dLH_back_11 : decode bLH_back 11 = .ok (.iconst (-1), 1) := by decide +kernel
theorem dLH_back_12 : decode bLH_back 12 = .ok (.iastore, 1) := by decide +kernel
theorem dLH_back_13 : decode bLH_back 13 = .ok (.aload_n 0, 1) := by decide +kernel
theorem dLH_back_14 : decode bLH_back 14 = .ok (.dup, 1) := by decide +kernel
theorem dLH_back_15 : decode bLH_back 15 = .ok (.getfield 95, 3) := by decide +kernel
theorem dLH_back_18 : decode bLH_back 18 = .ok (.lconst 1, 1) := by decide +kernel
theorem dLH_back_19 : decode bLH_back 19 = .ok (.iload_n 3, 1) := by decide +kernel
theorem dLH_back_20 : decode bLH_back 20 = .ok (.lshl, 1) := by decide +kernel
theorem dLH_back_21 : decode bLH_back 21 = .ok (.lor, 1) := by decide +kernel
theorem dLH_back_22 : decode bLH_back 22 = .ok (.putfield 95, 3) := by decide +kernel
theorem dLH_back_25 : decode bLH_back 25 = .ok (.aload_n 0, 1) := by decide +kernel
theorem dLH_back_26 : decode bLH_back 26 = .ok (.iconst 0, 1) := by decide +kernel
theorem dLH_back_27 : decode bLH_back 27 = .ok (.putfield 67, 3) := by decide +kernel
theorem dLH_back_30 : decode bLH_back 30 = .ok (.aload_n 0, 1) := by decide +kernel
theorem dLH_back_31 : decode bLH_back 31 = .ok (.dup, 1) := by decide +kernel
theorem dLH_back_32 : decode bLH_back 32 = .ok (.getfield 103, 3) := by decide +kernel
theorem dLH_back_35 : decode bLH_back 35 = .ok (.iconst 1, 1) := by decide +kernel
theorem dLH_back_36 : decode bLH_back 36 = .ok (.iadd, 1) := by decide +kernel
theorem dLH_back_37 : decode bLH_back 37 = .ok (.putfield 103, 3) := by decide +kernel
theorem dLH_back_40 : decode bLH_back 40 = .ok (.aload_n 0, 1) := by decide +kernel
theorem dLH_back_41 : decode bLH_back 41 = .ok (.aload_n 0, 1) := by decide +kernel
theorem dLH_back_42 : decode bLH_back 42 = .ok (.getfield 15, 3) := by decide +kernel
theorem dLH_back_45 : decode bLH_back 45 = .ok (.iload_n 3, 1) := by decide +kernel
theorem dLH_back_46 : decode bLH_back 46 = .ok (.iaload, 1) := by decide +kernel
theorem dLH_back_47 : decode bLH_back 47 = .ok (.invokevirtual 74, 3) := by decide +kernel
theorem dLH_back_50 : decode bLH_back 50 = .ok (.aload_n 0, 1) := by decide +kernel
theorem dLH_back_51 : decode bLH_back 51 = .ok (.getfield 19, 3) := by decide +kernel
theorem dLH_back_54 : decode bLH_back 54 = .ok (.iload_n 3, 1) := by decide +kernel
theorem dLH_back_55 : decode bLH_back 55 = .ok (.iaload, 1) := by decide +kernel
theorem dLH_back_56 : decode bLH_back 56 = .ok (.iload_n 2, 1) := by decide +kernel
theorem dLH_back_57 : decode bLH_back 57 = .ok (.aload_n 0, 1) := by decide +kernel
theorem dLH_back_58 : decode bLH_back 58 = .ok (.getfield 103, 3) := by decide +kernel
theorem dLH_back_61 : decode bLH_back 61 = .ok (.invokevirtual 110, 3) := by decide +kernel
theorem dLH_back_64 : decode bLH_back 64 = .ok (.return_, 1) := by decide +kernel
