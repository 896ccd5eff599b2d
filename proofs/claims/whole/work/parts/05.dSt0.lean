theorem dSt_init_0 : decode bSt_init 0 = .ok (.aload_n 0, 1) := by decide +kernel
theorem dSt_init_1 : decode bSt_init 1 = .ok (.invokespecial 3, 3) := by decide +kernel
theorem dSt_init_4 : decode bSt_init 4 = .ok (.return_, 1) := by decide +kernel
theorem dSt_become_0 : decode bSt_become 0 = .ok (.aload_n 0, 1) := by decide +kernel
theorem dSt_become_1 : decode bSt_become 1 = .ok (.lload_n 1, 1) := by decide +kernel
theorem dSt_become_2 : decode bSt_become 2 = .ok (.putfield 9, 3) := by decide +kernel
theorem dSt_become_5 : decode bSt_become 5 = .ok (.aload_n 0, 1) := by decide +kernel
theorem dSt_become_6 : decode bSt_become 6 = .ok (.iload_n 3, 1) := by decide +kernel
theorem dSt_become_7 : decode bSt_become 7 = .ok (.putfield 15, 3) := by decide +kernel
theorem dSt_become_10 : decode bSt_become 10 = .ok (.return_, 1) := by decide +kernel
theorem dSt_change_0 : decode bSt_change 0 = .ok (.iload_n 1, 1) := by decide +kernel
theorem dSt_change_1 : decode bSt_change 1 = .ok (.lookupswitch 72 #[(0, 35), (3, 47), (5, 59)], 35) := by decide +kernel
theorem dSt_change_36 : decode bSt_change 36 = .ok (.aload_n 0, 1) := by decide +kernel
theorem dSt_change_37 : decode bSt_change 37 = .ok (.aload_n 0, 1) := by decide +kernel
theorem dSt_change_38 : decode bSt_change 38 = .ok (.aload_n 2, 1) := by decide +kernel
theorem dSt_change_39 : decode bSt_change 39 = .ok (.invokevirtual 19, 3) := by decide +kernel
theorem dSt_change_42 : decode bSt_change 42 = .ok (.putfield 23, 3) := by decide +kernel
theorem dSt_change_45 : decode bSt_change 45 = .ok (.goto 39, 3) := by decide +kernel
theorem dSt_change_48 : decode bSt_change 48 = .ok (.aload_n 0, 1) := by decide +kernel
theorem dSt_change_49 : decode bSt_change 49 = .ok (.aload_n 0, 1) := by decide +kernel
theorem dSt_change_50 : decode bSt_change 50 = .ok (.aload_n 2, 1) := by decide +kernel
theorem dSt_change_51 : decode bSt_change 51 = .ok (.invokevirtual 26, 3) := by decide +kernel
theorem dSt_change_54 : decode bSt_change 54 = .ok (.putfield 23, 3) := by decide +kernel
theorem dSt_change_57 : decode bSt_change 57 = .ok (.goto 27, 3) := by decide +kernel
theorem dSt_change_60 : decode bSt_change 60 = .ok (.aload_n 0, 1) := by decide +kernel
theorem dSt_change_61 : decode bSt_change 61 = .ok (.aload_n 0, 1) := by decide +kernel
theorem dSt_change_62 : decode bSt_change 62 = .ok (.aload_n 2, 1) := by decide +kernel
theorem dSt_change_63 : decode bSt_change 63 = .ok (.aload_n 3, 1) := by decide +kernel
theorem dSt_change_64 : decode bSt_change 64 = .ok (.invokevirtual 29, 3) := by decide +kernel
theorem dSt_change_67 : decode bSt_change 67 = .ok (.putfield 23, 3) := by decide +kernel
theorem dSt_change_70 : decode bSt_change 70 = .ok (.goto 14, 3) := by decide +kernel
theorem dSt_change_73 : decode bSt_change 73 = .ok (.aload_n 0, 1) := by decide +kernel
theorem dSt_change_74 : decode bSt_change 74 = .ok (.aload_n 0, 1) := by decide +kernel
theorem dSt_change_75 : decode bSt_change 75 = .ok (.iload_n 1, 1) := by decide +kernel
theorem dSt_change_76 : decode bSt_change 76 = .ok (.aload_n 2, 1) := by decide +kernel
theorem dSt_change_77 : decode bSt_change 77 = .ok (.aload_n 3, 1) := by decide +kernel
theorem dSt_change_78 : decode bSt_change 78 = .ok (.invokevirtual 33, 3) := by decide +kernel
theorem dSt_change_81 : decode bSt_change 81 = .ok (.putfield 23, 3) := by decide +kernel
theorem dSt_change_84 : decode bSt_change 84 = .ok (.return_, 1) := by decide +kernel
theorem dSt_changeRegister_0 : decode bSt_changeRegister 0 = .ok (.aload_n 0, 1) := by decide +kernel
theorem dSt_changeRegister_1 : decode bSt_changeRegister 1 = .ok (.getfield 9, 3) := by decide +kernel
theorem dSt_changeRegister_4 : decode bSt_changeRegister 4 = .ok (.l2i, 1) := by decide +kernel
theorem dSt_changeRegister_5 : decode bSt_changeRegister 5 = .ok (.istore_n 2, 1) := by decide +kernel
theorem dSt_changeRegister_6 : decode bSt_changeRegister 6 = .ok (.aload_n 1, 1) := by decide +kernel
theorem dSt_changeRegister_7 : decode bSt_changeRegister 7 = .ok (.getfield 37, 3) := by decide +kernel
theorem dSt_changeRegister_10 : decode bSt_changeRegister 10 = .ok (.tableswitch 75 0 3 #[30, 32, 43, 54], 30) := by decide +kernel
theorem dSt_changeRegister_40 : decode bSt_changeRegister 40 = .ok (.iload_n 2, 1) := by decide +kernel
theorem dSt_changeRegister_41 : decode bSt_changeRegister 41 = .ok (.ireturn, 1) := by decide +kernel
theorem dSt_changeRegister_42 : decode bSt_changeRegister 42 = .ok (.aload_n 0, 1) := by decide +kernel
theorem dSt_changeRegister_43 : decode bSt_changeRegister 43 = .ok (.aload_n 1, 1) := by decide +kernel
theorem dSt_changeRegister_44 : decode bSt_changeRegister 44 = .ok (.getfield 42, 3) := by decide +kernel
theorem dSt_changeRegister_47 : decode bSt_changeRegister 47 = .ok (.i2l, 1) := by decide +kernel
theorem dSt_changeRegister_48 : decode bSt_changeRegister 48 = .ok (.putfield 9, 3) := by decide +kernel
theorem dSt_changeRegister_51 : decode bSt_changeRegister 51 = .ok (.iconst 0, 1) := by decide +kernel
theorem dSt_changeRegister_52 : decode bSt_changeRegister 52 = .ok (.ireturn, 1) := by decide +kernel
theorem dSt_changeRegister_53 : decode bSt_changeRegister 53 = .ok (.aload_n 0, 1) := by decide +kernel
theorem dSt_changeRegister_54 : decode bSt_changeRegister 54 = .ok (.aload_n 1, 1) := by decide +kernel
theorem dSt_changeRegister_55 : decode bSt_changeRegister 55 = .ok (.getfield 42, 3) := by decide +kernel
theorem dSt_changeRegister_58 : decode bSt_changeRegister 58 = .ok (.i2l, 1) := by decide +kernel
theorem dSt_changeRegister_59 : decode bSt_changeRegister 59 = .ok (.putfield 9, 3) := by decide +kernel
theorem dSt_changeRegister_62 : decode bSt_changeRegister 62 = .ok (.iload_n 2, 1) := by decide +kernel
theorem dSt_changeRegister_63 : decode bSt_changeRegister 63 = .ok (.ireturn, 1) := by decide +kernel
theorem dSt_changeRegister_64 : decode bSt_changeRegister 64 = .ok (.iload_n 2, 1) := by decide +kernel
theorem dSt_changeRegister_65 : decode bSt_changeRegister 65 = .ok (.aload_n 1, 1) := by decide +kernel
theorem dSt_changeRegister_66 : decode bSt_changeRegister 66 = .ok (.getfield 42, 3) := by decide +kernel
theorem dSt_changeRegister_69 : decode bSt_changeRegister 69 = .ok (.if_icmp .eq 5, 3) := by decide +kernel
theorem dSt_changeRegister_72 : decode bSt_changeRegister 72 = .ok (.iconst 0, 1) := by decide +kernel
theorem dSt_changeRegister_73 : decode bSt_changeRegister 73 = .ok (.ireturn, 1) := by decide +kernel
theorem dSt_changeRegister_74 : decode bSt_changeRegister 74 = .ok (.aload_n 0, 1) := by decide +kernel
theorem dSt_changeRegister_75 : decode bSt_changeRegister 75 = .ok (.aload_n 1, 1) := by decide +kernel
theorem dSt_changeRegister_76 : decode bSt_changeRegister 76 = .ok (.getfield 45, 3) := by decide +kernel
theorem dSt_changeRegister_79 : decode bSt_changeRegister 79 = .ok (.i2l, 1) := by decide +kernel
theorem dSt_changeRegister_80 : decode bSt_changeRegister 80 = .ok (.putfield 9, 3) := by decide +kernel
theorem dSt_changeRegister_83 : decode bSt_changeRegister 83 = .ok (.iconst 1, 1) := by decide +kernel
theorem dSt_changeRegister_84 : decode bSt_changeRegister 84 = .ok (.ireturn, 1) := by decide +kernel
theorem dSt_changeRegister_85 : decode bSt_changeRegister 85 = .ok (.aload_n 0, 1) := by decide +kernel
theorem dSt_changeRegister_86 : decode bSt_changeRegister 86 = .ok (.iload_n 2, 1) := by decide +kernel
theorem dSt_changeRegister_87 : decode bSt_changeRegister 87 = .ok (.aload_n 1, 1) := by decide +kernel
theorem dSt_changeRegister_88 : decode bSt_changeRegister 88 = .ok (.getfield 42, 3) := by decide +kernel
theorem dSt_changeRegister_91 : decode bSt_changeRegister 91 = .ok (.iadd, 1) := by decide +kernel
theorem dSt_changeRegister_92 : decode bSt_changeRegister 92 = .ok (.i2l, 1) := by decide +kernel
theorem dSt_changeRegister_93 : decode bSt_changeRegister 93 = .ok (.putfield 9, 3) := by decide +kernel
theorem dSt_changeRegister_96 : decode bSt_changeRegister 96 = .ok (.iload_n 2, 1) := by decide +kernel
theorem dSt_changeRegister_97 : decode bSt_changeRegister 97 = .ok (.ireturn, 1) := by decide +kernel
theorem dSt_changeSet_0 : decode bSt_changeSet 0 = .ok (.lconst 1, 1) := by decide +kernel
theorem dSt_changeSet_1 : decode bSt_changeSet 1 = .ok (.aload_n 1, 1) := by decide +kernel
theorem dSt_changeSet_2 : decode bSt_changeSet 2 = .ok (.getfield 52, 3) := by decide +kernel
theorem dSt_changeSet_5 : decode bSt_changeSet 5 = .ok (.lshl, 1) := by decide +kernel
theorem dSt_changeSet_6 : decode bSt_changeSet 6 = .ok (.lstore_n 2, 1) := by decide +kernel
theorem dSt_changeSet_7 : decode bSt_changeSet 7 = .ok (.aload_n 0, 1) := by decide +kernel
theorem dSt_changeSet_8 : decode bSt_changeSet 8 = .ok (.getfield 9, 3) := by decide +kernel
theorem dSt_changeSet_11 : decode bSt_changeSet 11 = .ok (.lload_n 2, 1) := by decide +kernel
theorem dSt_changeSet_12 : decode bSt_changeSet 12 = .ok (.land, 1) := by decide +kernel
theorem dSt_changeSet_13 : decode bSt_changeSet 13 = .ok (.lconst 0, 1) := by decide +kernel
theorem dSt_changeSet_14 : decode bSt_changeSet 14 = .ok (.lcmp, 1) := by decide +kernel
theorem dSt_changeSet_15 : decode bSt_changeSet 15 = .ok (.ifCond .eq 7, 3) := by decide +kernel
theorem dSt_changeSet_18 : decode bSt_changeSet 18 = .ok (.iconst 1, 1) := by decide +kernel
theorem dSt_changeSet_19 : decode bSt_changeSet 19 = .ok (.goto 4, 3) := by decide +kernel
theorem dSt_changeSet_22 : decode bSt_changeSet 22 = .ok (.iconst 0, 1) := by decide +kernel
theorem dSt_changeSet_23 : decode bSt_changeSet 23 = .ok (.istore 4, 2) := by decide +kernel
theorem dSt_changeSet_25 : decode bSt_changeSet 25 = .ok (.aload_n 1, 1) := by decide +kernel
theorem dSt_changeSet_26 : decode bSt_changeSet 26 = .ok (.getfield 37, 3) := by decide +kernel
theorem dSt_changeSet_29 : decode bSt_changeSet 29 = .ok (.lookupswitch 73 #[(0, 27), (1, 48)], 27) := by decide +kernel
theorem dSt_changeSet_56 : decode bSt_changeSet 56 = .ok (.aload_n 0, 1) := by decide +kernel
theorem dSt_changeSet_57 : decode bSt_changeSet 57 = .ok (.dup, 1) := by decide +kernel
theorem dSt_changeSet_58 : decode bSt_changeSet 58 = .ok (.getfield 9, 3) := by decide +kernel
theorem dSt_changeSet_61 : decode bSt_changeSet 61 = .ok (.lload_n 2, 1) := by decide +kernel
theorem dSt_changeSet_62 : decode bSt_changeSet 62 = .ok (.lor, 1) := by decide +kernel
theorem dSt_changeSet_63 : decode bSt_changeSet 63 = .ok (.putfield 9, 3) := by decide +kernel
theorem dSt_changeSet_66 : decode bSt_changeSet 66 = .ok (.iload 4, 2) := by decide +kernel
theorem dSt_changeSet_68 : decode bSt_changeSet 68 = .ok (.ifCond .eq 7, 3) := by decide +kernel
theorem dSt_changeSet_71 : decode bSt_changeSet 71 = .ok (.iconst 0, 1) := by decide +kernel
theorem dSt_changeSet_72 : decode bSt_changeSet 72 = .ok (.goto 4, 3) := by decide +kernel
theorem dSt_changeSet_75 : decode bSt_changeSet 75 = .ok (.iconst 1, 1) := by decide +kernel
theorem dSt_changeSet_76 : decode bSt_changeSet 76 = .ok (.ireturn, 1) := by decide +kernel
theorem dSt_changeSet_77 : decode bSt_changeSet 77 = .ok (.aload_n 0, 1) := by decide +kernel
theorem dSt_changeSet_78 : decode bSt_changeSet 78 = .ok (.dup, 1) := by decide +kernel
theorem dSt_changeSet_79 : decode bSt_changeSet 79 = .ok (.getfield 9, 3) := by decide +kernel
theorem dSt_changeSet_82 : decode bSt_changeSet 82 = .ok (.lload_n 2, 1) := by decide +kernel
theorem dSt_changeSet_83 : decode bSt_changeSet 83 = .ok (.ldc2_w 64, 3) := by decide +kernel
theorem dSt_changeSet_86 : decode bSt_changeSet 86 = .ok (.lxor, 1) := by decide +kernel
theorem dSt_changeSet_87 : decode bSt_changeSet 87 = .ok (.land, 1) := by decide +kernel
theorem dSt_changeSet_88 : decode bSt_changeSet 88 = .ok (.putfield 9, 3) := by decide +kernel
theorem dSt_changeSet_91 : decode bSt_changeSet 91 = .ok (.iload 4, 2) := by decide +kernel
theorem dSt_changeSet_93 : decode bSt_changeSet 93 = .ok (.ifCond .eq 7, 3) := by decide +kernel
theorem dSt_changeSet_96 : decode bSt_changeSet 96 = .ok (.iconst 1, 1) := by decide +kernel
theorem dSt_changeSet_97 : decode bSt_changeSet 97 = .ok (.goto 4, 3) := by decide +kernel
theorem dSt_changeSet_100 : decode bSt_changeSet 100 = .ok (.iconst 0, 1) := by decide +kernel
theorem dSt_changeSet_101 : decode bSt_changeSet 101 = .ok (.ireturn, 1) := by decide +kernel
theorem dSt_changeSet_102 : decode bSt_changeSet 102 = .ok (.iload 4, 2) := by decide +kernel
theorem dSt_changeSet_104 : decode bSt_changeSet 104 = .ok (.ifCond .eq 7, 3) := by decide +kernel
theorem dSt_changeSet_107 : decode bSt_changeSet 107 = .ok (.iconst 1, 1) := by decide +kernel
theorem dSt_changeSet_108 : decode bSt_changeSet 108 = .ok (.goto 4, 3) := by decide +kernel
theorem dSt_changeSet_111 : decode bSt_changeSet 111 = .ok (.iconst 0, 1) := by decide +kernel
theorem dSt_changeSet_112 : decode bSt_changeSet 112 = .ok (.ireturn, 1) := by decide +kernel
theorem dSt_changeMap_0 : decode bSt_changeMap 0 = .ok (.iconst 5, 1) := by decide +kernel
theorem dSt_changeMap_1 : decode bSt_changeMap 1 = .ok (.aload_n 1, 1) := by decide +kernel
theorem dSt_changeMap_2 : decode bSt_changeMap 2 = .ok (.getfield 42, 3) := by decide +kernel
theorem dSt_changeMap_5 : decode bSt_changeMap 5 = .ok (.bipush 7, 2) := by decide +kernel
theorem dSt_changeMap_7 : decode bSt_changeMap 7 = .ok (.iand, 1) := by decide +kernel
theorem dSt_changeMap_8 : decode bSt_changeMap 8 = .ok (.imul, 1) := by decide +kernel
theorem dSt_changeMap_9 : decode bSt_changeMap 9 = .ok (.istore_n 3, 1) := by decide +kernel
theorem dSt_changeMap_10 : decode bSt_changeMap 10 = .ok (.aload_n 0, 1) := by decide +kernel
theorem dSt_changeMap_11 : decode bSt_changeMap 11 = .ok (.getfield 9, 3) := by decide +kernel
theorem dSt_changeMap_14 : decode bSt_changeMap 14 = .ok (.iload_n 3, 1) := by decide +kernel
theorem dSt_changeMap_15 : decode bSt_changeMap 15 = .ok (.lushr, 1) := by decide +kernel
theorem dSt_changeMap_16 : decode bSt_changeMap 16 = .ok (.l2i, 1) := by decide +kernel
theorem dSt_changeMap_17 : decode bSt_changeMap 17 = .ok (.bipush 31, 2) := by decide +kernel
theorem dSt_changeMap_19 : decode bSt_changeMap 19 = .ok (.iand, 1) := by decide +kernel
theorem dSt_changeMap_20 : decode bSt_changeMap 20 = .ok (.istore 4, 2) := by decide +kernel
theorem dSt_changeMap_22 : decode bSt_changeMap 22 = .ok (.aload_n 1, 1) := by decide +kernel
theorem dSt_changeMap_23 : decode bSt_changeMap 23 = .ok (.getfield 37, 3) := by decide +kernel
theorem dSt_changeMap_26 : decode bSt_changeMap 26 = .ok (.iconst 1, 1) := by decide +kernel
theorem dSt_changeMap_27 : decode bSt_changeMap 27 = .ok (.if_icmp .eq 21, 3) := by decide +kernel
theorem dSt_changeMap_30 : decode bSt_changeMap 30 = .ok (.aload_n 0, 1) := by decide +kernel
theorem dSt_changeMap_31 : decode bSt_changeMap 31 = .ok (.dup, 1) := by decide +kernel
theorem dSt_changeMap_32 : decode bSt_changeMap 32 = .ok (.getfield 9, 3) := by decide +kernel
theorem dSt_changeMap_35 : decode bSt_changeMap 35 = .ok (.ldc2_w 66, 3) := by decide +kernel
theorem dSt_changeMap_38 : decode bSt_changeMap 38 = .ok (.iload_n 3, 1) := by decide +kernel
theorem dSt_changeMap_39 : decode bSt_changeMap 39 = .ok (.lshl, 1) := by decide +kernel
theorem dSt_changeMap_40 : decode bSt_changeMap 40 = .ok (.ldc2_w 64, 3) := by decide +kernel
theorem dSt_changeMap_43 : decode bSt_changeMap 43 = .ok (.lxor, 1) := by decide +kernel
theorem dSt_changeMap_44 : decode bSt_changeMap 44 = .ok (.land, 1) := by decide +kernel
theorem dSt_changeMap_45 : decode bSt_changeMap 45 = .ok (.putfield 9, 3) := by decide +kernel
theorem dSt_changeMap_48 : decode bSt_changeMap 48 = .ok (.aload_n 1, 1) := by decide +kernel
theorem dSt_changeMap_49 : decode bSt_changeMap 49 = .ok (.getfield 37, 3) := by decide +kernel
theorem dSt_changeMap_52 : decode bSt_changeMap 52 = .ok (.ifCond .ne 31, 3) := by decide +kernel
theorem dSt_changeMap_55 : decode bSt_changeMap 55 = .ok (.aload_n 1, 1) := by decide +kernel
theorem dSt_changeMap_56 : decode bSt_changeMap 56 = .ok (.getfield 45, 3) := by decide +kernel
theorem dSt_changeMap_59 : decode bSt_changeMap 59 = .ok (.ldc 59, 2) := by decide +kernel
theorem dSt_changeMap_61 : decode bSt_changeMap 61 = .ok (.if_icmp .eq 22, 3) := by decide +kernel
theorem dSt_changeMap_64 : decode bSt_changeMap 64 = .ok (.aload_n 0, 1) := by decide +kernel
theorem dSt_changeMap_65 : decode bSt_changeMap 65 = .ok (.dup, 1) := by decide +kernel
theorem dSt_changeMap_66 : decode bSt_changeMap 66 = .ok (.getfield 9, 3) := by decide +kernel
theorem dSt_changeMap_69 : decode bSt_changeMap 69 = .ok (.bipush 16, 2) := by decide +kernel
theorem dSt_changeMap_71 : decode bSt_changeMap 71 = .ok (.aload_n 1, 1) := by decide +kernel
theorem dSt_changeMap_72 : decode bSt_changeMap 72 = .ok (.getfield 52, 3) := by decide +kernel
theorem dSt_changeMap_75 : decode bSt_changeMap 75 = .ok (.ior, 1) := by decide +kernel
theorem dSt_changeMap_76 : decode bSt_changeMap 76 = .ok (.i2l, 1) := by decide +kernel
theorem dSt_changeMap_77 : decode bSt_changeMap 77 = .ok (.iload_n 3, 1) := by decide +kernel
theorem dSt_changeMap_78 : decode bSt_changeMap 78 = .ok (.lshl, 1) := by decide +kernel
theorem dSt_changeMap_79 : decode bSt_changeMap 79 = .ok (.lor, 1) := by decide +kernel
theorem dSt_changeMap_80 : decode bSt_changeMap 80 = .ok (.putfield 9, 3) := by decide +kernel
theorem dSt_changeMap_83 : decode bSt_changeMap 83 = .ok (.iload 4, 2) := by decide +kernel
theorem dSt_changeMap_85 : decode bSt_changeMap 85 = .ok (.bipush 16, 2) := by decide +kernel
theorem dSt_changeMap_87 : decode bSt_changeMap 87 = .ok (.iand, 1) := by decide +kernel
theorem dSt_changeMap_88 : decode bSt_changeMap 88 = .ok (.ifCond .ne 8, 3) := by decide +kernel
theorem dSt_changeMap_91 : decode bSt_changeMap 91 = .ok (.ldc 59, 2) := by decide +kernel
theorem dSt_changeMap_93 : decode bSt_changeMap 93 = .ok (.goto 13, 3) := by decide +kernel
theorem dSt_changeMap_96 : decode bSt_changeMap 96 = .ok (.aload_n 2, 1) := by decide +kernel
theorem dSt_changeMap_97 : decode bSt_changeMap 97 = .ok (.iload 4, 2) := by decide +kernel
theorem dSt_changeMap_99 : decode bSt_changeMap 99 = .ok (.bipush 15, 2) := by decide +kernel
theorem dSt_changeMap_101 : decode bSt_changeMap 101 = .ok (.iand, 1) := by decide +kernel
theorem dSt_changeMap_102 : decode bSt_changeMap 102 = .ok (.aaload, 1) := by decide +kernel
theorem dSt_changeMap_103 : decode bSt_changeMap 103 = .ok (.getfield 45, 3) := by decide +kernel
theorem dSt_changeMap_106 : decode bSt_changeMap 106 = .ok (.ireturn, 1) := by decide +kernel
theorem dSt_changeSequence_0 : decode bSt_changeSequence 0 = .ok (.aload_n 2, 1) := by decide +kernel
theorem dSt_changeSequence_1 : decode bSt_changeSequence 1 = .ok (.getfield 37, 3) := by decide +kernel
theorem dSt_changeSequence_4 : decode bSt_changeSequence 4 = .ok (.lookupswitch 94 #[(0, 28), (1, 59)], 28) := by decide +kernel
theorem dSt_changeSequence_32 : decode bSt_changeSequence 32 = .ok (.aload_n 0, 1) := by decide +kernel
theorem dSt_changeSequence_33 : decode bSt_changeSequence 33 = .ok (.iload_n 1, 1) := by decide +kernel
theorem dSt_changeSequence_34 : decode bSt_changeSequence 34 = .ok (.iconst 4, 1) := by decide +kernel
theorem dSt_changeSequence_35 : decode bSt_changeSequence 35 = .ok (.if_icmp .ne 15, 3) := by decide +kernel
theorem dSt_changeSequence_38 : decode bSt_changeSequence 38 = .ok (.aload_n 0, 1) := by decide +kernel
theorem dSt_changeSequence_39 : decode bSt_changeSequence 39 = .ok (.aload_n 2, 1) := by decide +kernel
theorem dSt_changeSequence_40 : decode bSt_changeSequence 40 = .ok (.getfield 42, 3) := by decide +kernel
theorem dSt_changeSequence_43 : decode bSt_changeSequence 43 = .ok (.aload_n 3, 1) := by decide +kernel
theorem dSt_changeSequence_44 : decode bSt_changeSequence 44 = .ok (.invokevirtual 48, 3) := by decide +kernel
theorem dSt_changeSequence_47 : decode bSt_changeSequence 47 = .ok (.goto 7, 3) := by decide +kernel
theorem dSt_changeSequence_50 : decode bSt_changeSequence 50 = .ok (.aload_n 0, 1) := by decide +kernel
theorem dSt_changeSequence_51 : decode bSt_changeSequence 51 = .ok (.getfield 15, 3) := by decide +kernel
theorem dSt_changeSequence_54 : decode bSt_changeSequence 54 = .ok (.aload_n 2, 1) := by decide +kernel
theorem dSt_changeSequence_55 : decode bSt_changeSequence 55 = .ok (.getfield 52, 3) := by decide +kernel
theorem dSt_changeSequence_58 : decode bSt_changeSequence 58 = .ok (.invokevirtual 55, 3) := by decide +kernel
theorem dSt_changeSequence_61 : decode bSt_changeSequence 61 = .ok (.iconst 0, 1) := by decide +kernel
theorem dSt_changeSequence_62 : decode bSt_changeSequence 62 = .ok (.ireturn, 1) := by decide +kernel
theorem dSt_changeSequence_63 : decode bSt_changeSequence 63 = .ok (.aload_n 0, 1) := by decide +kernel
theorem dSt_changeSequence_64 : decode bSt_changeSequence 64 = .ok (.getfield 15, 3) := by decide +kernel
theorem dSt_changeSequence_67 : decode bSt_changeSequence 67 = .ok (.ifCond .gt 6, 3) := by decide +kernel
theorem dSt_changeSequence_70 : decode bSt_changeSequence 70 = .ok (.ldc 59, 2) := by decide +kernel
theorem dSt_changeSequence_72 : decode bSt_changeSequence 72 = .ok (.ireturn, 1) := by decide +kernel
theorem dSt_changeSequence_73 : decode bSt_changeSequence 73 = .ok (.aload_n 3, 1) := by decide +kernel
theorem dSt_changeSequence_74 : decode bSt_changeSequence 74 = .ok (.aload_n 0, 1) := by decide +kernel
theorem dSt_changeSequence_75 : decode bSt_changeSequence 75 = .ok (.iload_n 1, 1) := by decide +kernel
theorem dSt_changeSequence_76 : decode bSt_changeSequence 76 = .ok (.iconst 2, 1) := by decide +kernel
theorem dSt_changeSequence_77 : decode bSt_changeSequence 77 = .ok (.if_icmp .ne 12, 3) := by decide +kernel
theorem dSt_changeSequence_80 : decode bSt_changeSequence 80 = .ok (.aload_n 0, 1) := by decide +kernel
theorem dSt_changeSequence_81 : decode bSt_changeSequence 81 = .ok (.getfield 15, 3) := by decide +kernel
theorem dSt_changeSequence_84 : decode bSt_changeSequence 84 = .ok (.iconst 1, 1) := by decide +kernel
theorem dSt_changeSequence_85 : decode bSt_changeSequence 85 = .ok (.isub, 1) := by decide +kernel
theorem dSt_changeSequence_86 : decode bSt_changeSequence 86 = .ok (.goto 4, 3) := by decide +kernel
theorem dSt_changeSequence_89 : decode bSt_changeSequence 89 = .ok (.iconst 0, 1) := by decide +kernel
theorem dSt_changeSequence_90 : decode bSt_changeSequence 90 = .ok (.invokevirtual 60, 3) := by decide +kernel
theorem dSt_changeSequence_93 : decode bSt_changeSequence 93 = .ok (.aaload, 1) := by decide +kernel
theorem dSt_changeSequence_94 : decode bSt_changeSequence 94 = .ok (.getfield 42, 3) := by decide +kernel
theorem dSt_changeSequence_97 : decode bSt_changeSequence 97 = .ok (.ireturn, 1) := by decide +kernel
theorem dSt_changeSequence_98 : decode bSt_changeSequence 98 = .ok (.aload_n 0, 1) := by decide +kernel
theorem dSt_changeSequence_99 : decode bSt_changeSequence 99 = .ok (.getfield 15, 3) := by decide +kernel
theorem dSt_changeSequence_102 : decode bSt_changeSequence 102 = .ok (.ireturn, 1) := by decide +kernel
theorem dSt_placeInHeap_0 : decode bSt_placeInHeap 0 = .ok (.iconst 0, 1) := by decide +kernel
theorem dSt_placeInHeap_1 : decode bSt_placeInHeap 1 = .ok (.istore_n 3, 1) := by decide +kernel
theorem dSt_placeInHeap_2 : decode bSt_placeInHeap 2 = .ok (.aload_n 0, 1) := by decide +kernel
theorem dSt_placeInHeap_3 : decode bSt_placeInHeap 3 = .ok (.getfield 9, 3) := by decide +kernel
theorem dSt_placeInHeap_6 : decode bSt_placeInHeap 6 = .ok (.lstore 4, 2) := by decide +kernel
theorem dSt_placeInHeap_8 : decode bSt_placeInHeap 8 = .ok (.iload_n 3, 1) := by decide +kernel
theorem dSt_placeInHeap_9 : decode bSt_placeInHeap 9 = .ok (.aload_n 0, 1) := by decide +kernel
theorem dSt_placeInHeap_10 : decode bSt_placeInHeap 10 = .ok (.getfield 15, 3) := by decide +kernel
theorem dSt_placeInHeap_13 : decode bSt_placeInHeap 13 = .ok (.if_icmp .ge 30, 3) := by decide +kernel
theorem dSt_placeInHeap_16 : decode bSt_placeInHeap 16 = .ok (.aload_n 2, 1) := by decide +kernel
theorem dSt_placeInHeap_17 : decode bSt_placeInHeap 17 = .ok (.lload 4, 2) := by decide +kernel
theorem dSt_placeInHeap_19 : decode bSt_placeInHeap 19 = .ok (.l2i, 1) := by decide +kernel
theorem dSt_placeInHeap_20 : decode bSt_placeInHeap 20 = .ok (.bipush 15, 2) := by decide +kernel
theorem dSt_placeInHeap_22 : decode bSt_placeInHeap 22 = .ok (.iand, 1) := by decide +kernel
theorem dSt_placeInHeap_23 : decode bSt_placeInHeap 23 = .ok (.aaload, 1) := by decide +kernel
theorem dSt_placeInHeap_24 : decode bSt_placeInHeap 24 = .ok (.getfield 42, 3) := by decide +kernel
theorem dSt_placeInHeap_27 : decode bSt_placeInHeap 27 = .ok (.iload_n 1, 1) := by decide +kernel
theorem dSt_placeInHeap_28 : decode bSt_placeInHeap 28 = .ok (.if_icmp .ge 15, 3) := by decide +kernel
theorem dSt_placeInHeap_31 : decode bSt_placeInHeap 31 = .ok (.lload 4, 2) := by decide +kernel
theorem dSt_placeInHeap_33 : decode bSt_placeInHeap 33 = .ok (.iconst 4, 1) := by decide +kernel
theorem dSt_placeInHeap_34 : decode bSt_placeInHeap 34 = .ok (.lushr, 1) := by decide +kernel
theorem dSt_placeInHeap_35 : decode bSt_placeInHeap 35 = .ok (.lstore 4, 2) := by decide +kernel
theorem dSt_placeInHeap_37 : decode bSt_placeInHeap 37 = .ok (.iinc 3 1, 3) := by decide +kernel
theorem dSt_placeInHeap_40 : decode bSt_placeInHeap 40 = .ok (.goto (-32), 3) := by decide +kernel
theorem dSt_placeInHeap_43 : decode bSt_placeInHeap 43 = .ok (.iload_n 3, 1) := by decide +kernel
theorem dSt_placeInHeap_44 : decode bSt_placeInHeap 44 = .ok (.ireturn, 1) := by decide +kernel
theorem dSt_insertAt_0 : decode bSt_insertAt 0 = .ok (.iconst 4, 1) := by decide +kernel
theorem dSt_insertAt_1 : decode bSt_insertAt 1 = .ok (.iload_n 1, 1) := by decide +kernel
theorem dSt_insertAt_2 : decode bSt_insertAt 2 = .ok (.imul, 1) := by decide +kernel
theorem dSt_insertAt_3 : decode bSt_insertAt 3 = .ok (.istore_n 3, 1) := by decide +kernel
theorem dSt_insertAt_4 : decode bSt_insertAt 4 = .ok (.aload_n 0, 1) := by decide +kernel
theorem dSt_insertAt_5 : decode bSt_insertAt 5 = .ok (.getfield 9, 3) := by decide +kernel
theorem dSt_insertAt_8 : decode bSt_insertAt 8 = .ok (.lconst 1, 1) := by decide +kernel
theorem dSt_insertAt_9 : decode bSt_insertAt 9 = .ok (.iload_n 3, 1) := by decide +kernel
theorem dSt_insertAt_10 : decode bSt_insertAt 10 = .ok (.lshl, 1) := by decide +kernel
theorem dSt_insertAt_11 : decode bSt_insertAt 11 = .ok (.lconst 1, 1) := by decide +kernel
theorem dSt_insertAt_12 : decode bSt_insertAt 12 = .ok (.lsub, 1) := by decide +kernel
theorem dSt_insertAt_13 : decode bSt_insertAt 13 = .ok (.land, 1) := by decide +kernel
theorem dSt_insertAt_14 : decode bSt_insertAt 14 = .ok (.lstore 4, 2) := by decide +kernel
theorem dSt_insertAt_16 : decode bSt_insertAt 16 = .ok (.aload_n 0, 1) := by decide +kernel
theorem dSt_insertAt_17 : decode bSt_insertAt 17 = .ok (.getfield 9, 3) := by decide +kernel
theorem dSt_insertAt_20 : decode bSt_insertAt 20 = .ok (.iload_n 3, 1) := by decide +kernel
theorem dSt_insertAt_21 : decode bSt_insertAt 21 = .ok (.lushr, 1) := by decide +kernel
theorem dSt_insertAt_22 : decode bSt_insertAt 22 = .ok (.iload_n 3, 1) := by decide +kernel
theorem dSt_insertAt_23 : decode bSt_insertAt 23 = .ok (.lshl, 1) := by decide +kernel
theorem dSt_insertAt_24 : decode bSt_insertAt 24 = .ok (.iconst 4, 1) := by decide +kernel
theorem dSt_insertAt_25 : decode bSt_insertAt 25 = .ok (.lshl, 1) := by decide +kernel
theorem dSt_insertAt_26 : decode bSt_insertAt 26 = .ok (.lstore 6, 2) := by decide +kernel
theorem dSt_insertAt_28 : decode bSt_insertAt 28 = .ok (.aload_n 0, 1) := by decide +kernel
theorem dSt_insertAt_29 : decode bSt_insertAt 29 = .ok (.lload 4, 2) := by decide +kernel
theorem dSt_insertAt_31 : decode bSt_insertAt 31 = .ok (.iload_n 2, 1) := by decide +kernel
theorem dSt_insertAt_32 : decode bSt_insertAt 32 = .ok (.i2l, 1) := by decide +kernel
theorem dSt_insertAt_33 : decode bSt_insertAt 33 = .ok (.iload_n 3, 1) := by decide +kernel
theorem dSt_insertAt_34 : decode bSt_insertAt 34 = .ok (.lshl, 1) := by decide +kernel
theorem dSt_insertAt_35 : decode bSt_insertAt 35 = .ok (.lor, 1) := by decide +kernel
theorem dSt_insertAt_36 : decode bSt_insertAt 36 = .ok (.lload 6, 2) := by decide +kernel
theorem dSt_insertAt_38 : decode bSt_insertAt 38 = .ok (.lor, 1) := by decide +kernel
theorem dSt_insertAt_39 : decode bSt_insertAt 39 = .ok (.putfield 9, 3) := by decide +kernel
theorem dSt_insertAt_42 : decode bSt_insertAt 42 = .ok (.aload_n 0, 1) := by decide +kernel
theorem dSt_insertAt_43 : decode bSt_insertAt 43 = .ok (.dup, 1) := by decide +kernel
theorem dSt_insertAt_44 : decode bSt_insertAt 44 = .ok (.getfield 15, 3) := by decide +kernel
theorem dSt_insertAt_47 : decode bSt_insertAt 47 = .ok (.iconst 1, 1) := by decide +kernel
theorem dSt_insertAt_48 : decode bSt_insertAt 48 = .ok (.iadd, 1) := by decide +kernel
theorem dSt_insertAt_49 : decode bSt_insertAt 49 = .ok (.putfield 15, 3) := by decide +kernel
theorem dSt_insertAt_52 : decode bSt_insertAt 52 = .ok (.return_, 1) := by decide +kernel
