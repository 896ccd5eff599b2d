theorem dMo_doIt_0 : decode bMo_doIt 0 = .ok (.aload_n 0, 1) := by decide +kernel
theorem dMo_doIt_1 : decode bMo_doIt 1 = .ok (.aload_n 0, 1) := by decide +kernel
theorem dMo_doIt_2 : decode bMo_doIt 2 = .ok (.getfield 49, 3) := by decide +kernel
theorem dMo_doIt_5 : decode bMo_doIt 5 = .ok (.iload_n 3, 1) := by decide +kernel
theorem dMo_doIt_6 : decode bMo_doIt 6 = .ok (.laload, 1) := by decide +kernel
theorem dMo_doIt_7 : decode bMo_doIt 7 = .ok (.putfield 122, 3) := by decide +kernel
theorem dMo_doIt_10 : decode bMo_doIt 10 = .ok (.aload_n 0, 1) := by decide +kernel
theorem dMo_doIt_11 : decode bMo_doIt 11 = .ok (.aload_n 0, 1) := by decide +kernel
theorem dMo_doIt_12 : decode bMo_doIt 12 = .ok (.getfield 46, 3) := by decide +kernel
theorem dMo_doIt_15 : decode bMo_doIt 15 = .ok (.iload_n 3, 1) := by decide +kernel
theorem dMo_doIt_16 : decode bMo_doIt 16 = .ok (.iaload, 1) := by decide +kernel
theorem dMo_doIt_17 : decode bMo_doIt 17 = .ok (.bipush 16, 2) := by decide +kernel
theorem dMo_doIt_19 : decode bMo_doIt 19 = .ok (.ishr, 1) := by decide +kernel
theorem dMo_doIt_20 : decode bMo_doIt 20 = .ok (.putfield 129, 3) := by decide +kernel
theorem dMo_doIt_23 : decode bMo_doIt 23 = .ok (.aload_n 0, 1) := by decide +kernel
theorem dMo_doIt_24 : decode bMo_doIt 24 = .ok (.getfield 16, 3) := by decide +kernel
theorem dMo_doIt_27 : decode bMo_doIt 27 = .ok (.bipush 16, 2) := by decide +kernel
theorem dMo_doIt_29 : decode bMo_doIt 29 = .ok (.iload_n 1, 1) := by decide +kernel
theorem dMo_doIt_30 : decode bMo_doIt 30 = .ok (.imul, 1) := by decide +kernel
theorem dMo_doIt_31 : decode bMo_doIt 31 = .ok (.iload_n 2, 1) := by decide +kernel
theorem dMo_doIt_32 : decode bMo_doIt 32 = .ok (.iadd, 1) := by decide +kernel
theorem dMo_doIt_33 : decode bMo_doIt 33 = .ok (.iaload, 1) := by decide +kernel
theorem dMo_doIt_34 : decode bMo_doIt 34 = .ok (.istore 4, 2) := by decide +kernel
theorem dMo_doIt_36 : decode bMo_doIt 36 = .ok (.aload_n 0, 1) := by decide +kernel
theorem dMo_doIt_37 : decode bMo_doIt 37 = .ok (.getfield 7, 3) := by decide +kernel
theorem dMo_doIt_40 : decode bMo_doIt 40 = .ok (.iload_n 1, 1) := by decide +kernel
theorem dMo_doIt_41 : decode bMo_doIt 41 = .ok (.iaload, 1) := by decide +kernel
theorem dMo_doIt_42 : decode bMo_doIt 42 = .ok (.ifCond .ne 31, 3) := by decide +kernel
theorem dMo_doIt_45 : decode bMo_doIt 45 = .ok (.aload_n 0, 1) := by decide +kernel
theorem dMo_doIt_46 : decode bMo_doIt 46 = .ok (.aload_n 0, 1) := by decide +kernel
theorem dMo_doIt_47 : decode bMo_doIt 47 = .ok (.getfield 25, 3) := by decide +kernel
theorem dMo_doIt_50 : decode bMo_doIt 50 = .ok (.iload 4, 2) := by decide +kernel
theorem dMo_doIt_52 : decode bMo_doIt 52 = .ok (.iaload, 1) := by decide +kernel
theorem dMo_doIt_53 : decode bMo_doIt 53 = .ok (.aload_n 0, 1) := by decide +kernel
theorem dMo_doIt_54 : decode bMo_doIt 54 = .ok (.getfield 28, 3) := by decide +kernel
theorem dMo_doIt_57 : decode bMo_doIt 57 = .ok (.iload 4, 2) := by decide +kernel
theorem dMo_doIt_59 : decode bMo_doIt 59 = .ok (.iaload, 1) := by decide +kernel
theorem dMo_doIt_60 : decode bMo_doIt 60 = .ok (.aload_n 0, 1) := by decide +kernel
theorem dMo_doIt_61 : decode bMo_doIt 61 = .ok (.getfield 31, 3) := by decide +kernel
theorem dMo_doIt_64 : decode bMo_doIt 64 = .ok (.iload 4, 2) := by decide +kernel
theorem dMo_doIt_66 : decode bMo_doIt 66 = .ok (.iaload, 1) := by decide +kernel
theorem dMo_doIt_67 : decode bMo_doIt 67 = .ok (.invokevirtual 148, 3) := by decide +kernel
theorem dMo_doIt_70 : decode bMo_doIt 70 = .ok (.goto 68, 3) := by decide +kernel
theorem dMo_doIt_73 : decode bMo_doIt 73 = .ok (.aload_n 0, 1) := by decide +kernel
theorem dMo_doIt_74 : decode bMo_doIt 74 = .ok (.getfield 7, 3) := by decide +kernel
theorem dMo_doIt_77 : decode bMo_doIt 77 = .ok (.iload_n 1, 1) := by decide +kernel
theorem dMo_doIt_78 : decode bMo_doIt 78 = .ok (.iaload, 1) := by decide +kernel
theorem dMo_doIt_79 : decode bMo_doIt 79 = .ok (.iconst 3, 1) := by decide +kernel
theorem dMo_doIt_80 : decode bMo_doIt 80 = .ok (.if_icmp .ne 19, 3) := by decide +kernel
theorem dMo_doIt_83 : decode bMo_doIt 83 = .ok (.aload_n 0, 1) := by decide +kernel
theorem dMo_doIt_84 : decode bMo_doIt 84 = .ok (.iload_n 1, 1) := by decide +kernel
theorem dMo_doIt_85 : decode bMo_doIt 85 = .ok (.iload_n 2, 1) := by decide +kernel
theorem dMo_doIt_86 : decode bMo_doIt 86 = .ok (.aload_n 0, 1) := by decide +kernel
theorem dMo_doIt_87 : decode bMo_doIt 87 = .ok (.getfield 25, 3) := by decide +kernel
theorem dMo_doIt_90 : decode bMo_doIt 90 = .ok (.iload 4, 2) := by decide +kernel
theorem dMo_doIt_92 : decode bMo_doIt 92 = .ok (.iaload, 1) := by decide +kernel
theorem dMo_doIt_93 : decode bMo_doIt 93 = .ok (.invokevirtual 152, 3) := by decide +kernel
theorem dMo_doIt_96 : decode bMo_doIt 96 = .ok (.goto 42, 3) := by decide +kernel
theorem dMo_doIt_99 : decode bMo_doIt 99 = .ok (.aload_n 0, 1) := by decide +kernel
theorem dMo_doIt_100 : decode bMo_doIt 100 = .ok (.getfield 7, 3) := by decide +kernel
theorem dMo_doIt_103 : decode bMo_doIt 103 = .ok (.iload_n 1, 1) := by decide +kernel
theorem dMo_doIt_104 : decode bMo_doIt 104 = .ok (.iaload, 1) := by decide +kernel
theorem dMo_doIt_105 : decode bMo_doIt 105 = .ok (.iconst 5, 1) := by decide +kernel
theorem dMo_doIt_106 : decode bMo_doIt 106 = .ok (.if_icmp .ne 19, 3) := by decide +kernel
theorem dMo_doIt_109 : decode bMo_doIt 109 = .ok (.aload_n 0, 1) := by decide +kernel
theorem dMo_doIt_110 : decode bMo_doIt 110 = .ok (.iload_n 1, 1) := by decide +kernel
theorem dMo_doIt_111 : decode bMo_doIt 111 = .ok (.iload_n 2, 1) := by decide +kernel
theorem dMo_doIt_112 : decode bMo_doIt 112 = .ok (.aload_n 0, 1) := by decide +kernel
theorem dMo_doIt_113 : decode bMo_doIt 113 = .ok (.getfield 25, 3) := by decide +kernel
theorem dMo_doIt_116 : decode bMo_doIt 116 = .ok (.iload 4, 2) := by decide +kernel
theorem dMo_doIt_118 : decode bMo_doIt 118 = .ok (.iaload, 1) := by decide +kernel
theorem dMo_doIt_119 : decode bMo_doIt 119 = .ok (.invokevirtual 155, 3) := by decide +kernel
theorem dMo_doIt_122 : decode bMo_doIt 122 = .ok (.goto 16, 3) := by decide +kernel
theorem dMo_doIt_125 : decode bMo_doIt 125 = .ok (.aload_n 0, 1) := by decide +kernel
theorem dMo_doIt_126 : decode bMo_doIt 126 = .ok (.iload_n 1, 1) := by decide +kernel
theorem dMo_doIt_127 : decode bMo_doIt 127 = .ok (.iload_n 2, 1) := by decide +kernel
theorem dMo_doIt_128 : decode bMo_doIt 128 = .ok (.aload_n 0, 1) := by decide +kernel
theorem dMo_doIt_129 : decode bMo_doIt 129 = .ok (.getfield 25, 3) := by decide +kernel
theorem dMo_doIt_132 : decode bMo_doIt 132 = .ok (.iload 4, 2) := by decide +kernel
theorem dMo_doIt_134 : decode bMo_doIt 134 = .ok (.iaload, 1) := by decide +kernel
theorem dMo_doIt_135 : decode bMo_doIt 135 = .ok (.invokevirtual 158, 3) := by decide +kernel
theorem dMo_doIt_138 : decode bMo_doIt 138 = .ok (.return_, 1) := by decide +kernel
theorem dMo_doRegister_0 : decode bMo_doRegister 0 = .ok (.aload_n 0, 1) := by decide +kernel
theorem dMo_doRegister_1 : decode bMo_doRegister 1 = .ok (.getfield 122, 3) := by decide +kernel
theorem dMo_doRegister_4 : decode bMo_doRegister 4 = .ok (.l2i, 1) := by decide +kernel
theorem dMo_doRegister_5 : decode bMo_doRegister 5 = .ok (.istore 4, 2) := by decide +kernel
theorem dMo_doRegister_7 : decode bMo_doRegister 7 = .ok (.aload_n 0, 1) := by decide +kernel
theorem dMo_doRegister_8 : decode bMo_doRegister 8 = .ok (.iload_n 1, 1) := by decide +kernel
theorem dMo_doRegister_9 : decode bMo_doRegister 9 = .ok (.iconst 1, 1) := by decide +kernel
theorem dMo_doRegister_10 : decode bMo_doRegister 10 = .ok (.if_icmp .ne 7, 3) := by decide +kernel
theorem dMo_doRegister_13 : decode bMo_doRegister 13 = .ok (.iconst 0, 1) := by decide +kernel
theorem dMo_doRegister_14 : decode bMo_doRegister 14 = .ok (.goto 24, 3) := by decide +kernel
theorem dMo_doRegister_17 : decode bMo_doRegister 17 = .ok (.iload_n 1, 1) := by decide +kernel
theorem dMo_doRegister_18 : decode bMo_doRegister 18 = .ok (.iconst 3, 1) := by decide +kernel
theorem dMo_doRegister_19 : decode bMo_doRegister 19 = .ok (.if_icmp .ne 17, 3) := by decide +kernel
theorem dMo_doRegister_22 : decode bMo_doRegister 22 = .ok (.iload 4, 2) := by decide +kernel
theorem dMo_doRegister_24 : decode bMo_doRegister 24 = .ok (.iload_n 2, 1) := by decide +kernel
theorem dMo_doRegister_25 : decode bMo_doRegister 25 = .ok (.if_icmp .ne 7, 3) := by decide +kernel
theorem dMo_doRegister_28 : decode bMo_doRegister 28 = .ok (.iconst 1, 1) := by decide +kernel
theorem dMo_doRegister_29 : decode bMo_doRegister 29 = .ok (.goto 9, 3) := by decide +kernel
theorem dMo_doRegister_32 : decode bMo_doRegister 32 = .ok (.iconst 0, 1) := by decide +kernel
theorem dMo_doRegister_33 : decode bMo_doRegister 33 = .ok (.goto 5, 3) := by decide +kernel
theorem dMo_doRegister_36 : decode bMo_doRegister 36 = .ok (.iload 4, 2) := by decide +kernel
theorem dMo_doRegister_38 : decode bMo_doRegister 38 = .ok (.putfield 126, 3) := by decide +kernel
theorem dMo_doRegister_41 : decode bMo_doRegister 41 = .ok (.aload_n 0, 1) := by decide +kernel
theorem dMo_doRegister_42 : decode bMo_doRegister 42 = .ok (.iload_n 1, 1) := by decide +kernel
theorem dMo_doRegister_43 : decode bMo_doRegister 43 = .ok (.iconst 1, 1) := by decide +kernel
theorem dMo_doRegister_44 : decode bMo_doRegister 44 = .ok (.if_icmp .eq 8, 3) := by decide +kernel
theorem dMo_doRegister_47 : decode bMo_doRegister 47 = .ok (.iload_n 1, 1) := by decide +kernel
theorem dMo_doRegister_48 : decode bMo_doRegister 48 = .ok (.iconst 2, 1) := by decide +kernel
theorem dMo_doRegister_49 : decode bMo_doRegister 49 = .ok (.if_icmp .ne 8, 3) := by decide +kernel
theorem dMo_doRegister_52 : decode bMo_doRegister 52 = .ok (.iload_n 2, 1) := by decide +kernel
theorem dMo_doRegister_53 : decode bMo_doRegister 53 = .ok (.i2l, 1) := by decide +kernel
theorem dMo_doRegister_54 : decode bMo_doRegister 54 = .ok (.goto 35, 3) := by decide +kernel
theorem dMo_doRegister_57 : decode bMo_doRegister 57 = .ok (.iload_n 1, 1) := by decide +kernel
theorem dMo_doRegister_58 : decode bMo_doRegister 58 = .ok (.iconst 3, 1) := by decide +kernel
theorem dMo_doRegister_59 : decode bMo_doRegister 59 = .ok (.if_icmp .ne 14, 3) := by decide +kernel
theorem dMo_doRegister_62 : decode bMo_doRegister 62 = .ok (.iload 4, 2) := by decide +kernel
theorem dMo_doRegister_64 : decode bMo_doRegister 64 = .ok (.iload_n 2, 1) := by decide +kernel
theorem dMo_doRegister_65 : decode bMo_doRegister 65 = .ok (.if_icmp .ne 8, 3) := by decide +kernel
theorem dMo_doRegister_68 : decode bMo_doRegister 68 = .ok (.iload_n 3, 1) := by decide +kernel
theorem dMo_doRegister_69 : decode bMo_doRegister 69 = .ok (.i2l, 1) := by decide +kernel
theorem dMo_doRegister_70 : decode bMo_doRegister 70 = .ok (.goto 19, 3) := by decide +kernel
theorem dMo_doRegister_73 : decode bMo_doRegister 73 = .ok (.iload_n 1, 1) := by decide +kernel
theorem dMo_doRegister_74 : decode bMo_doRegister 74 = .ok (.iconst 4, 1) := by decide +kernel
theorem dMo_doRegister_75 : decode bMo_doRegister 75 = .ok (.if_icmp .ne 11, 3) := by decide +kernel
theorem dMo_doRegister_78 : decode bMo_doRegister 78 = .ok (.iload 4, 2) := by decide +kernel
theorem dMo_doRegister_80 : decode bMo_doRegister 80 = .ok (.iload_n 2, 1) := by decide +kernel
theorem dMo_doRegister_81 : decode bMo_doRegister 81 = .ok (.iadd, 1) := by decide +kernel
theorem dMo_doRegister_82 : decode bMo_doRegister 82 = .ok (.i2l, 1) := by decide +kernel
theorem dMo_doRegister_83 : decode bMo_doRegister 83 = .ok (.goto 6, 3) := by decide +kernel
theorem dMo_doRegister_86 : decode bMo_doRegister 86 = .ok (.iload 4, 2) := by decide +kernel
theorem dMo_doRegister_88 : decode bMo_doRegister 88 = .ok (.i2l, 1) := by decide +kernel
theorem dMo_doRegister_89 : decode bMo_doRegister 89 = .ok (.putfield 122, 3) := by decide +kernel
theorem dMo_doRegister_92 : decode bMo_doRegister 92 = .ok (.return_, 1) := by decide +kernel
theorem dMo_doSet_0 : decode bMo_doSet 0 = .ok (.lconst 1, 1) := by decide +kernel
theorem dMo_doSet_1 : decode bMo_doSet 1 = .ok (.aload_n 0, 1) := by decide +kernel
theorem dMo_doSet_2 : decode bMo_doSet 2 = .ok (.iload_n 1, 1) := by decide +kernel
theorem dMo_doSet_3 : decode bMo_doSet 3 = .ok (.iload_n 2, 1) := by decide +kernel
theorem dMo_doSet_4 : decode bMo_doSet 4 = .ok (.invokevirtual 132, 3) := by decide +kernel
theorem dMo_doSet_7 : decode bMo_doSet 7 = .ok (.lshl, 1) := by decide +kernel
theorem dMo_doSet_8 : decode bMo_doSet 8 = .ok (.lstore 4, 2) := by decide +kernel
theorem dMo_doSet_10 : decode bMo_doSet 10 = .ok (.aload_n 0, 1) := by decide +kernel
theorem dMo_doSet_11 : decode bMo_doSet 11 = .ok (.getfield 122, 3) := by decide +kernel
theorem dMo_doSet_14 : decode bMo_doSet 14 = .ok (.lload 4, 2) := by decide +kernel
theorem dMo_doSet_16 : decode bMo_doSet 16 = .ok (.land, 1) := by decide +kernel
theorem dMo_doSet_17 : decode bMo_doSet 17 = .ok (.lconst 0, 1) := by decide +kernel
theorem dMo_doSet_18 : decode bMo_doSet 18 = .ok (.lcmp, 1) := by decide +kernel
theorem dMo_doSet_19 : decode bMo_doSet 19 = .ok (.ifCond .eq 7, 3) := by decide +kernel
theorem dMo_doSet_22 : decode bMo_doSet 22 = .ok (.iconst 1, 1) := by decide +kernel
theorem dMo_doSet_23 : decode bMo_doSet 23 = .ok (.goto 4, 3) := by decide +kernel
theorem dMo_doSet_26 : decode bMo_doSet 26 = .ok (.iconst 0, 1) := by decide +kernel
theorem dMo_doSet_27 : decode bMo_doSet 27 = .ok (.istore 6, 2) := by decide +kernel
theorem dMo_doSet_29 : decode bMo_doSet 29 = .ok (.aload_n 0, 1) := by decide +kernel
theorem dMo_doSet_30 : decode bMo_doSet 30 = .ok (.iload_n 3, 1) := by decide +kernel
theorem dMo_doSet_31 : decode bMo_doSet 31 = .ok (.ifCond .ne 16, 3) := by decide +kernel
theorem dMo_doSet_34 : decode bMo_doSet 34 = .ok (.iload 6, 2) := by decide +kernel
theorem dMo_doSet_36 : decode bMo_doSet 36 = .ok (.ifCond .eq 7, 3) := by decide +kernel
theorem dMo_doSet_39 : decode bMo_doSet 39 = .ok (.iconst 0, 1) := by decide +kernel
theorem dMo_doSet_40 : decode bMo_doSet 40 = .ok (.goto 17, 3) := by decide +kernel
theorem dMo_doSet_43 : decode bMo_doSet 43 = .ok (.iconst 1, 1) := by decide +kernel
theorem dMo_doSet_44 : decode bMo_doSet 44 = .ok (.goto 13, 3) := by decide +kernel
theorem dMo_doSet_47 : decode bMo_doSet 47 = .ok (.iload 6, 2) := by decide +kernel
theorem dMo_doSet_49 : decode bMo_doSet 49 = .ok (.ifCond .eq 7, 3) := by decide +kernel
theorem dMo_doSet_52 : decode bMo_doSet 52 = .ok (.iconst 1, 1) := by decide +kernel
theorem dMo_doSet_53 : decode bMo_doSet 53 = .ok (.goto 4, 3) := by decide +kernel
theorem dMo_doSet_56 : decode bMo_doSet 56 = .ok (.iconst 0, 1) := by decide +kernel
theorem dMo_doSet_57 : decode bMo_doSet 57 = .ok (.putfield 126, 3) := by decide +kernel
theorem dMo_doSet_60 : decode bMo_doSet 60 = .ok (.aload_n 0, 1) := by decide +kernel
theorem dMo_doSet_61 : decode bMo_doSet 61 = .ok (.iload_n 3, 1) := by decide +kernel
theorem dMo_doSet_62 : decode bMo_doSet 62 = .ok (.ifCond .ne 13, 3) := by decide +kernel
theorem dMo_doSet_65 : decode bMo_doSet 65 = .ok (.aload_n 0, 1) := by decide +kernel
theorem dMo_doSet_66 : decode bMo_doSet 66 = .ok (.getfield 122, 3) := by decide +kernel
theorem dMo_doSet_69 : decode bMo_doSet 69 = .ok (.lload 4, 2) := by decide +kernel
theorem dMo_doSet_71 : decode bMo_doSet 71 = .ok (.lor, 1) := by decide +kernel
theorem dMo_doSet_72 : decode bMo_doSet 72 = .ok (.goto 26, 3) := by decide +kernel
theorem dMo_doSet_75 : decode bMo_doSet 75 = .ok (.iload_n 3, 1) := by decide +kernel
theorem dMo_doSet_76 : decode bMo_doSet 76 = .ok (.iconst 1, 1) := by decide +kernel
theorem dMo_doSet_77 : decode bMo_doSet 77 = .ok (.if_icmp .ne 17, 3) := by decide +kernel
theorem dMo_doSet_80 : decode bMo_doSet 80 = .ok (.aload_n 0, 1) := by decide +kernel
theorem dMo_doSet_81 : decode bMo_doSet 81 = .ok (.getfield 122, 3) := by decide +kernel
theorem dMo_doSet_84 : decode bMo_doSet 84 = .ok (.lload 4, 2) := by decide +kernel
theorem dMo_doSet_86 : decode bMo_doSet 86 = .ok (.ldc2_w 141, 3) := by decide +kernel
theorem dMo_doSet_89 : decode bMo_doSet 89 = .ok (.lxor, 1) := by decide +kernel
theorem dMo_doSet_90 : decode bMo_doSet 90 = .ok (.land, 1) := by decide +kernel
theorem dMo_doSet_91 : decode bMo_doSet 91 = .ok (.goto 7, 3) := by decide +kernel
theorem dMo_doSet_94 : decode bMo_doSet 94 = .ok (.aload_n 0, 1) := by decide +kernel
theorem dMo_doSet_95 : decode bMo_doSet 95 = .ok (.getfield 122, 3) := by decide +kernel
theorem dMo_doSet_98 : decode bMo_doSet 98 = .ok (.putfield 122, 3) := by decide +kernel
theorem dMo_doSet_101 : decode bMo_doSet 101 = .ok (.return_, 1) := by decide +kernel
theorem dMo_likeFirst_0 : decode bMo_likeFirst 0 = .ok (.iconst 0, 1) := by decide +kernel
theorem dMo_likeFirst_1 : decode bMo_likeFirst 1 = .ok (.istore_n 3, 1) := by decide +kernel
theorem dMo_likeFirst_2 : decode bMo_likeFirst 2 = .ok (.aload_n 0, 1) := by decide +kernel
theorem dMo_likeFirst_3 : decode bMo_likeFirst 3 = .ok (.getfield 28, 3) := by decide +kernel
theorem dMo_likeFirst_6 : decode bMo_likeFirst 6 = .ok (.aload_n 0, 1) := by decide +kernel
theorem dMo_likeFirst_7 : decode bMo_likeFirst 7 = .ok (.getfield 16, 3) := by decide +kernel
theorem dMo_likeFirst_10 : decode bMo_likeFirst 10 = .ok (.bipush 16, 2) := by decide +kernel
theorem dMo_likeFirst_12 : decode bMo_likeFirst 12 = .ok (.iload_n 1, 1) := by decide +kernel
theorem dMo_likeFirst_13 : decode bMo_likeFirst 13 = .ok (.imul, 1) := by decide +kernel
theorem dMo_likeFirst_14 : decode bMo_likeFirst 14 = .ok (.iload_n 3, 1) := by decide +kernel
theorem dMo_likeFirst_15 : decode bMo_likeFirst 15 = .ok (.iadd, 1) := by decide +kernel
theorem dMo_likeFirst_16 : decode bMo_likeFirst 16 = .ok (.iaload, 1) := by decide +kernel
theorem dMo_likeFirst_17 : decode bMo_likeFirst 17 = .ok (.iaload, 1) := by decide +kernel
theorem dMo_likeFirst_18 : decode bMo_likeFirst 18 = .ok (.aload_n 0, 1) := by decide +kernel
theorem dMo_likeFirst_19 : decode bMo_likeFirst 19 = .ok (.getfield 28, 3) := by decide +kernel
theorem dMo_likeFirst_22 : decode bMo_likeFirst 22 = .ok (.aload_n 0, 1) := by decide +kernel
theorem dMo_likeFirst_23 : decode bMo_likeFirst 23 = .ok (.getfield 16, 3) := by decide +kernel
theorem dMo_likeFirst_26 : decode bMo_likeFirst 26 = .ok (.bipush 16, 2) := by decide +kernel
theorem dMo_likeFirst_28 : decode bMo_likeFirst 28 = .ok (.iload_n 1, 1) := by decide +kernel
theorem dMo_likeFirst_29 : decode bMo_likeFirst 29 = .ok (.imul, 1) := by decide +kernel
theorem dMo_likeFirst_30 : decode bMo_likeFirst 30 = .ok (.iload_n 2, 1) := by decide +kernel
theorem dMo_likeFirst_31 : decode bMo_likeFirst 31 = .ok (.iadd, 1) := by decide +kernel
theorem dMo_likeFirst_32 : decode bMo_likeFirst 32 = .ok (.iaload, 1) := by decide +kernel
theorem dMo_likeFirst_33 : decode bMo_likeFirst 33 = .ok (.iaload, 1) := by decide +kernel
theorem dMo_likeFirst_34 : decode bMo_likeFirst 34 = .ok (.if_icmp .eq 9, 3) := by decide +kernel
theorem dMo_likeFirst_37 : decode bMo_likeFirst 37 = .ok (.iinc 3 1, 3) := by decide +kernel
theorem dMo_likeFirst_40 : decode bMo_likeFirst 40 = .ok (.goto (-38), 3) := by decide +kernel
theorem dMo_likeFirst_43 : decode bMo_likeFirst 43 = .ok (.iload_n 3, 1) := by decide +kernel
theorem dMo_likeFirst_44 : decode bMo_likeFirst 44 = .ok (.ireturn, 1) := by decide +kernel
theorem dMo_doMap_0 : decode bMo_doMap 0 = .ok (.aload_n 0, 1) := by decide +kernel
theorem dMo_doMap_1 : decode bMo_doMap 1 = .ok (.getfield 16, 3) := by decide +kernel
theorem dMo_doMap_4 : decode bMo_doMap 4 = .ok (.bipush 16, 2) := by decide +kernel
theorem dMo_doMap_6 : decode bMo_doMap 6 = .ok (.iload_n 1, 1) := by decide +kernel
theorem dMo_doMap_7 : decode bMo_doMap 7 = .ok (.imul, 1) := by decide +kernel
theorem dMo_doMap_8 : decode bMo_doMap 8 = .ok (.iload_n 2, 1) := by decide +kernel
theorem dMo_doMap_9 : decode bMo_doMap 9 = .ok (.iadd, 1) := by decide +kernel
theorem dMo_doMap_10 : decode bMo_doMap 10 = .ok (.iaload, 1) := by decide +kernel
theorem dMo_doMap_11 : decode bMo_doMap 11 = .ok (.istore 4, 2) := by decide +kernel
theorem dMo_doMap_13 : decode bMo_doMap 13 = .ok (.iconst 5, 1) := by decide +kernel
theorem dMo_doMap_14 : decode bMo_doMap 14 = .ok (.aload_n 0, 1) := by decide +kernel
theorem dMo_doMap_15 : decode bMo_doMap 15 = .ok (.getfield 28, 3) := by decide +kernel
theorem dMo_doMap_18 : decode bMo_doMap 18 = .ok (.iload 4, 2) := by decide +kernel
theorem dMo_doMap_20 : decode bMo_doMap 20 = .ok (.iaload, 1) := by decide +kernel
theorem dMo_doMap_21 : decode bMo_doMap 21 = .ok (.bipush 7, 2) := by decide +kernel
theorem dMo_doMap_23 : decode bMo_doMap 23 = .ok (.iand, 1) := by decide +kernel
theorem dMo_doMap_24 : decode bMo_doMap 24 = .ok (.imul, 1) := by decide +kernel
theorem dMo_doMap_25 : decode bMo_doMap 25 = .ok (.istore 5, 2) := by decide +kernel
theorem dMo_doMap_27 : decode bMo_doMap 27 = .ok (.aload_n 0, 1) := by decide +kernel
theorem dMo_doMap_28 : decode bMo_doMap 28 = .ok (.getfield 122, 3) := by decide +kernel
theorem dMo_doMap_31 : decode bMo_doMap 31 = .ok (.iload 5, 2) := by decide +kernel
theorem dMo_doMap_33 : decode bMo_doMap 33 = .ok (.lushr, 1) := by decide +kernel
theorem dMo_doMap_34 : decode bMo_doMap 34 = .ok (.ldc2_w 143, 3) := by decide +kernel
theorem dMo_doMap_37 : decode bMo_doMap 37 = .ok (.land, 1) := by decide +kernel
theorem dMo_doMap_38 : decode bMo_doMap 38 = .ok (.l2i, 1) := by decide +kernel
theorem dMo_doMap_39 : decode bMo_doMap 39 = .ok (.istore 6, 2) := by decide +kernel
theorem dMo_doMap_41 : decode bMo_doMap 41 = .ok (.aload_n 0, 1) := by decide +kernel
theorem dMo_doMap_42 : decode bMo_doMap 42 = .ok (.iload 6, 2) := by decide +kernel
theorem dMo_doMap_44 : decode bMo_doMap 44 = .ok (.ifCond .ne 8, 3) := by decide +kernel
theorem dMo_doMap_47 : decode bMo_doMap 47 = .ok (.ldc 140, 2) := by decide +kernel
theorem dMo_doMap_49 : decode bMo_doMap 49 = .ok (.goto 22, 3) := by decide +kernel
theorem dMo_doMap_52 : decode bMo_doMap 52 = .ok (.aload_n 0, 1) := by decide +kernel
theorem dMo_doMap_53 : decode bMo_doMap 53 = .ok (.getfield 31, 3) := by decide +kernel
theorem dMo_doMap_56 : decode bMo_doMap 56 = .ok (.aload_n 0, 1) := by decide +kernel
theorem dMo_doMap_57 : decode bMo_doMap 57 = .ok (.getfield 16, 3) := by decide +kernel
theorem dMo_doMap_60 : decode bMo_doMap 60 = .ok (.bipush 16, 2) := by decide +kernel
theorem dMo_doMap_62 : decode bMo_doMap 62 = .ok (.iload_n 1, 1) := by decide +kernel
theorem dMo_doMap_63 : decode bMo_doMap 63 = .ok (.imul, 1) := by decide +kernel
theorem dMo_doMap_64 : decode bMo_doMap 64 = .ok (.iload 6, 2) := by decide +kernel
theorem dMo_doMap_66 : decode bMo_doMap 66 = .ok (.iadd, 1) := by decide +kernel
theorem dMo_doMap_67 : decode bMo_doMap 67 = .ok (.iconst 1, 1) := by decide +kernel
theorem dMo_doMap_68 : decode bMo_doMap 68 = .ok (.isub, 1) := by decide +kernel
theorem dMo_doMap_69 : decode bMo_doMap 69 = .ok (.iaload, 1) := by decide +kernel
theorem dMo_doMap_70 : decode bMo_doMap 70 = .ok (.iaload, 1) := by decide +kernel
theorem dMo_doMap_71 : decode bMo_doMap 71 = .ok (.putfield 126, 3) := by decide +kernel
theorem dMo_doMap_74 : decode bMo_doMap 74 = .ok (.iload_n 3, 1) := by decide +kernel
theorem dMo_doMap_75 : decode bMo_doMap 75 = .ok (.iconst 1, 1) := by decide +kernel
theorem dMo_doMap_76 : decode bMo_doMap 76 = .ok (.if_icmp .eq 22, 3) := by decide +kernel
theorem dMo_doMap_79 : decode bMo_doMap 79 = .ok (.aload_n 0, 1) := by decide +kernel
theorem dMo_doMap_80 : decode bMo_doMap 80 = .ok (.aload_n 0, 1) := by decide +kernel
theorem dMo_doMap_81 : decode bMo_doMap 81 = .ok (.getfield 122, 3) := by decide +kernel
theorem dMo_doMap_84 : decode bMo_doMap 84 = .ok (.ldc2_w 143, 3) := by decide +kernel
theorem dMo_doMap_87 : decode bMo_doMap 87 = .ok (.iload 5, 2) := by decide +kernel
theorem dMo_doMap_89 : decode bMo_doMap 89 = .ok (.lshl, 1) := by decide +kernel
theorem dMo_doMap_90 : decode bMo_doMap 90 = .ok (.ldc2_w 141, 3) := by decide +kernel
theorem dMo_doMap_93 : decode bMo_doMap 93 = .ok (.lxor, 1) := by decide +kernel
theorem dMo_doMap_94 : decode bMo_doMap 94 = .ok (.land, 1) := by decide +kernel
theorem dMo_doMap_95 : decode bMo_doMap 95 = .ok (.putfield 122, 3) := by decide +kernel
theorem dMo_doMap_98 : decode bMo_doMap 98 = .ok (.iload_n 3, 1) := by decide +kernel
theorem dMo_doMap_99 : decode bMo_doMap 99 = .ok (.ifCond .ne 36, 3) := by decide +kernel
theorem dMo_doMap_102 : decode bMo_doMap 102 = .ok (.aload_n 0, 1) := by decide +kernel
theorem dMo_doMap_103 : decode bMo_doMap 103 = .ok (.getfield 31, 3) := by decide +kernel
theorem dMo_doMap_106 : decode bMo_doMap 106 = .ok (.iload 4, 2) := by decide +kernel
theorem dMo_doMap_108 : decode bMo_doMap 108 = .ok (.iaload, 1) := by decide +kernel
theorem dMo_doMap_109 : decode bMo_doMap 109 = .ok (.ldc 140, 2) := by decide +kernel
theorem dMo_doMap_111 : decode bMo_doMap 111 = .ok (.if_icmp .eq 24, 3) := by decide +kernel
theorem dMo_doMap_114 : decode bMo_doMap 114 = .ok (.aload_n 0, 1) := by decide +kernel
theorem dMo_doMap_115 : decode bMo_doMap 115 = .ok (.aload_n 0, 1) := by decide +kernel
theorem dMo_doMap_116 : decode bMo_doMap 116 = .ok (.getfield 122, 3) := by decide +kernel
theorem dMo_doMap_119 : decode bMo_doMap 119 = .ok (.aload_n 0, 1) := by decide +kernel
theorem dMo_doMap_120 : decode bMo_doMap 120 = .ok (.iload_n 1, 1) := by decide +kernel
theorem dMo_doMap_121 : decode bMo_doMap 121 = .ok (.iload_n 2, 1) := by decide +kernel
theorem dMo_doMap_122 : decode bMo_doMap 122 = .ok (.invokevirtual 145, 3) := by decide +kernel
theorem dMo_doMap_125 : decode bMo_doMap 125 = .ok (.iconst 1, 1) := by decide +kernel
theorem dMo_doMap_126 : decode bMo_doMap 126 = .ok (.iadd, 1) := by decide +kernel
theorem dMo_doMap_127 : decode bMo_doMap 127 = .ok (.i2l, 1) := by decide +kernel
theorem dMo_doMap_128 : decode bMo_doMap 128 = .ok (.iload 5, 2) := by decide +kernel
theorem dMo_doMap_130 : decode bMo_doMap 130 = .ok (.lshl, 1) := by decide +kernel
theorem dMo_doMap_131 : decode bMo_doMap 131 = .ok (.lor, 1) := by decide +kernel
theorem dMo_doMap_132 : decode bMo_doMap 132 = .ok (.putfield 122, 3) := by decide +kernel
theorem dMo_doMap_135 : decode bMo_doMap 135 = .ok (.return_, 1) := by decide +kernel
theorem dMo_likeSecond_0 : decode bMo_likeSecond 0 = .ok (.iconst 0, 1) := by decide +kernel
theorem dMo_likeSecond_1 : decode bMo_likeSecond 1 = .ok (.istore_n 3, 1) := by decide +kernel
theorem dMo_likeSecond_2 : decode bMo_likeSecond 2 = .ok (.aload_n 0, 1) := by decide +kernel
theorem dMo_likeSecond_3 : decode bMo_likeSecond 3 = .ok (.getfield 31, 3) := by decide +kernel
theorem dMo_likeSecond_6 : decode bMo_likeSecond 6 = .ok (.aload_n 0, 1) := by decide +kernel
theorem dMo_likeSecond_7 : decode bMo_likeSecond 7 = .ok (.getfield 16, 3) := by decide +kernel
theorem dMo_likeSecond_10 : decode bMo_likeSecond 10 = .ok (.bipush 16, 2) := by decide +kernel
theorem dMo_likeSecond_12 : decode bMo_likeSecond 12 = .ok (.iload_n 1, 1) := by decide +kernel
theorem dMo_likeSecond_13 : decode bMo_likeSecond 13 = .ok (.imul, 1) := by decide +kernel
theorem dMo_likeSecond_14 : decode bMo_likeSecond 14 = .ok (.iload_n 3, 1) := by decide +kernel
theorem dMo_likeSecond_15 : decode bMo_likeSecond 15 = .ok (.iadd, 1) := by decide +kernel
theorem dMo_likeSecond_16 : decode bMo_likeSecond 16 = .ok (.iaload, 1) := by decide +kernel
theorem dMo_likeSecond_17 : decode bMo_likeSecond 17 = .ok (.iaload, 1) := by decide +kernel
theorem dMo_likeSecond_18 : decode bMo_likeSecond 18 = .ok (.aload_n 0, 1) := by decide +kernel
theorem dMo_likeSecond_19 : decode bMo_likeSecond 19 = .ok (.getfield 31, 3) := by decide +kernel
theorem dMo_likeSecond_22 : decode bMo_likeSecond 22 = .ok (.aload_n 0, 1) := by decide +kernel
theorem dMo_likeSecond_23 : decode bMo_likeSecond 23 = .ok (.getfield 16, 3) := by decide +kernel
theorem dMo_likeSecond_26 : decode bMo_likeSecond 26 = .ok (.bipush 16, 2) := by decide +kernel
theorem dMo_likeSecond_28 : decode bMo_likeSecond 28 = .ok (.iload_n 1, 1) := by decide +kernel
theorem dMo_likeSecond_29 : decode bMo_likeSecond 29 = .ok (.imul, 1) := by decide +kernel
theorem dMo_likeSecond_30 : decode bMo_likeSecond 30 = .ok (.iload_n 2, 1) := by decide +kernel
theorem dMo_likeSecond_31 : decode bMo_likeSecond 31 = .ok (.iadd, 1) := by decide +kernel
theorem dMo_likeSecond_32 : decode bMo_likeSecond 32 = .ok (.iaload, 1) := by decide +kernel
theorem dMo_likeSecond_33 : decode bMo_likeSecond 33 = .ok (.iaload, 1) := by decide +kernel
theorem dMo_likeSecond_34 : decode bMo_likeSecond 34 = .ok (.if_icmp .eq 9, 3) := by decide +kernel
theorem dMo_likeSecond_37 : decode bMo_likeSecond 37 = .ok (.iinc 3 1, 3) := by decide +kernel
theorem dMo_likeSecond_40 : decode bMo_likeSecond 40 = .ok (.goto (-38), 3) := by decide +kernel
theorem dMo_likeSecond_43 : decode bMo_likeSecond 43 = .ok (.iload_n 3, 1) := by decide +kernel
theorem dMo_likeSecond_44 : decode bMo_likeSecond 44 = .ok (.ireturn, 1) := by decide +kernel
