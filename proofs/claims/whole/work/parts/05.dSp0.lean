theorem dSp_init_0 : decode bSp_init 0 = .ok (.aload_n 0, 1) := by decide +kernel
theorem dSp_init_1 : decode bSp_init 1 = .ok (.invokespecial 3, 3) := by decide +kernel
theorem dSp_init_4 : decode bSp_init 4 = .ok (.aload_n 0, 1) := by decide +kernel
theorem dSp_init_5 : decode bSp_init 5 = .ok (.new 9, 3) := by decide +kernel
theorem dSp_init_8 : decode bSp_init 8 = .ok (.dup, 1) := by decide +kernel
theorem dSp_init_9 : decode bSp_init 9 = .ok (.invokespecial 11, 3) := by decide +kernel
theorem dSp_init_12 : decode bSp_init 12 = .ok (.putfield 12, 3) := by decide +kernel
theorem dSp_init_15 : decode bSp_init 15 = .ok (.aload_n 0, 1) := by decide +kernel
theorem dSp_init_16 : decode bSp_init 16 = .ok (.new 18, 3) := by decide +kernel
theorem dSp_init_19 : decode bSp_init 19 = .ok (.dup, 1) := by decide +kernel
theorem dSp_init_20 : decode bSp_init 20 = .ok (.invokespecial 20, 3) := by decide +kernel
theorem dSp_init_23 : decode bSp_init 23 = .ok (.putfield 21, 3) := by decide +kernel
theorem dSp_init_26 : decode bSp_init 26 = .ok (.aload_n 0, 1) := by decide +kernel
theorem dSp_init_27 : decode bSp_init 27 = .ok (.sipush 2000, 3) := by decide +kernel
theorem dSp_init_30 : decode bSp_init 30 = .ok (.newarray .long, 2) := by decide +kernel
theorem dSp_init_32 : decode bSp_init 32 = .ok (.putfield 25, 3) := by decide +kernel
theorem dSp_init_35 : decode bSp_init 35 = .ok (.aload_n 0, 1) := by decide +kernel
theorem dSp_init_36 : decode bSp_init 36 = .ok (.sipush 2000, 3) := by decide +kernel
theorem dSp_init_39 : decode bSp_init 39 = .ok (.newarray .boolean, 2) := by decide +kernel
theorem dSp_init_41 : decode bSp_init 41 = .ok (.putfield 29, 3) := by decide +kernel
theorem dSp_init_44 : decode bSp_init 44 = .ok (.return_, 1) := by decide +kernel
theorem dSp_explore_0 : decode bSp_explore 0 = .ok (.aload_n 0, 1) := by decide +kernel
theorem dSp_explore_1 : decode bSp_explore 1 = .ok (.iload_n 2, 1) := by decide +kernel
theorem dSp_explore_2 : decode bSp_explore 2 = .ok (.putfield 33, 3) := by decide +kernel
theorem dSp_explore_5 : decode bSp_explore 5 = .ok (.aload_n 0, 1) := by decide +kernel
theorem dSp_explore_6 : decode bSp_explore 6 = .ok (.iload_n 3, 1) := by decide +kernel
theorem dSp_explore_7 : decode bSp_explore 7 = .ok (.putfield 37, 3) := by decide +kernel
theorem dSp_explore_10 : decode bSp_explore 10 = .ok (.aload_n 0, 1) := by decide +kernel
theorem dSp_explore_11 : decode bSp_explore 11 = .ok (.iload 4, 2) := by decide +kernel
theorem dSp_explore_13 : decode bSp_explore 13 = .ok (.putfield 40, 3) := by decide +kernel
theorem dSp_explore_16 : decode bSp_explore 16 = .ok (.aload_n 0, 1) := by decide +kernel
theorem dSp_explore_17 : decode bSp_explore 17 = .ok (.iconst 0, 1) := by decide +kernel
theorem dSp_explore_18 : decode bSp_explore 18 = .ok (.putfield 44, 3) := by decide +kernel
theorem dSp_explore_21 : decode bSp_explore 21 = .ok (.aload_n 0, 1) := by decide +kernel
theorem dSp_explore_22 : decode bSp_explore 22 = .ok (.getfield 12, 3) := by decide +kernel
theorem dSp_explore_25 : decode bSp_explore 25 = .ok (.invokevirtual 47, 3) := by decide +kernel
theorem dSp_explore_28 : decode bSp_explore 28 = .ok (.aload_n 0, 1) := by decide +kernel
theorem dSp_explore_29 : decode bSp_explore 29 = .ok (.getfield 12, 3) := by decide +kernel
theorem dSp_explore_32 : decode bSp_explore 32 = .ok (.iconst 0, 1) := by decide +kernel
theorem dSp_explore_33 : decode bSp_explore 33 = .ok (.lconst 0, 1) := by decide +kernel
theorem dSp_explore_34 : decode bSp_explore 34 = .ok (.invokevirtual 50, 3) := by decide +kernel
theorem dSp_explore_37 : decode bSp_explore 37 = .ok (.pop, 1) := by decide +kernel
theorem dSp_explore_38 : decode bSp_explore 38 = .ok (.aload_n 0, 1) := by decide +kernel
theorem dSp_explore_39 : decode bSp_explore 39 = .ok (.getfield 25, 3) := by decide +kernel
theorem dSp_explore_42 : decode bSp_explore 42 = .ok (.iconst 0, 1) := by decide +kernel
theorem dSp_explore_43 : decode bSp_explore 43 = .ok (.lconst 1, 1) := by decide +kernel
theorem dSp_explore_44 : decode bSp_explore 44 = .ok (.lastore, 1) := by decide +kernel
theorem dSp_explore_45 : decode bSp_explore 45 = .ok (.iconst 0, 1) := by decide +kernel
theorem dSp_explore_46 : decode bSp_explore 46 = .ok (.istore 5, 2) := by decide +kernel
theorem dSp_explore_48 : decode bSp_explore 48 = .ok (.iload 5, 2) := by decide +kernel
theorem dSp_explore_50 : decode bSp_explore 50 = .ok (.sipush 2000, 3) := by decide +kernel
theorem dSp_explore_53 : decode bSp_explore 53 = .ok (.if_icmp .ge 134, 3) := by decide +kernel
theorem dSp_explore_56 : decode bSp_explore 56 = .ok (.iload 5, 2) := by decide +kernel
theorem dSp_explore_58 : decode bSp_explore 58 = .ok (.aload_n 0, 1) := by decide +kernel
theorem dSp_explore_59 : decode bSp_explore 59 = .ok (.getfield 12, 3) := by decide +kernel
theorem dSp_explore_62 : decode bSp_explore 62 = .ok (.getfield 54, 3) := by decide +kernel
theorem dSp_explore_65 : decode bSp_explore 65 = .ok (.if_icmp .ge 122, 3) := by decide +kernel
theorem dSp_explore_68 : decode bSp_explore 68 = .ok (.iconst 0, 1) := by decide +kernel
theorem dSp_explore_69 : decode bSp_explore 69 = .ok (.istore 6, 2) := by decide +kernel
theorem dSp_explore_71 : decode bSp_explore 71 = .ok (.iload 6, 2) := by decide +kernel
theorem dSp_explore_73 : decode bSp_explore 73 = .ok (.aload_n 0, 1) := by decide +kernel
theorem dSp_explore_74 : decode bSp_explore 74 = .ok (.getfield 33, 3) := by decide +kernel
theorem dSp_explore_77 : decode bSp_explore 77 = .ok (.if_icmp .ge 104, 3) := by decide +kernel
theorem dSp_explore_80 : decode bSp_explore 80 = .ok (.aload_n 0, 1) := by decide +kernel
theorem dSp_explore_81 : decode bSp_explore 81 = .ok (.aload_n 1, 1) := by decide +kernel
theorem dSp_explore_82 : decode bSp_explore 82 = .ok (.iload 5, 2) := by decide +kernel
theorem dSp_explore_84 : decode bSp_explore 84 = .ok (.iload 6, 2) := by decide +kernel
theorem dSp_explore_86 : decode bSp_explore 86 = .ok (.invokevirtual 55, 3) := by decide +kernel
theorem dSp_explore_89 : decode bSp_explore 89 = .ok (.ifCond .ne 6, 3) := by decide +kernel
theorem dSp_explore_92 : decode bSp_explore 92 = .ok (.goto 83, 3) := by decide +kernel
theorem dSp_explore_95 : decode bSp_explore 95 = .ok (.aload_n 0, 1) := by decide +kernel
theorem dSp_explore_96 : decode bSp_explore 96 = .ok (.getfield 12, 3) := by decide +kernel
theorem dSp_explore_99 : decode bSp_explore 99 = .ok (.getfield 54, 3) := by decide +kernel
theorem dSp_explore_102 : decode bSp_explore 102 = .ok (.istore 7, 2) := by decide +kernel
theorem dSp_explore_104 : decode bSp_explore 104 = .ok (.aload_n 0, 1) := by decide +kernel
theorem dSp_explore_105 : decode bSp_explore 105 = .ok (.getfield 12, 3) := by decide +kernel
theorem dSp_explore_108 : decode bSp_explore 108 = .ok (.aload_n 0, 1) := by decide +kernel
theorem dSp_explore_109 : decode bSp_explore 109 = .ok (.iload 5, 2) := by decide +kernel
theorem dSp_explore_111 : decode bSp_explore 111 = .ok (.iload 6, 2) := by decide +kernel
theorem dSp_explore_113 : decode bSp_explore 113 = .ok (.invokevirtual 59, 3) := by decide +kernel
theorem dSp_explore_116 : decode bSp_explore 116 = .ok (.aload_n 0, 1) := by decide +kernel
theorem dSp_explore_117 : decode bSp_explore 117 = .ok (.getfield 21, 3) := by decide +kernel
theorem dSp_explore_120 : decode bSp_explore 120 = .ok (.getfield 63, 3) := by decide +kernel
theorem dSp_explore_123 : decode bSp_explore 123 = .ok (.invokevirtual 50, 3) := by decide +kernel
theorem dSp_explore_126 : decode bSp_explore 126 = .ok (.istore 8, 2) := by decide +kernel
theorem dSp_explore_128 : decode bSp_explore 128 = .ok (.iload 8, 2) := by decide +kernel
theorem dSp_explore_130 : decode bSp_explore 130 = .ok (.iconst (-1), 1) := by decide +kernel
theorem dSp_explore_131 : decode bSp_explore 131 = .ok (.if_icmp .ne 5, 3) := by decide +kernel
theorem dSp_explore_134 : decode bSp_explore 134 = .ok (.iconst 0, 1) := by decide +kernel
theorem dSp_explore_135 : decode bSp_explore 135 = .ok (.ireturn, 1) := by decide +kernel
theorem dSp_explore_136 : decode bSp_explore 136 = .ok (.aload_n 0, 1) := by decide +kernel
theorem dSp_explore_137 : decode bSp_explore 137 = .ok (.getfield 25, 3) := by decide +kernel
theorem dSp_explore_140 : decode bSp_explore 140 = .ok (.iload 8, 2) := by decide +kernel
theorem dSp_explore_142 : decode bSp_explore 142 = .ok (.iload 8, 2) := by decide +kernel
theorem dSp_explore_144 : decode bSp_explore 144 = .ok (.iload 7, 2) := by decide +kernel
theorem dSp_explore_146 : decode bSp_explore 146 = .ok (.if_icmp .ne 13, 3) := by decide +kernel
theorem dSp_explore_149 : decode bSp_explore 149 = .ok (.aload_n 0, 1) := by decide +kernel
theorem dSp_explore_150 : decode bSp_explore 150 = .ok (.getfield 25, 3) := by decide +kernel
theorem dSp_explore_153 : decode bSp_explore 153 = .ok (.iload 5, 2) := by decide +kernel
theorem dSp_explore_155 : decode bSp_explore 155 = .ok (.laload, 1) := by decide +kernel
theorem dSp_explore_156 : decode bSp_explore 156 = .ok (.goto 18, 3) := by decide +kernel
theorem dSp_explore_159 : decode bSp_explore 159 = .ok (.aload_n 0, 1) := by decide +kernel
theorem dSp_explore_160 : decode bSp_explore 160 = .ok (.getfield 25, 3) := by decide +kernel
theorem dSp_explore_163 : decode bSp_explore 163 = .ok (.iload 8, 2) := by decide +kernel
theorem dSp_explore_165 : decode bSp_explore 165 = .ok (.laload, 1) := by decide +kernel
theorem dSp_explore_166 : decode bSp_explore 166 = .ok (.aload_n 0, 1) := by decide +kernel
theorem dSp_explore_167 : decode bSp_explore 167 = .ok (.getfield 25, 3) := by decide +kernel
theorem dSp_explore_170 : decode bSp_explore 170 = .ok (.iload 5, 2) := by decide +kernel
theorem dSp_explore_172 : decode bSp_explore 172 = .ok (.laload, 1) := by decide +kernel
theorem dSp_explore_173 : decode bSp_explore 173 = .ok (.ladd, 1) := by decide +kernel
theorem dSp_explore_174 : decode bSp_explore 174 = .ok (.lastore, 1) := by decide +kernel
theorem dSp_explore_175 : decode bSp_explore 175 = .ok (.iinc 6 1, 3) := by decide +kernel
theorem dSp_explore_178 : decode bSp_explore 178 = .ok (.goto (-107), 3) := by decide +kernel
theorem dSp_explore_181 : decode bSp_explore 181 = .ok (.iinc 5 1, 3) := by decide +kernel
theorem dSp_explore_184 : decode bSp_explore 184 = .ok (.goto (-136), 3) := by decide +kernel
theorem dSp_explore_187 : decode bSp_explore 187 = .ok (.iconst 1, 1) := by decide +kernel
theorem dSp_explore_188 : decode bSp_explore 188 = .ok (.ireturn, 1) := by decide +kernel
theorem dSp_step_0 : decode bSp_step 0 = .ok (.aload_n 0, 1) := by decide +kernel
theorem dSp_step_1 : decode bSp_step 1 = .ok (.getfield 12, 3) := by decide +kernel
theorem dSp_step_4 : decode bSp_step 4 = .ok (.getfield 67, 3) := by decide +kernel
theorem dSp_step_7 : decode bSp_step 7 = .ok (.iload_n 2, 1) := by decide +kernel
theorem dSp_step_8 : decode bSp_step 8 = .ok (.iaload, 1) := by decide +kernel
theorem dSp_step_9 : decode bSp_step 9 = .ok (.ldc 71, 2) := by decide +kernel
theorem dSp_step_11 : decode bSp_step 11 = .ok (.iand, 1) := by decide +kernel
theorem dSp_step_12 : decode bSp_step 12 = .ok (.istore 4, 2) := by decide +kernel
theorem dSp_step_14 : decode bSp_step 14 = .ok (.aload_n 1, 1) := by decide +kernel
theorem dSp_step_15 : decode bSp_step 15 = .ok (.getfield 72, 3) := by decide +kernel
theorem dSp_step_18 : decode bSp_step 18 = .ok (.iload_n 3, 1) := by decide +kernel
theorem dSp_step_19 : decode bSp_step 19 = .ok (.aaload, 1) := by decide +kernel
theorem dSp_step_20 : decode bSp_step 20 = .ok (.astore 5, 2) := by decide +kernel
theorem dSp_step_22 : decode bSp_step 22 = .ok (.aload_n 0, 1) := by decide +kernel
theorem dSp_step_23 : decode bSp_step 23 = .ok (.getfield 40, 3) := by decide +kernel
theorem dSp_step_26 : decode bSp_step 26 = .ok (.ifCond .eq 11, 3) := by decide +kernel
theorem dSp_step_29 : decode bSp_step 29 = .ok (.aload 5, 2) := by decide +kernel
theorem dSp_step_31 : decode bSp_step 31 = .ok (.getfield 78, 3) := by decide +kernel
theorem dSp_step_34 : decode bSp_step 34 = .ok (.goto 8, 3) := by decide +kernel
theorem dSp_step_37 : decode bSp_step 37 = .ok (.aload 5, 2) := by decide +kernel
theorem dSp_step_39 : decode bSp_step 39 = .ok (.getfield 83, 3) := by decide +kernel
theorem dSp_step_42 : decode bSp_step 42 = .ok (.istore 6, 2) := by decide +kernel
theorem dSp_step_44 : decode bSp_step 44 = .ok (.iload 4, 2) := by decide +kernel
theorem dSp_step_46 : decode bSp_step 46 = .ok (.iload_n 3, 1) := by decide +kernel
theorem dSp_step_47 : decode bSp_step 47 = .ok (.iushr, 1) := by decide +kernel
theorem dSp_step_48 : decode bSp_step 48 = .ok (.iconst 1, 1) := by decide +kernel
theorem dSp_step_49 : decode bSp_step 49 = .ok (.iand, 1) := by decide +kernel
theorem dSp_step_50 : decode bSp_step 50 = .ok (.ifCond .ne 13, 3) := by decide +kernel
theorem dSp_step_53 : decode bSp_step 53 = .ok (.iload 6, 2) := by decide +kernel
theorem dSp_step_55 : decode bSp_step 55 = .ok (.iload 4, 2) := by decide +kernel
theorem dSp_step_57 : decode bSp_step 57 = .ok (.iconst (-1), 1) := by decide +kernel
theorem dSp_step_58 : decode bSp_step 58 = .ok (.ixor, 1) := by decide +kernel
theorem dSp_step_59 : decode bSp_step 59 = .ok (.iand, 1) := by decide +kernel
theorem dSp_step_60 : decode bSp_step 60 = .ok (.ifCond .eq 5, 3) := by decide +kernel
theorem dSp_step_63 : decode bSp_step 63 = .ok (.iconst 0, 1) := by decide +kernel
theorem dSp_step_64 : decode bSp_step 64 = .ok (.ireturn, 1) := by decide +kernel
theorem dSp_step_65 : decode bSp_step 65 = .ok (.aload_n 0, 1) := by decide +kernel
theorem dSp_step_66 : decode bSp_step 66 = .ok (.getfield 21, 3) := by decide +kernel
theorem dSp_step_69 : decode bSp_step 69 = .ok (.aload_n 0, 1) := by decide +kernel
theorem dSp_step_70 : decode bSp_step 70 = .ok (.getfield 12, 3) := by decide +kernel
theorem dSp_step_73 : decode bSp_step 73 = .ok (.getfield 86, 3) := by decide +kernel
theorem dSp_step_76 : decode bSp_step 76 = .ok (.iload_n 2, 1) := by decide +kernel
theorem dSp_step_77 : decode bSp_step 77 = .ok (.laload, 1) := by decide +kernel
theorem dSp_step_78 : decode bSp_step 78 = .ok (.aload_n 0, 1) := by decide +kernel
theorem dSp_step_79 : decode bSp_step 79 = .ok (.getfield 12, 3) := by decide +kernel
theorem dSp_step_82 : decode bSp_step 82 = .ok (.getfield 67, 3) := by decide +kernel
theorem dSp_step_85 : decode bSp_step 85 = .ok (.iload_n 2, 1) := by decide +kernel
theorem dSp_step_86 : decode bSp_step 86 = .ok (.iaload, 1) := by decide +kernel
theorem dSp_step_87 : decode bSp_step 87 = .ok (.bipush 16, 2) := by decide +kernel
theorem dSp_step_89 : decode bSp_step 89 = .ok (.iushr, 1) := by decide +kernel
theorem dSp_step_90 : decode bSp_step 90 = .ok (.invokevirtual 89, 3) := by decide +kernel
theorem dSp_step_93 : decode bSp_step 93 = .ok (.aload_n 0, 1) := by decide +kernel
theorem dSp_step_94 : decode bSp_step 94 = .ok (.getfield 21, 3) := by decide +kernel
theorem dSp_step_97 : decode bSp_step 97 = .ok (.aload_n 1, 1) := by decide +kernel
theorem dSp_step_98 : decode bSp_step 98 = .ok (.getfield 93, 3) := by decide +kernel
theorem dSp_step_101 : decode bSp_step 101 = .ok (.aload 5, 2) := by decide +kernel
theorem dSp_step_103 : decode bSp_step 103 = .ok (.aload_n 1, 1) := by decide +kernel
theorem dSp_step_104 : decode bSp_step 104 = .ok (.getfield 72, 3) := by decide +kernel
theorem dSp_step_107 : decode bSp_step 107 = .ok (.invokevirtual 96, 3) := by decide +kernel
theorem dSp_step_110 : decode bSp_step 110 = .ok (.aload_n 0, 1) := by decide +kernel
theorem dSp_step_111 : decode bSp_step 111 = .ok (.getfield 37, 3) := by decide +kernel
theorem dSp_step_114 : decode bSp_step 114 = .ok (.iload_n 3, 1) := by decide +kernel
theorem dSp_step_115 : decode bSp_step 115 = .ok (.iushr, 1) := by decide +kernel
theorem dSp_step_116 : decode bSp_step 116 = .ok (.iconst 1, 1) := by decide +kernel
theorem dSp_step_117 : decode bSp_step 117 = .ok (.iand, 1) := by decide +kernel
theorem dSp_step_118 : decode bSp_step 118 = .ok (.ifCond .ne 7, 3) := by decide +kernel
theorem dSp_step_121 : decode bSp_step 121 = .ok (.iconst 1, 1) := by decide +kernel
theorem dSp_step_122 : decode bSp_step 122 = .ok (.goto 4, 3) := by decide +kernel
theorem dSp_step_125 : decode bSp_step 125 = .ok (.iconst 0, 1) := by decide +kernel
theorem dSp_step_126 : decode bSp_step 126 = .ok (.istore 7, 2) := by decide +kernel
theorem dSp_step_128 : decode bSp_step 128 = .ok (.iload 7, 2) := by decide +kernel
theorem dSp_step_130 : decode bSp_step 130 = .ok (.ifCond .ne 18, 3) := by decide +kernel
theorem dSp_step_133 : decode bSp_step 133 = .ok (.aload_n 0, 1) := by decide +kernel
theorem dSp_step_134 : decode bSp_step 134 = .ok (.getfield 21, 3) := by decide +kernel
theorem dSp_step_137 : decode bSp_step 137 = .ok (.getfield 100, 3) := by decide +kernel
theorem dSp_step_140 : decode bSp_step 140 = .ok (.aload 5, 2) := by decide +kernel
theorem dSp_step_142 : decode bSp_step 142 = .ok (.getfield 103, 3) := by decide +kernel
theorem dSp_step_145 : decode bSp_step 145 = .ok (.if_icmp .ne 7, 3) := by decide +kernel
theorem dSp_step_148 : decode bSp_step 148 = .ok (.iconst 1, 1) := by decide +kernel
theorem dSp_step_149 : decode bSp_step 149 = .ok (.goto 4, 3) := by decide +kernel
theorem dSp_step_152 : decode bSp_step 152 = .ok (.iconst 0, 1) := by decide +kernel
theorem dSp_step_153 : decode bSp_step 153 = .ok (.ireturn, 1) := by decide +kernel
theorem dSp_keyBehind_0 : decode bSp_keyBehind 0 = .ok (.aload_n 0, 1) := by decide +kernel
theorem dSp_keyBehind_1 : decode bSp_keyBehind 1 = .ok (.getfield 12, 3) := by decide +kernel
theorem dSp_keyBehind_4 : decode bSp_keyBehind 4 = .ok (.getfield 67, 3) := by decide +kernel
theorem dSp_keyBehind_7 : decode bSp_keyBehind 7 = .ok (.iload_n 1, 1) := by decide +kernel
theorem dSp_keyBehind_8 : decode bSp_keyBehind 8 = .ok (.iaload, 1) := by decide +kernel
theorem dSp_keyBehind_9 : decode bSp_keyBehind 9 = .ok (.ldc 71, 2) := by decide +kernel
theorem dSp_keyBehind_11 : decode bSp_keyBehind 11 = .ok (.iand, 1) := by decide +kernel
theorem dSp_keyBehind_12 : decode bSp_keyBehind 12 = .ok (.iconst 1, 1) := by decide +kernel
theorem dSp_keyBehind_13 : decode bSp_keyBehind 13 = .ok (.iload_n 2, 1) := by decide +kernel
theorem dSp_keyBehind_14 : decode bSp_keyBehind 14 = .ok (.ishl, 1) := by decide +kernel
theorem dSp_keyBehind_15 : decode bSp_keyBehind 15 = .ok (.ior, 1) := by decide +kernel
theorem dSp_keyBehind_16 : decode bSp_keyBehind 16 = .ok (.aload_n 0, 1) := by decide +kernel
theorem dSp_keyBehind_17 : decode bSp_keyBehind 17 = .ok (.getfield 21, 3) := by decide +kernel
theorem dSp_keyBehind_20 : decode bSp_keyBehind 20 = .ok (.getfield 104, 3) := by decide +kernel
theorem dSp_keyBehind_23 : decode bSp_keyBehind 23 = .ok (.bipush 16, 2) := by decide +kernel
theorem dSp_keyBehind_25 : decode bSp_keyBehind 25 = .ok (.ishl, 1) := by decide +kernel
theorem dSp_keyBehind_26 : decode bSp_keyBehind 26 = .ok (.ior, 1) := by decide +kernel
theorem dSp_keyBehind_27 : decode bSp_keyBehind 27 = .ok (.ireturn, 1) := by decide +kernel
theorem dSp_waysToEnds_0 : decode bSp_waysToEnds 0 = .ok (.lconst 0, 1) := by decide +kernel
theorem dSp_waysToEnds_1 : decode bSp_waysToEnds 1 = .ok (.lstore_n 1, 1) := by decide +kernel
theorem dSp_waysToEnds_2 : decode bSp_waysToEnds 2 = .ok (.iconst 0, 1) := by decide +kernel
theorem dSp_waysToEnds_3 : decode bSp_waysToEnds 3 = .ok (.istore_n 3, 1) := by decide +kernel
theorem dSp_waysToEnds_4 : decode bSp_waysToEnds 4 = .ok (.iload_n 3, 1) := by decide +kernel
theorem dSp_waysToEnds_5 : decode bSp_waysToEnds 5 = .ok (.aload_n 0, 1) := by decide +kernel
theorem dSp_waysToEnds_6 : decode bSp_waysToEnds 6 = .ok (.getfield 12, 3) := by decide +kernel
theorem dSp_waysToEnds_9 : decode bSp_waysToEnds 9 = .ok (.getfield 54, 3) := by decide +kernel
theorem dSp_waysToEnds_12 : decode bSp_waysToEnds 12 = .ok (.if_icmp .ge 26, 3) := by decide +kernel
theorem dSp_waysToEnds_15 : decode bSp_waysToEnds 15 = .ok (.aload_n 0, 1) := by decide +kernel
theorem dSp_waysToEnds_16 : decode bSp_waysToEnds 16 = .ok (.iload_n 3, 1) := by decide +kernel
theorem dSp_waysToEnds_17 : decode bSp_waysToEnds 17 = .ok (.invokevirtual 110, 3) := by decide +kernel
theorem dSp_waysToEnds_20 : decode bSp_waysToEnds 20 = .ok (.ifCond .eq 12, 3) := by decide +kernel
theorem dSp_waysToEnds_23 : decode bSp_waysToEnds 23 = .ok (.lload_n 1, 1) := by decide +kernel
theorem dSp_waysToEnds_24 : decode bSp_waysToEnds 24 = .ok (.aload_n 0, 1) := by decide +kernel
theorem dSp_waysToEnds_25 : decode bSp_waysToEnds 25 = .ok (.getfield 25, 3) := by decide +kernel
theorem dSp_waysToEnds_28 : decode bSp_waysToEnds 28 = .ok (.iload_n 3, 1) := by decide +kernel
theorem dSp_waysToEnds_29 : decode bSp_waysToEnds 29 = .ok (.laload, 1) := by decide +kernel
theorem dSp_waysToEnds_30 : decode bSp_waysToEnds 30 = .ok (.ladd, 1) := by decide +kernel
theorem dSp_waysToEnds_31 : decode bSp_waysToEnds 31 = .ok (.lstore_n 1, 1) := by decide +kernel
theorem dSp_waysToEnds_32 : decode bSp_waysToEnds 32 = .ok (.iinc 3 1, 3) := by decide +kernel
theorem dSp_waysToEnds_35 : decode bSp_waysToEnds 35 = .ok (.goto (-31), 3) := by decide +kernel
theorem dSp_waysToEnds_38 : decode bSp_waysToEnds 38 = .ok (.lload_n 1, 1) := by decide +kernel
theorem dSp_waysToEnds_39 : decode bSp_waysToEnds 39 = .ok (.lreturn, 1) := by decide +kernel
theorem dSp_isEnd_0 : decode bSp_isEnd 0 = .ok (.aload_n 0, 1) := by decide +kernel
theorem dSp_isEnd_1 : decode bSp_isEnd 1 = .ok (.getfield 37, 3) := by decide +kernel
theorem dSp_isEnd_4 : decode bSp_isEnd 4 = .ok (.aload_n 0, 1) := by decide +kernel
theorem dSp_isEnd_5 : decode bSp_isEnd 5 = .ok (.getfield 12, 3) := by decide +kernel
theorem dSp_isEnd_8 : decode bSp_isEnd 8 = .ok (.getfield 67, 3) := by decide +kernel
theorem dSp_isEnd_11 : decode bSp_isEnd 11 = .ok (.iload_n 1, 1) := by decide +kernel
theorem dSp_isEnd_12 : decode bSp_isEnd 12 = .ok (.iaload, 1) := by decide +kernel
theorem dSp_isEnd_13 : decode bSp_isEnd 13 = .ok (.iconst (-1), 1) := by decide +kernel
theorem dSp_isEnd_14 : decode bSp_isEnd 14 = .ok (.ixor, 1) := by decide +kernel
theorem dSp_isEnd_15 : decode bSp_isEnd 15 = .ok (.iand, 1) := by decide +kernel
theorem dSp_isEnd_16 : decode bSp_isEnd 16 = .ok (.ifCond .ne 7, 3) := by decide +kernel
theorem dSp_isEnd_19 : decode bSp_isEnd 19 = .ok (.iconst 1, 1) := by decide +kernel
theorem dSp_isEnd_20 : decode bSp_isEnd 20 = .ok (.goto 4, 3) := by decide +kernel
theorem dSp_isEnd_23 : decode bSp_isEnd 23 = .ok (.iconst 0, 1) := by decide +kernel
theorem dSp_isEnd_24 : decode bSp_isEnd 24 = .ok (.ireturn, 1) := by decide +kernel
theorem dSp_statesAtEnds_0 : decode bSp_statesAtEnds 0 = .ok (.aload_n 1, 1) := by decide +kernel
theorem dSp_statesAtEnds_1 : decode bSp_statesAtEnds 1 = .ok (.invokevirtual 47, 3) := by decide +kernel
theorem dSp_statesAtEnds_4 : decode bSp_statesAtEnds 4 = .ok (.iconst 0, 1) := by decide +kernel
theorem dSp_statesAtEnds_5 : decode bSp_statesAtEnds 5 = .ok (.istore_n 2, 1) := by decide +kernel
theorem dSp_statesAtEnds_6 : decode bSp_statesAtEnds 6 = .ok (.iload_n 2, 1) := by decide +kernel
theorem dSp_statesAtEnds_7 : decode bSp_statesAtEnds 7 = .ok (.aload_n 0, 1) := by decide +kernel
theorem dSp_statesAtEnds_8 : decode bSp_statesAtEnds 8 = .ok (.getfield 12, 3) := by decide +kernel
theorem dSp_statesAtEnds_11 : decode bSp_statesAtEnds 11 = .ok (.getfield 54, 3) := by decide +kernel
theorem dSp_statesAtEnds_14 : decode bSp_statesAtEnds 14 = .ok (.if_icmp .ge 43, 3) := by decide +kernel
theorem dSp_statesAtEnds_17 : decode bSp_statesAtEnds 17 = .ok (.aload_n 0, 1) := by decide +kernel
theorem dSp_statesAtEnds_18 : decode bSp_statesAtEnds 18 = .ok (.iload_n 2, 1) := by decide +kernel
theorem dSp_statesAtEnds_19 : decode bSp_statesAtEnds 19 = .ok (.invokevirtual 110, 3) := by decide +kernel
theorem dSp_statesAtEnds_22 : decode bSp_statesAtEnds 22 = .ok (.ifCond .eq 29, 3) := by decide +kernel
theorem dSp_statesAtEnds_25 : decode bSp_statesAtEnds 25 = .ok (.aload_n 1, 1) := by decide +kernel
theorem dSp_statesAtEnds_26 : decode bSp_statesAtEnds 26 = .ok (.aload_n 0, 1) := by decide +kernel
theorem dSp_statesAtEnds_27 : decode bSp_statesAtEnds 27 = .ok (.getfield 12, 3) := by decide +kernel
theorem dSp_statesAtEnds_30 : decode bSp_statesAtEnds 30 = .ok (.getfield 67, 3) := by decide +kernel
theorem dSp_statesAtEnds_33 : decode bSp_statesAtEnds 33 = .ok (.iload_n 2, 1) := by decide +kernel
theorem dSp_statesAtEnds_34 : decode bSp_statesAtEnds 34 = .ok (.iaload, 1) := by decide +kernel
theorem dSp_statesAtEnds_35 : decode bSp_statesAtEnds 35 = .ok (.bipush 16, 2) := by decide +kernel
theorem dSp_statesAtEnds_37 : decode bSp_statesAtEnds 37 = .ok (.iushr, 1) := by decide +kernel
theorem dSp_statesAtEnds_38 : decode bSp_statesAtEnds 38 = .ok (.aload_n 0, 1) := by decide +kernel
theorem dSp_statesAtEnds_39 : decode bSp_statesAtEnds 39 = .ok (.getfield 12, 3) := by decide +kernel
theorem dSp_statesAtEnds_42 : decode bSp_statesAtEnds 42 = .ok (.getfield 86, 3) := by decide +kernel
theorem dSp_statesAtEnds_45 : decode bSp_statesAtEnds 45 = .ok (.iload_n 2, 1) := by decide +kernel
theorem dSp_statesAtEnds_46 : decode bSp_statesAtEnds 46 = .ok (.laload, 1) := by decide +kernel
theorem dSp_statesAtEnds_47 : decode bSp_statesAtEnds 47 = .ok (.invokevirtual 50, 3) := by decide +kernel
theorem dSp_statesAtEnds_50 : decode bSp_statesAtEnds 50 = .ok (.pop, 1) := by decide +kernel
theorem dSp_statesAtEnds_51 : decode bSp_statesAtEnds 51 = .ok (.iinc 2 1, 3) := by decide +kernel
theorem dSp_statesAtEnds_54 : decode bSp_statesAtEnds 54 = .ok (.goto (-48), 3) := by decide +kernel
theorem dSp_statesAtEnds_57 : decode bSp_statesAtEnds 57 = .ok (.aload_n 1, 1) := by decide +kernel
theorem dSp_statesAtEnds_58 : decode bSp_statesAtEnds 58 = .ok (.getfield 54, 3) := by decide +kernel
theorem dSp_statesAtEnds_61 : decode bSp_statesAtEnds 61 = .ok (.ireturn, 1) := by decide +kernel
