theorem dMo_gather_0 : decode bMo_gather 0 = .ok (.aload_n 0, 1) := by decide +kernel
theorem dMo_gather_1 : decode bMo_gather 1 = .ok (.getfield 46, 3) := by decide +kernel
theorem dMo_gather_4 : decode bMo_gather 4 = .ok (.iload_n 2, 1) := by decide +kernel
theorem dMo_gather_5 : decode bMo_gather 5 = .ok (.iconst 0, 1) := by decide +kernel
theorem dMo_gather_6 : decode bMo_gather 6 = .ok (.iastore, 1) := by decide +kernel
theorem dMo_gather_7 : decode bMo_gather 7 = .ok (.aload_n 0, 1) := by decide +kernel
theorem dMo_gather_8 : decode bMo_gather 8 = .ok (.getfield 49, 3) := by decide +kernel
theorem dMo_gather_11 : decode bMo_gather 11 = .ok (.iload_n 2, 1) := by decide +kernel
theorem dMo_gather_12 : decode bMo_gather 12 = .ok (.lconst 0, 1) := by decide +kernel
theorem dMo_gather_13 : decode bMo_gather 13 = .ok (.lastore, 1) := by decide +kernel
theorem dMo_gather_14 : decode bMo_gather 14 = .ok (.aload_n 0, 1) := by decide +kernel
theorem dMo_gather_15 : decode bMo_gather 15 = .ok (.getfield 57, 3) := by decide +kernel
theorem dMo_gather_18 : decode bMo_gather 18 = .ok (.iconst 0, 1) := by decide +kernel
theorem dMo_gather_19 : decode bMo_gather 19 = .ok (.lconst 1, 1) := by decide +kernel
theorem dMo_gather_20 : decode bMo_gather 20 = .ok (.lastore, 1) := by decide +kernel
theorem dMo_gather_21 : decode bMo_gather 21 = .ok (.iconst 1, 1) := by decide +kernel
theorem dMo_gather_22 : decode bMo_gather 22 = .ok (.istore 5, 2) := by decide +kernel
theorem dMo_gather_24 : decode bMo_gather 24 = .ok (.iconst 0, 1) := by decide +kernel
theorem dMo_gather_25 : decode bMo_gather 25 = .ok (.istore 6, 2) := by decide +kernel
theorem dMo_gather_27 : decode bMo_gather 27 = .ok (.iload 6, 2) := by decide +kernel
theorem dMo_gather_29 : decode bMo_gather 29 = .ok (.iload 5, 2) := by decide +kernel
theorem dMo_gather_31 : decode bMo_gather 31 = .ok (.if_icmp .ge 163, 3) := by decide +kernel
theorem dMo_gather_34 : decode bMo_gather 34 = .ok (.iconst 0, 1) := by decide +kernel
theorem dMo_gather_35 : decode bMo_gather 35 = .ok (.istore 7, 2) := by decide +kernel
theorem dMo_gather_37 : decode bMo_gather 37 = .ok (.iload 7, 2) := by decide +kernel
theorem dMo_gather_39 : decode bMo_gather 39 = .ok (.aload_n 0, 1) := by decide +kernel
theorem dMo_gather_40 : decode bMo_gather 40 = .ok (.getfield 13, 3) := by decide +kernel
theorem dMo_gather_43 : decode bMo_gather 43 = .ok (.iload_n 1, 1) := by decide +kernel
theorem dMo_gather_44 : decode bMo_gather 44 = .ok (.iaload, 1) := by decide +kernel
theorem dMo_gather_45 : decode bMo_gather 45 = .ok (.if_icmp .ge 143, 3) := by decide +kernel
theorem dMo_gather_48 : decode bMo_gather 48 = .ok (.aload_n 0, 1) := by decide +kernel
theorem dMo_gather_49 : decode bMo_gather 49 = .ok (.iload_n 1, 1) := by decide +kernel
theorem dMo_gather_50 : decode bMo_gather 50 = .ok (.iload 7, 2) := by decide +kernel
theorem dMo_gather_52 : decode bMo_gather 52 = .ok (.iload_n 2, 1) := by decide +kernel
theorem dMo_gather_53 : decode bMo_gather 53 = .ok (.iload 6, 2) := by decide +kernel
theorem dMo_gather_55 : decode bMo_gather 55 = .ok (.iadd, 1) := by decide +kernel
theorem dMo_gather_56 : decode bMo_gather 56 = .ok (.iload_n 3, 1) := by decide +kernel
theorem dMo_gather_57 : decode bMo_gather 57 = .ok (.iload 4, 2) := by decide +kernel
theorem dMo_gather_59 : decode bMo_gather 59 = .ok (.invokevirtual 172, 3) := by decide +kernel
theorem dMo_gather_62 : decode bMo_gather 62 = .ok (.ifCond .eq 120, 3) := by decide +kernel
theorem dMo_gather_65 : decode bMo_gather 65 = .ok (.aload_n 0, 1) := by decide +kernel
theorem dMo_gather_66 : decode bMo_gather 66 = .ok (.getfield 46, 3) := by decide +kernel
theorem dMo_gather_69 : decode bMo_gather 69 = .ok (.iload_n 2, 1) := by decide +kernel
theorem dMo_gather_70 : decode bMo_gather 70 = .ok (.iload 6, 2) := by decide +kernel
theorem dMo_gather_72 : decode bMo_gather 72 = .ok (.iadd, 1) := by decide +kernel
theorem dMo_gather_73 : decode bMo_gather 73 = .ok (.iaload, 1) := by decide +kernel
theorem dMo_gather_74 : decode bMo_gather 74 = .ok (.ldc 176, 2) := by decide +kernel
theorem dMo_gather_76 : decode bMo_gather 76 = .ok (.iand, 1) := by decide +kernel
theorem dMo_gather_77 : decode bMo_gather 77 = .ok (.iconst 1, 1) := by decide +kernel
theorem dMo_gather_78 : decode bMo_gather 78 = .ok (.iload 7, 2) := by decide +kernel
theorem dMo_gather_80 : decode bMo_gather 80 = .ok (.ishl, 1) := by decide +kernel
theorem dMo_gather_81 : decode bMo_gather 81 = .ok (.ior, 1) := by decide +kernel
theorem dMo_gather_82 : decode bMo_gather 82 = .ok (.aload_n 0, 1) := by decide +kernel
theorem dMo_gather_83 : decode bMo_gather 83 = .ok (.getfield 129, 3) := by decide +kernel
theorem dMo_gather_86 : decode bMo_gather 86 = .ok (.bipush 16, 2) := by decide +kernel
theorem dMo_gather_88 : decode bMo_gather 88 = .ok (.ishl, 1) := by decide +kernel
theorem dMo_gather_89 : decode bMo_gather 89 = .ok (.ior, 1) := by decide +kernel
theorem dMo_gather_90 : decode bMo_gather 90 = .ok (.istore 8, 2) := by decide +kernel
theorem dMo_gather_92 : decode bMo_gather 92 = .ok (.aload_n 0, 1) := by decide +kernel
theorem dMo_gather_93 : decode bMo_gather 93 = .ok (.iload_n 2, 1) := by decide +kernel
theorem dMo_gather_94 : decode bMo_gather 94 = .ok (.iload 6, 2) := by decide +kernel
theorem dMo_gather_96 : decode bMo_gather 96 = .ok (.iadd, 1) := by decide +kernel
theorem dMo_gather_97 : decode bMo_gather 97 = .ok (.iconst 1, 1) := by decide +kernel
theorem dMo_gather_98 : decode bMo_gather 98 = .ok (.iadd, 1) := by decide +kernel
theorem dMo_gather_99 : decode bMo_gather 99 = .ok (.iload_n 2, 1) := by decide +kernel
theorem dMo_gather_100 : decode bMo_gather 100 = .ok (.iload 5, 2) := by decide +kernel
theorem dMo_gather_102 : decode bMo_gather 102 = .ok (.iadd, 1) := by decide +kernel
theorem dMo_gather_103 : decode bMo_gather 103 = .ok (.iload 8, 2) := by decide +kernel
theorem dMo_gather_105 : decode bMo_gather 105 = .ok (.invokevirtual 177, 3) := by decide +kernel
theorem dMo_gather_108 : decode bMo_gather 108 = .ok (.iload_n 2, 1) := by decide +kernel
theorem dMo_gather_109 : decode bMo_gather 109 = .ok (.isub, 1) := by decide +kernel
theorem dMo_gather_110 : decode bMo_gather 110 = .ok (.istore 9, 2) := by decide +kernel
theorem dMo_gather_112 : decode bMo_gather 112 = .ok (.iload 9, 2) := by decide +kernel
theorem dMo_gather_114 : decode bMo_gather 114 = .ok (.sipush 2000, 3) := by decide +kernel
theorem dMo_gather_117 : decode bMo_gather 117 = .ok (.if_icmp .ne 6, 3) := by decide +kernel
theorem dMo_gather_120 : decode bMo_gather 120 = .ok (.bipush (-2), 2) := by decide +kernel
theorem dMo_gather_122 : decode bMo_gather 122 = .ok (.ireturn, 1) := by decide +kernel
theorem dMo_gather_123 : decode bMo_gather 123 = .ok (.iload 9, 2) := by decide +kernel
theorem dMo_gather_125 : decode bMo_gather 125 = .ok (.iload 5, 2) := by decide +kernel
theorem dMo_gather_127 : decode bMo_gather 127 = .ok (.if_icmp .ne 38, 3) := by decide +kernel
theorem dMo_gather_130 : decode bMo_gather 130 = .ok (.aload_n 0, 1) := by decide +kernel
theorem dMo_gather_131 : decode bMo_gather 131 = .ok (.getfield 46, 3) := by decide +kernel
theorem dMo_gather_134 : decode bMo_gather 134 = .ok (.iload_n 2, 1) := by decide +kernel
theorem dMo_gather_135 : decode bMo_gather 135 = .ok (.iload 9, 2) := by decide +kernel
theorem dMo_gather_137 : decode bMo_gather 137 = .ok (.iadd, 1) := by decide +kernel
theorem dMo_gather_138 : decode bMo_gather 138 = .ok (.iload 8, 2) := by decide +kernel
theorem dMo_gather_140 : decode bMo_gather 140 = .ok (.iastore, 1) := by decide +kernel
theorem dMo_gather_141 : decode bMo_gather 141 = .ok (.aload_n 0, 1) := by decide +kernel
theorem dMo_gather_142 : decode bMo_gather 142 = .ok (.getfield 49, 3) := by decide +kernel
theorem dMo_gather_145 : decode bMo_gather 145 = .ok (.iload_n 2, 1) := by decide +kernel
theorem dMo_gather_146 : decode bMo_gather 146 = .ok (.iload 9, 2) := by decide +kernel
theorem dMo_gather_148 : decode bMo_gather 148 = .ok (.iadd, 1) := by decide +kernel
theorem dMo_gather_149 : decode bMo_gather 149 = .ok (.aload_n 0, 1) := by decide +kernel
theorem dMo_gather_150 : decode bMo_gather 150 = .ok (.getfield 122, 3) := by decide +kernel
theorem dMo_gather_153 : decode bMo_gather 153 = .ok (.lastore, 1) := by decide +kernel
theorem dMo_gather_154 : decode bMo_gather 154 = .ok (.aload_n 0, 1) := by decide +kernel
theorem dMo_gather_155 : decode bMo_gather 155 = .ok (.getfield 57, 3) := by decide +kernel
theorem dMo_gather_158 : decode bMo_gather 158 = .ok (.iload 9, 2) := by decide +kernel
theorem dMo_gather_160 : decode bMo_gather 160 = .ok (.lconst 0, 1) := by decide +kernel
theorem dMo_gather_161 : decode bMo_gather 161 = .ok (.lastore, 1) := by decide +kernel
theorem dMo_gather_162 : decode bMo_gather 162 = .ok (.iinc 5 1, 3) := by decide +kernel
theorem dMo_gather_165 : decode bMo_gather 165 = .ok (.aload_n 0, 1) := by decide +kernel
theorem dMo_gather_166 : decode bMo_gather 166 = .ok (.getfield 57, 3) := by decide +kernel
theorem dMo_gather_169 : decode bMo_gather 169 = .ok (.iload 9, 2) := by decide +kernel
theorem dMo_gather_171 : decode bMo_gather 171 = .ok (.dup2, 1) := by decide +kernel
theorem dMo_gather_172 : decode bMo_gather 172 = .ok (.laload, 1) := by decide +kernel
theorem dMo_gather_173 : decode bMo_gather 173 = .ok (.aload_n 0, 1) := by decide +kernel
theorem dMo_gather_174 : decode bMo_gather 174 = .ok (.getfield 57, 3) := by decide +kernel
theorem dMo_gather_177 : decode bMo_gather 177 = .ok (.iload 6, 2) := by decide +kernel
theorem dMo_gather_179 : decode bMo_gather 179 = .ok (.laload, 1) := by decide +kernel
theorem dMo_gather_180 : decode bMo_gather 180 = .ok (.ladd, 1) := by decide +kernel
theorem dMo_gather_181 : decode bMo_gather 181 = .ok (.lastore, 1) := by decide +kernel
theorem dMo_gather_182 : decode bMo_gather 182 = .ok (.iinc 7 1, 3) := by decide +kernel
theorem dMo_gather_185 : decode bMo_gather 185 = .ok (.goto (-148), 3) := by decide +kernel
theorem dMo_gather_188 : decode bMo_gather 188 = .ok (.iinc 6 1, 3) := by decide +kernel
theorem dMo_gather_191 : decode bMo_gather 191 = .ok (.goto (-164), 3) := by decide +kernel
theorem dMo_gather_194 : decode bMo_gather 194 = .ok (.iload 5, 2) := by decide +kernel
theorem dMo_gather_196 : decode bMo_gather 196 = .ok (.ireturn, 1) := by decide +kernel
theorem dMo_can_0 : decode bMo_can 0 = .ok (.aload_n 0, 1) := by decide +kernel
theorem dMo_can_1 : decode bMo_can 1 = .ok (.getfield 16, 3) := by decide +kernel
theorem dMo_can_4 : decode bMo_can 4 = .ok (.bipush 16, 2) := by decide +kernel
theorem dMo_can_6 : decode bMo_can 6 = .ok (.iload_n 1, 1) := by decide +kernel
theorem dMo_can_7 : decode bMo_can 7 = .ok (.imul, 1) := by decide +kernel
theorem dMo_can_8 : decode bMo_can 8 = .ok (.iload_n 2, 1) := by decide +kernel
theorem dMo_can_9 : decode bMo_can 9 = .ok (.iadd, 1) := by decide +kernel
theorem dMo_can_10 : decode bMo_can 10 = .ok (.iaload, 1) := by decide +kernel
theorem dMo_can_11 : decode bMo_can 11 = .ok (.istore 6, 2) := by decide +kernel
theorem dMo_can_13 : decode bMo_can 13 = .ok (.aload_n 0, 1) := by decide +kernel
theorem dMo_can_14 : decode bMo_can 14 = .ok (.getfield 46, 3) := by decide +kernel
theorem dMo_can_17 : decode bMo_can 17 = .ok (.iload_n 3, 1) := by decide +kernel
theorem dMo_can_18 : decode bMo_can 18 = .ok (.iaload, 1) := by decide +kernel
theorem dMo_can_19 : decode bMo_can 19 = .ok (.iload_n 2, 1) := by decide +kernel
theorem dMo_can_20 : decode bMo_can 20 = .ok (.ishr, 1) := by decide +kernel
theorem dMo_can_21 : decode bMo_can 21 = .ok (.iconst 1, 1) := by decide +kernel
theorem dMo_can_22 : decode bMo_can 22 = .ok (.iand, 1) := by decide +kernel
theorem dMo_can_23 : decode bMo_can 23 = .ok (.iconst 1, 1) := by decide +kernel
theorem dMo_can_24 : decode bMo_can 24 = .ok (.if_icmp .eq 15, 3) := by decide +kernel
theorem dMo_can_27 : decode bMo_can 27 = .ok (.aload_n 0, 1) := by decide +kernel
theorem dMo_can_28 : decode bMo_can 28 = .ok (.getfield 37, 3) := by decide +kernel
theorem dMo_can_31 : decode bMo_can 31 = .ok (.iload 6, 2) := by decide +kernel
theorem dMo_can_33 : decode bMo_can 33 = .ok (.iaload, 1) := by decide +kernel
theorem dMo_can_34 : decode bMo_can 34 = .ok (.iload 4, 2) := by decide +kernel
theorem dMo_can_36 : decode bMo_can 36 = .ok (.if_icmp .le 5, 3) := by decide +kernel
theorem dMo_can_39 : decode bMo_can 39 = .ok (.iconst 0, 1) := by decide +kernel
theorem dMo_can_40 : decode bMo_can 40 = .ok (.ireturn, 1) := by decide +kernel
theorem dMo_can_41 : decode bMo_can 41 = .ok (.iconst 0, 1) := by decide +kernel
theorem dMo_can_42 : decode bMo_can 42 = .ok (.istore 7, 2) := by decide +kernel
theorem dMo_can_44 : decode bMo_can 44 = .ok (.iload 7, 2) := by decide +kernel
theorem dMo_can_46 : decode bMo_can 46 = .ok (.aload_n 0, 1) := by decide +kernel
theorem dMo_can_47 : decode bMo_can 47 = .ok (.getfield 13, 3) := by decide +kernel
theorem dMo_can_50 : decode bMo_can 50 = .ok (.iload_n 1, 1) := by decide +kernel
theorem dMo_can_51 : decode bMo_can 51 = .ok (.iaload, 1) := by decide +kernel
theorem dMo_can_52 : decode bMo_can 52 = .ok (.if_icmp .ge 56, 3) := by decide +kernel
theorem dMo_can_55 : decode bMo_can 55 = .ok (.aload_n 0, 1) := by decide +kernel
theorem dMo_can_56 : decode bMo_can 56 = .ok (.getfield 46, 3) := by decide +kernel
theorem dMo_can_59 : decode bMo_can 59 = .ok (.iload_n 3, 1) := by decide +kernel
theorem dMo_can_60 : decode bMo_can 60 = .ok (.iaload, 1) := by decide +kernel
theorem dMo_can_61 : decode bMo_can 61 = .ok (.iload 7, 2) := by decide +kernel
theorem dMo_can_63 : decode bMo_can 63 = .ok (.ishr, 1) := by decide +kernel
theorem dMo_can_64 : decode bMo_can 64 = .ok (.iconst 1, 1) := by decide +kernel
theorem dMo_can_65 : decode bMo_can 65 = .ok (.iand, 1) := by decide +kernel
theorem dMo_can_66 : decode bMo_can 66 = .ok (.ifCond .ne 36, 3) := by decide +kernel
theorem dMo_can_69 : decode bMo_can 69 = .ok (.iload 7, 2) := by decide +kernel
theorem dMo_can_71 : decode bMo_can 71 = .ok (.iload_n 2, 1) := by decide +kernel
theorem dMo_can_72 : decode bMo_can 72 = .ok (.if_icmp .eq 30, 3) := by decide +kernel
theorem dMo_can_75 : decode bMo_can 75 = .ok (.aload_n 0, 1) := by decide +kernel
theorem dMo_can_76 : decode bMo_can 76 = .ok (.aload_n 0, 1) := by decide +kernel
theorem dMo_can_77 : decode bMo_can 77 = .ok (.getfield 16, 3) := by decide +kernel
theorem dMo_can_80 : decode bMo_can 80 = .ok (.bipush 16, 2) := by decide +kernel
theorem dMo_can_82 : decode bMo_can 82 = .ok (.iload_n 1, 1) := by decide +kernel
theorem dMo_can_83 : decode bMo_can 83 = .ok (.imul, 1) := by decide +kernel
theorem dMo_can_84 : decode bMo_can 84 = .ok (.iload 7, 2) := by decide +kernel
theorem dMo_can_86 : decode bMo_can 86 = .ok (.iadd, 1) := by decide +kernel
theorem dMo_can_87 : decode bMo_can 87 = .ok (.iaload, 1) := by decide +kernel
theorem dMo_can_88 : decode bMo_can 88 = .ok (.iload 6, 2) := by decide +kernel
theorem dMo_can_90 : decode bMo_can 90 = .ok (.iload 4, 2) := by decide +kernel
theorem dMo_can_92 : decode bMo_can 92 = .ok (.iload 5, 2) := by decide +kernel
theorem dMo_can_94 : decode bMo_can 94 = .ok (.invokevirtual 165, 3) := by decide +kernel
theorem dMo_can_97 : decode bMo_can 97 = .ok (.ifCond .eq 5, 3) := by decide +kernel
theorem dMo_can_100 : decode bMo_can 100 = .ok (.iconst 0, 1) := by decide +kernel
theorem dMo_can_101 : decode bMo_can 101 = .ok (.ireturn, 1) := by decide +kernel
theorem dMo_can_102 : decode bMo_can 102 = .ok (.iinc 7 1, 3) := by decide +kernel
theorem dMo_can_105 : decode bMo_can 105 = .ok (.goto (-61), 3) := by decide +kernel
theorem dMo_can_108 : decode bMo_can 108 = .ok (.aload_n 0, 1) := by decide +kernel
theorem dMo_can_109 : decode bMo_can 109 = .ok (.iload_n 1, 1) := by decide +kernel
theorem dMo_can_110 : decode bMo_can 110 = .ok (.iload_n 2, 1) := by decide +kernel
theorem dMo_can_111 : decode bMo_can 111 = .ok (.iload_n 3, 1) := by decide +kernel
theorem dMo_can_112 : decode bMo_can 112 = .ok (.invokevirtual 169, 3) := by decide +kernel
theorem dMo_can_115 : decode bMo_can 115 = .ok (.aload_n 0, 1) := by decide +kernel
theorem dMo_can_116 : decode bMo_can 116 = .ok (.iload 6, 2) := by decide +kernel
theorem dMo_can_118 : decode bMo_can 118 = .ok (.iload 4, 2) := by decide +kernel
theorem dMo_can_120 : decode bMo_can 120 = .ok (.invokevirtual 161, 3) := by decide +kernel
theorem dMo_can_123 : decode bMo_can 123 = .ok (.ifCond .eq 17, 3) := by decide +kernel
theorem dMo_can_126 : decode bMo_can 126 = .ok (.aload_n 0, 1) := by decide +kernel
theorem dMo_can_127 : decode bMo_can 127 = .ok (.getfield 126, 3) := by decide +kernel
theorem dMo_can_130 : decode bMo_can 130 = .ok (.aload_n 0, 1) := by decide +kernel
theorem dMo_can_131 : decode bMo_can 131 = .ok (.getfield 34, 3) := by decide +kernel
theorem dMo_can_134 : decode bMo_can 134 = .ok (.iload 6, 2) := by decide +kernel
theorem dMo_can_136 : decode bMo_can 136 = .ok (.iaload, 1) := by decide +kernel
theorem dMo_can_137 : decode bMo_can 137 = .ok (.if_icmp .ne 7, 3) := by decide +kernel
theorem dMo_can_140 : decode bMo_can 140 = .ok (.iconst 1, 1) := by decide +kernel
theorem dMo_can_141 : decode bMo_can 141 = .ok (.goto 4, 3) := by decide +kernel
theorem dMo_can_144 : decode bMo_can 144 = .ok (.iconst 0, 1) := by decide +kernel
theorem dMo_can_145 : decode bMo_can 145 = .ok (.ireturn, 1) := by decide +kernel
theorem dMo_isBefore_0 : decode bMo_isBefore 0 = .ok (.iload 4, 2) := by decide +kernel
theorem dMo_isBefore_2 : decode bMo_isBefore 2 = .ok (.ifCond .eq 31, 3) := by decide +kernel
theorem dMo_isBefore_5 : decode bMo_isBefore 5 = .ok (.aload_n 0, 1) := by decide +kernel
theorem dMo_isBefore_6 : decode bMo_isBefore 6 = .ok (.getfield 19, 3) := by decide +kernel
theorem dMo_isBefore_9 : decode bMo_isBefore 9 = .ok (.iload_n 1, 1) := by decide +kernel
theorem dMo_isBefore_10 : decode bMo_isBefore 10 = .ok (.iaload, 1) := by decide +kernel
theorem dMo_isBefore_11 : decode bMo_isBefore 11 = .ok (.aload_n 0, 1) := by decide +kernel
theorem dMo_isBefore_12 : decode bMo_isBefore 12 = .ok (.getfield 19, 3) := by decide +kernel
theorem dMo_isBefore_15 : decode bMo_isBefore 15 = .ok (.iload_n 2, 1) := by decide +kernel
theorem dMo_isBefore_16 : decode bMo_isBefore 16 = .ok (.iaload, 1) := by decide +kernel
theorem dMo_isBefore_17 : decode bMo_isBefore 17 = .ok (.if_icmp .ne 12, 3) := by decide +kernel
theorem dMo_isBefore_20 : decode bMo_isBefore 20 = .ok (.iload_n 1, 1) := by decide +kernel
theorem dMo_isBefore_21 : decode bMo_isBefore 21 = .ok (.iload_n 2, 1) := by decide +kernel
theorem dMo_isBefore_22 : decode bMo_isBefore 22 = .ok (.if_icmp .ge 7, 3) := by decide +kernel
theorem dMo_isBefore_25 : decode bMo_isBefore 25 = .ok (.iconst 1, 1) := by decide +kernel
theorem dMo_isBefore_26 : decode bMo_isBefore 26 = .ok (.goto 36, 3) := by decide +kernel
theorem dMo_isBefore_29 : decode bMo_isBefore 29 = .ok (.iconst 0, 1) := by decide +kernel
theorem dMo_isBefore_30 : decode bMo_isBefore 30 = .ok (.goto 32, 3) := by decide +kernel
theorem dMo_isBefore_33 : decode bMo_isBefore 33 = .ok (.aload_n 0, 1) := by decide +kernel
theorem dMo_isBefore_34 : decode bMo_isBefore 34 = .ok (.iload_n 1, 1) := by decide +kernel
theorem dMo_isBefore_35 : decode bMo_isBefore 35 = .ok (.iload_n 3, 1) := by decide +kernel
theorem dMo_isBefore_36 : decode bMo_isBefore 36 = .ok (.invokevirtual 161, 3) := by decide +kernel
theorem dMo_isBefore_39 : decode bMo_isBefore 39 = .ok (.ifCond .eq 22, 3) := by decide +kernel
theorem dMo_isBefore_42 : decode bMo_isBefore 42 = .ok (.aload_n 0, 1) := by decide +kernel
theorem dMo_isBefore_43 : decode bMo_isBefore 43 = .ok (.getfield 40, 3) := by decide +kernel
theorem dMo_isBefore_46 : decode bMo_isBefore 46 = .ok (.iload_n 1, 1) := by decide +kernel
theorem dMo_isBefore_47 : decode bMo_isBefore 47 = .ok (.iaload, 1) := by decide +kernel
theorem dMo_isBefore_48 : decode bMo_isBefore 48 = .ok (.aload_n 0, 1) := by decide +kernel
theorem dMo_isBefore_49 : decode bMo_isBefore 49 = .ok (.getfield 37, 3) := by decide +kernel
theorem dMo_isBefore_52 : decode bMo_isBefore 52 = .ok (.iload_n 2, 1) := by decide +kernel
theorem dMo_isBefore_53 : decode bMo_isBefore 53 = .ok (.iaload, 1) := by decide +kernel
theorem dMo_isBefore_54 : decode bMo_isBefore 54 = .ok (.if_icmp .ge 7, 3) := by decide +kernel
theorem dMo_isBefore_57 : decode bMo_isBefore 57 = .ok (.iconst 1, 1) := by decide +kernel
theorem dMo_isBefore_58 : decode bMo_isBefore 58 = .ok (.goto 4, 3) := by decide +kernel
theorem dMo_isBefore_61 : decode bMo_isBefore 61 = .ok (.iconst 0, 1) := by decide +kernel
theorem dMo_isBefore_62 : decode bMo_isBefore 62 = .ok (.ireturn, 1) := by decide +kernel
theorem dMo_isBack_0 : decode bMo_isBack 0 = .ok (.aload_n 0, 1) := by decide +kernel
theorem dMo_isBack_1 : decode bMo_isBack 1 = .ok (.getfield 40, 3) := by decide +kernel
theorem dMo_isBack_4 : decode bMo_isBack 4 = .ok (.iload_n 1, 1) := by decide +kernel
theorem dMo_isBack_5 : decode bMo_isBack 5 = .ok (.iaload, 1) := by decide +kernel
theorem dMo_isBack_6 : decode bMo_isBack 6 = .ok (.ifCond .le 17, 3) := by decide +kernel
theorem dMo_isBack_9 : decode bMo_isBack 9 = .ok (.aload_n 0, 1) := by decide +kernel
theorem dMo_isBack_10 : decode bMo_isBack 10 = .ok (.getfield 40, 3) := by decide +kernel
theorem dMo_isBack_13 : decode bMo_isBack 13 = .ok (.iload_n 1, 1) := by decide +kernel
theorem dMo_isBack_14 : decode bMo_isBack 14 = .ok (.iaload, 1) := by decide +kernel
theorem dMo_isBack_15 : decode bMo_isBack 15 = .ok (.iload_n 2, 1) := by decide +kernel
theorem dMo_isBack_16 : decode bMo_isBack 16 = .ok (.if_icmp .gt 7, 3) := by decide +kernel
theorem dMo_isBack_19 : decode bMo_isBack 19 = .ok (.iconst 1, 1) := by decide +kernel
theorem dMo_isBack_20 : decode bMo_isBack 20 = .ok (.goto 4, 3) := by decide +kernel
theorem dMo_isBack_23 : decode bMo_isBack 23 = .ok (.iconst 0, 1) := by decide +kernel
theorem dMo_isBack_24 : decode bMo_isBack 24 = .ok (.ireturn, 1) := by decide +kernel
