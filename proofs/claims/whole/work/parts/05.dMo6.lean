theorem dMo_enliven_0 : decode bMo_enliven 0 = .ok (.sipush 2001, 3) := by decide +kernel
theorem dMo_enliven_3 : decode bMo_enliven 3 = .ok (.iload_n 1, 1) := by decide +kernel
theorem dMo_enliven_4 : decode bMo_enliven 4 = .ok (.imul, 1) := by decide +kernel
theorem dMo_enliven_5 : decode bMo_enliven 5 = .ok (.istore_n 2, 1) := by decide +kernel
theorem dMo_enliven_6 : decode bMo_enliven 6 = .ok (.aload_n 0, 1) := by decide +kernel
theorem dMo_enliven_7 : decode bMo_enliven 7 = .ok (.getfield 63, 3) := by decide +kernel
theorem dMo_enliven_10 : decode bMo_enliven 10 = .ok (.iload_n 1, 1) := by decide +kernel
theorem dMo_enliven_11 : decode bMo_enliven 11 = .ok (.iaload, 1) := by decide +kernel
theorem dMo_enliven_12 : decode bMo_enliven 12 = .ok (.iconst 1, 1) := by decide +kernel
theorem dMo_enliven_13 : decode bMo_enliven 13 = .ok (.isub, 1) := by decide +kernel
theorem dMo_enliven_14 : decode bMo_enliven 14 = .ok (.istore_n 3, 1) := by decide +kernel
theorem dMo_enliven_15 : decode bMo_enliven 15 = .ok (.iload_n 3, 1) := by decide +kernel
theorem dMo_enliven_16 : decode bMo_enliven 16 = .ok (.ifCond .lt 136, 3) := by decide +kernel
theorem dMo_enliven_19 : decode bMo_enliven 19 = .ok (.aload_n 0, 1) := by decide +kernel
theorem dMo_enliven_20 : decode bMo_enliven 20 = .ok (.getfield 53, 3) := by decide +kernel
theorem dMo_enliven_23 : decode bMo_enliven 23 = .ok (.iload_n 2, 1) := by decide +kernel
theorem dMo_enliven_24 : decode bMo_enliven 24 = .ok (.iload_n 3, 1) := by decide +kernel
theorem dMo_enliven_25 : decode bMo_enliven 25 = .ok (.iadd, 1) := by decide +kernel
theorem dMo_enliven_26 : decode bMo_enliven 26 = .ok (.aload_n 0, 1) := by decide +kernel
theorem dMo_enliven_27 : decode bMo_enliven 27 = .ok (.iload_n 1, 1) := by decide +kernel
theorem dMo_enliven_28 : decode bMo_enliven 28 = .ok (.iload_n 2, 1) := by decide +kernel
theorem dMo_enliven_29 : decode bMo_enliven 29 = .ok (.iload_n 3, 1) := by decide +kernel
theorem dMo_enliven_30 : decode bMo_enliven 30 = .ok (.iadd, 1) := by decide +kernel
theorem dMo_enliven_31 : decode bMo_enliven 31 = .ok (.aload_n 0, 1) := by decide +kernel
theorem dMo_enliven_32 : decode bMo_enliven 32 = .ok (.getfield 114, 3) := by decide +kernel
theorem dMo_enliven_35 : decode bMo_enliven 35 = .ok (.invokevirtual 181, 3) := by decide +kernel
theorem dMo_enliven_38 : decode bMo_enliven 38 = .ok (.bastore, 1) := by decide +kernel
theorem dMo_enliven_39 : decode bMo_enliven 39 = .ok (.iconst 0, 1) := by decide +kernel
theorem dMo_enliven_40 : decode bMo_enliven 40 = .ok (.istore 4, 2) := by decide +kernel
theorem dMo_enliven_42 : decode bMo_enliven 42 = .ok (.iload 4, 2) := by decide +kernel
theorem dMo_enliven_44 : decode bMo_enliven 44 = .ok (.aload_n 0, 1) := by decide +kernel
theorem dMo_enliven_45 : decode bMo_enliven 45 = .ok (.getfield 13, 3) := by decide +kernel
theorem dMo_enliven_48 : decode bMo_enliven 48 = .ok (.iload_n 1, 1) := by decide +kernel
theorem dMo_enliven_49 : decode bMo_enliven 49 = .ok (.iaload, 1) := by decide +kernel
theorem dMo_enliven_50 : decode bMo_enliven 50 = .ok (.if_icmp .ge 96, 3) := by decide +kernel
theorem dMo_enliven_53 : decode bMo_enliven 53 = .ok (.aload_n 0, 1) := by decide +kernel
theorem dMo_enliven_54 : decode bMo_enliven 54 = .ok (.getfield 53, 3) := by decide +kernel
theorem dMo_enliven_57 : decode bMo_enliven 57 = .ok (.iload_n 2, 1) := by decide +kernel
theorem dMo_enliven_58 : decode bMo_enliven 58 = .ok (.iload_n 3, 1) := by decide +kernel
theorem dMo_enliven_59 : decode bMo_enliven 59 = .ok (.iadd, 1) := by decide +kernel
theorem dMo_enliven_60 : decode bMo_enliven 60 = .ok (.baload, 1) := by decide +kernel
theorem dMo_enliven_61 : decode bMo_enliven 61 = .ok (.ifCond .ne 85, 3) := by decide +kernel
theorem dMo_enliven_64 : decode bMo_enliven 64 = .ok (.aload_n 0, 1) := by decide +kernel
theorem dMo_enliven_65 : decode bMo_enliven 65 = .ok (.iload_n 1, 1) := by decide +kernel
theorem dMo_enliven_66 : decode bMo_enliven 66 = .ok (.iload 4, 2) := by decide +kernel
theorem dMo_enliven_68 : decode bMo_enliven 68 = .ok (.iload_n 2, 1) := by decide +kernel
theorem dMo_enliven_69 : decode bMo_enliven 69 = .ok (.iload_n 3, 1) := by decide +kernel
theorem dMo_enliven_70 : decode bMo_enliven 70 = .ok (.iadd, 1) := by decide +kernel
theorem dMo_enliven_71 : decode bMo_enliven 71 = .ok (.aload_n 0, 1) := by decide +kernel
theorem dMo_enliven_72 : decode bMo_enliven 72 = .ok (.getfield 114, 3) := by decide +kernel
theorem dMo_enliven_75 : decode bMo_enliven 75 = .ok (.iconst 0, 1) := by decide +kernel
theorem dMo_enliven_76 : decode bMo_enliven 76 = .ok (.invokevirtual 172, 3) := by decide +kernel
theorem dMo_enliven_79 : decode bMo_enliven 79 = .ok (.ifCond .eq 61, 3) := by decide +kernel
theorem dMo_enliven_82 : decode bMo_enliven 82 = .ok (.aload_n 0, 1) := by decide +kernel
theorem dMo_enliven_83 : decode bMo_enliven 83 = .ok (.getfield 46, 3) := by decide +kernel
theorem dMo_enliven_86 : decode bMo_enliven 86 = .ok (.iload_n 2, 1) := by decide +kernel
theorem dMo_enliven_87 : decode bMo_enliven 87 = .ok (.iload_n 3, 1) := by decide +kernel
theorem dMo_enliven_88 : decode bMo_enliven 88 = .ok (.iadd, 1) := by decide +kernel
theorem dMo_enliven_89 : decode bMo_enliven 89 = .ok (.iaload, 1) := by decide +kernel
theorem dMo_enliven_90 : decode bMo_enliven 90 = .ok (.ldc 176, 2) := by decide +kernel
theorem dMo_enliven_92 : decode bMo_enliven 92 = .ok (.iand, 1) := by decide +kernel
theorem dMo_enliven_93 : decode bMo_enliven 93 = .ok (.iconst 1, 1) := by decide +kernel
theorem dMo_enliven_94 : decode bMo_enliven 94 = .ok (.iload 4, 2) := by decide +kernel
theorem dMo_enliven_96 : decode bMo_enliven 96 = .ok (.ishl, 1) := by decide +kernel
theorem dMo_enliven_97 : decode bMo_enliven 97 = .ok (.ior, 1) := by decide +kernel
theorem dMo_enliven_98 : decode bMo_enliven 98 = .ok (.aload_n 0, 1) := by decide +kernel
theorem dMo_enliven_99 : decode bMo_enliven 99 = .ok (.getfield 129, 3) := by decide +kernel
theorem dMo_enliven_102 : decode bMo_enliven 102 = .ok (.bipush 16, 2) := by decide +kernel
theorem dMo_enliven_104 : decode bMo_enliven 104 = .ok (.ishl, 1) := by decide +kernel
theorem dMo_enliven_105 : decode bMo_enliven 105 = .ok (.ior, 1) := by decide +kernel
theorem dMo_enliven_106 : decode bMo_enliven 106 = .ok (.istore 5, 2) := by decide +kernel
theorem dMo_enliven_108 : decode bMo_enliven 108 = .ok (.aload_n 0, 1) := by decide +kernel
theorem dMo_enliven_109 : decode bMo_enliven 109 = .ok (.getfield 53, 3) := by decide +kernel
theorem dMo_enliven_112 : decode bMo_enliven 112 = .ok (.iload_n 2, 1) := by decide +kernel
theorem dMo_enliven_113 : decode bMo_enliven 113 = .ok (.iload_n 3, 1) := by decide +kernel
theorem dMo_enliven_114 : decode bMo_enliven 114 = .ok (.iadd, 1) := by decide +kernel
theorem dMo_enliven_115 : decode bMo_enliven 115 = .ok (.aload_n 0, 1) := by decide +kernel
theorem dMo_enliven_116 : decode bMo_enliven 116 = .ok (.getfield 53, 3) := by decide +kernel
theorem dMo_enliven_119 : decode bMo_enliven 119 = .ok (.aload_n 0, 1) := by decide +kernel
theorem dMo_enliven_120 : decode bMo_enliven 120 = .ok (.iload_n 2, 1) := by decide +kernel
theorem dMo_enliven_121 : decode bMo_enliven 121 = .ok (.iload_n 3, 1) := by decide +kernel
theorem dMo_enliven_122 : decode bMo_enliven 122 = .ok (.iadd, 1) := by decide +kernel
theorem dMo_enliven_123 : decode bMo_enliven 123 = .ok (.iconst 1, 1) := by decide +kernel
theorem dMo_enliven_124 : decode bMo_enliven 124 = .ok (.iadd, 1) := by decide +kernel
theorem dMo_enliven_125 : decode bMo_enliven 125 = .ok (.iload_n 2, 1) := by decide +kernel
theorem dMo_enliven_126 : decode bMo_enliven 126 = .ok (.aload_n 0, 1) := by decide +kernel
theorem dMo_enliven_127 : decode bMo_enliven 127 = .ok (.getfield 63, 3) := by decide +kernel
theorem dMo_enliven_130 : decode bMo_enliven 130 = .ok (.iload_n 1, 1) := by decide +kernel
theorem dMo_enliven_131 : decode bMo_enliven 131 = .ok (.iaload, 1) := by decide +kernel
theorem dMo_enliven_132 : decode bMo_enliven 132 = .ok (.iadd, 1) := by decide +kernel
theorem dMo_enliven_133 : decode bMo_enliven 133 = .ok (.iload 5, 2) := by decide +kernel
theorem dMo_enliven_135 : decode bMo_enliven 135 = .ok (.invokevirtual 177, 3) := by decide +kernel
theorem dMo_enliven_138 : decode bMo_enliven 138 = .ok (.baload, 1) := by decide +kernel
theorem dMo_enliven_139 : decode bMo_enliven 139 = .ok (.bastore, 1) := by decide +kernel
theorem dMo_enliven_140 : decode bMo_enliven 140 = .ok (.iinc 4 1, 3) := by decide +kernel
theorem dMo_enliven_143 : decode bMo_enliven 143 = .ok (.goto (-101), 3) := by decide +kernel
theorem dMo_enliven_146 : decode bMo_enliven 146 = .ok (.iinc 3 (-1), 3) := by decide +kernel
theorem dMo_enliven_149 : decode bMo_enliven 149 = .ok (.goto (-134), 3) := by decide +kernel
theorem dMo_enliven_152 : decode bMo_enliven 152 = .ok (.return_, 1) := by decide +kernel
theorem dMo_isWhole_0 : decode bMo_isWhole 0 = .ok (.iconst 0, 1) := by decide +kernel
theorem dMo_isWhole_1 : decode bMo_isWhole 1 = .ok (.istore_n 1, 1) := by decide +kernel
theorem dMo_isWhole_2 : decode bMo_isWhole 2 = .ok (.iload_n 1, 1) := by decide +kernel
theorem dMo_isWhole_3 : decode bMo_isWhole 3 = .ok (.aload_n 0, 1) := by decide +kernel
theorem dMo_isWhole_4 : decode bMo_isWhole 4 = .ok (.getfield 104, 3) := by decide +kernel
theorem dMo_isWhole_7 : decode bMo_isWhole 7 = .ok (.if_icmp .ge 29, 3) := by decide +kernel
theorem dMo_isWhole_10 : decode bMo_isWhole 10 = .ok (.aload_n 0, 1) := by decide +kernel
theorem dMo_isWhole_11 : decode bMo_isWhole 11 = .ok (.iload_n 1, 1) := by decide +kernel
theorem dMo_isWhole_12 : decode bMo_isWhole 12 = .ok (.aload_n 0, 1) := by decide +kernel
theorem dMo_isWhole_13 : decode bMo_isWhole 13 = .ok (.getfield 87, 3) := by decide +kernel
theorem dMo_isWhole_16 : decode bMo_isWhole 16 = .ok (.iload_n 1, 1) := by decide +kernel
theorem dMo_isWhole_17 : decode bMo_isWhole 17 = .ok (.iaload, 1) := by decide +kernel
theorem dMo_isWhole_18 : decode bMo_isWhole 18 = .ok (.aload_n 0, 1) := by decide +kernel
theorem dMo_isWhole_19 : decode bMo_isWhole 19 = .ok (.getfield 114, 3) := by decide +kernel
theorem dMo_isWhole_22 : decode bMo_isWhole 22 = .ok (.invokevirtual 181, 3) := by decide +kernel
theorem dMo_isWhole_25 : decode bMo_isWhole 25 = .ok (.ifCond .ne 5, 3) := by decide +kernel
theorem dMo_isWhole_28 : decode bMo_isWhole 28 = .ok (.iconst 0, 1) := by decide +kernel
theorem dMo_isWhole_29 : decode bMo_isWhole 29 = .ok (.ireturn, 1) := by decide +kernel
theorem dMo_isWhole_30 : decode bMo_isWhole 30 = .ok (.iinc 1 1, 3) := by decide +kernel
theorem dMo_isWhole_33 : decode bMo_isWhole 33 = .ok (.goto (-31), 3) := by decide +kernel
theorem dMo_isWhole_36 : decode bMo_isWhole 36 = .ok (.iconst 1, 1) := by decide +kernel
theorem dMo_isWhole_37 : decode bMo_isWhole 37 = .ok (.ireturn, 1) := by decide +kernel
theorem dMo_goesOn_0 : decode bMo_goesOn 0 = .ok (.aload_n 0, 1) := by decide +kernel
theorem dMo_goesOn_1 : decode bMo_goesOn 1 = .ok (.getfield 22, 3) := by decide +kernel
theorem dMo_goesOn_4 : decode bMo_goesOn 4 = .ok (.iload_n 1, 1) := by decide +kernel
theorem dMo_goesOn_5 : decode bMo_goesOn 5 = .ok (.iaload, 1) := by decide +kernel
theorem dMo_goesOn_6 : decode bMo_goesOn 6 = .ok (.istore_n 2, 1) := by decide +kernel
theorem dMo_goesOn_7 : decode bMo_goesOn 7 = .ok (.iconst 0, 1) := by decide +kernel
theorem dMo_goesOn_8 : decode bMo_goesOn 8 = .ok (.istore_n 3, 1) := by decide +kernel
theorem dMo_goesOn_9 : decode bMo_goesOn 9 = .ok (.aload_n 0, 1) := by decide +kernel
theorem dMo_goesOn_10 : decode bMo_goesOn 10 = .ok (.getfield 16, 3) := by decide +kernel
theorem dMo_goesOn_13 : decode bMo_goesOn 13 = .ok (.bipush 16, 2) := by decide +kernel
theorem dMo_goesOn_15 : decode bMo_goesOn 15 = .ok (.iload_n 2, 1) := by decide +kernel
theorem dMo_goesOn_16 : decode bMo_goesOn 16 = .ok (.imul, 1) := by decide +kernel
theorem dMo_goesOn_17 : decode bMo_goesOn 17 = .ok (.iload_n 3, 1) := by decide +kernel
theorem dMo_goesOn_18 : decode bMo_goesOn 18 = .ok (.iadd, 1) := by decide +kernel
theorem dMo_goesOn_19 : decode bMo_goesOn 19 = .ok (.iaload, 1) := by decide +kernel
theorem dMo_goesOn_20 : decode bMo_goesOn 20 = .ok (.iload_n 1, 1) := by decide +kernel
theorem dMo_goesOn_21 : decode bMo_goesOn 21 = .ok (.if_icmp .eq 9, 3) := by decide +kernel
theorem dMo_goesOn_24 : decode bMo_goesOn 24 = .ok (.iinc 3 1, 3) := by decide +kernel
theorem dMo_goesOn_27 : decode bMo_goesOn 27 = .ok (.goto (-18), 3) := by decide +kernel
theorem dMo_goesOn_30 : decode bMo_goesOn 30 = .ok (.iconst 0, 1) := by decide +kernel
theorem dMo_goesOn_31 : decode bMo_goesOn 31 = .ok (.istore 4, 2) := by decide +kernel
theorem dMo_goesOn_33 : decode bMo_goesOn 33 = .ok (.iload 4, 2) := by decide +kernel
theorem dMo_goesOn_35 : decode bMo_goesOn 35 = .ok (.aload_n 0, 1) := by decide +kernel
theorem dMo_goesOn_36 : decode bMo_goesOn 36 = .ok (.getfield 111, 3) := by decide +kernel
theorem dMo_goesOn_39 : decode bMo_goesOn 39 = .ok (.if_icmp .ge 41, 3) := by decide +kernel
theorem dMo_goesOn_42 : decode bMo_goesOn 42 = .ok (.iload 4, 2) := by decide +kernel
theorem dMo_goesOn_44 : decode bMo_goesOn 44 = .ok (.iload_n 1, 1) := by decide +kernel
theorem dMo_goesOn_45 : decode bMo_goesOn 45 = .ok (.if_icmp .eq 29, 3) := by decide +kernel
theorem dMo_goesOn_48 : decode bMo_goesOn 48 = .ok (.aload_n 0, 1) := by decide +kernel
theorem dMo_goesOn_49 : decode bMo_goesOn 49 = .ok (.iload 4, 2) := by decide +kernel
theorem dMo_goesOn_51 : decode bMo_goesOn 51 = .ok (.iload_n 1, 1) := by decide +kernel
theorem dMo_goesOn_52 : decode bMo_goesOn 52 = .ok (.aload_n 0, 1) := by decide +kernel
theorem dMo_goesOn_53 : decode bMo_goesOn 53 = .ok (.getfield 114, 3) := by decide +kernel
theorem dMo_goesOn_56 : decode bMo_goesOn 56 = .ok (.iconst 0, 1) := by decide +kernel
theorem dMo_goesOn_57 : decode bMo_goesOn 57 = .ok (.invokevirtual 165, 3) := by decide +kernel
theorem dMo_goesOn_60 : decode bMo_goesOn 60 = .ok (.ifCond .eq 14, 3) := by decide +kernel
theorem dMo_goesOn_63 : decode bMo_goesOn 63 = .ok (.aload_n 0, 1) := by decide +kernel
theorem dMo_goesOn_64 : decode bMo_goesOn 64 = .ok (.iload 4, 2) := by decide +kernel
theorem dMo_goesOn_66 : decode bMo_goesOn 66 = .ok (.invokevirtual 206, 3) := by decide +kernel
theorem dMo_goesOn_69 : decode bMo_goesOn 69 = .ok (.ifCond .ne 5, 3) := by decide +kernel
theorem dMo_goesOn_72 : decode bMo_goesOn 72 = .ok (.iconst 0, 1) := by decide +kernel
theorem dMo_goesOn_73 : decode bMo_goesOn 73 = .ok (.ireturn, 1) := by decide +kernel
theorem dMo_goesOn_74 : decode bMo_goesOn 74 = .ok (.iinc 4 1, 3) := by decide +kernel
theorem dMo_goesOn_77 : decode bMo_goesOn 77 = .ok (.goto (-44), 3) := by decide +kernel
theorem dMo_goesOn_80 : decode bMo_goesOn 80 = .ok (.aload_n 0, 1) := by decide +kernel
theorem dMo_goesOn_81 : decode bMo_goesOn 81 = .ok (.iload_n 2, 1) := by decide +kernel
theorem dMo_goesOn_82 : decode bMo_goesOn 82 = .ok (.iload_n 3, 1) := by decide +kernel
theorem dMo_goesOn_83 : decode bMo_goesOn 83 = .ok (.aload_n 0, 1) := by decide +kernel
theorem dMo_goesOn_84 : decode bMo_goesOn 84 = .ok (.getfield 87, 3) := by decide +kernel
theorem dMo_goesOn_87 : decode bMo_goesOn 87 = .ok (.iload_n 2, 1) := by decide +kernel
theorem dMo_goesOn_88 : decode bMo_goesOn 88 = .ok (.iaload, 1) := by decide +kernel
theorem dMo_goesOn_89 : decode bMo_goesOn 89 = .ok (.aload_n 0, 1) := by decide +kernel
theorem dMo_goesOn_90 : decode bMo_goesOn 90 = .ok (.getfield 114, 3) := by decide +kernel
theorem dMo_goesOn_93 : decode bMo_goesOn 93 = .ok (.iconst 0, 1) := by decide +kernel
theorem dMo_goesOn_94 : decode bMo_goesOn 94 = .ok (.invokevirtual 172, 3) := by decide +kernel
theorem dMo_goesOn_97 : decode bMo_goesOn 97 = .ok (.ifCond .ne 5, 3) := by decide +kernel
theorem dMo_goesOn_100 : decode bMo_goesOn 100 = .ok (.iconst 0, 1) := by decide +kernel
theorem dMo_goesOn_101 : decode bMo_goesOn 101 = .ok (.ireturn, 1) := by decide +kernel
theorem dMo_goesOn_102 : decode bMo_goesOn 102 = .ok (.aload_n 0, 1) := by decide +kernel
theorem dMo_goesOn_103 : decode bMo_goesOn 103 = .ok (.getfield 46, 3) := by decide +kernel
theorem dMo_goesOn_106 : decode bMo_goesOn 106 = .ok (.aload_n 0, 1) := by decide +kernel
theorem dMo_goesOn_107 : decode bMo_goesOn 107 = .ok (.getfield 87, 3) := by decide +kernel
theorem dMo_goesOn_110 : decode bMo_goesOn 110 = .ok (.iload_n 2, 1) := by decide +kernel
theorem dMo_goesOn_111 : decode bMo_goesOn 111 = .ok (.iaload, 1) := by decide +kernel
theorem dMo_goesOn_112 : decode bMo_goesOn 112 = .ok (.iaload, 1) := by decide +kernel
theorem dMo_goesOn_113 : decode bMo_goesOn 113 = .ok (.ldc 176, 2) := by decide +kernel
theorem dMo_goesOn_115 : decode bMo_goesOn 115 = .ok (.iand, 1) := by decide +kernel
theorem dMo_goesOn_116 : decode bMo_goesOn 116 = .ok (.iconst 1, 1) := by decide +kernel
theorem dMo_goesOn_117 : decode bMo_goesOn 117 = .ok (.iload_n 3, 1) := by decide +kernel
theorem dMo_goesOn_118 : decode bMo_goesOn 118 = .ok (.ishl, 1) := by decide +kernel
theorem dMo_goesOn_119 : decode bMo_goesOn 119 = .ok (.ior, 1) := by decide +kernel
theorem dMo_goesOn_120 : decode bMo_goesOn 120 = .ok (.aload_n 0, 1) := by decide +kernel
theorem dMo_goesOn_121 : decode bMo_goesOn 121 = .ok (.getfield 129, 3) := by decide +kernel
theorem dMo_goesOn_124 : decode bMo_goesOn 124 = .ok (.bipush 16, 2) := by decide +kernel
theorem dMo_goesOn_126 : decode bMo_goesOn 126 = .ok (.ishl, 1) := by decide +kernel
theorem dMo_goesOn_127 : decode bMo_goesOn 127 = .ok (.ior, 1) := by decide +kernel
theorem dMo_goesOn_128 : decode bMo_goesOn 128 = .ok (.istore 4, 2) := by decide +kernel
theorem dMo_goesOn_130 : decode bMo_goesOn 130 = .ok (.aload_n 0, 1) := by decide +kernel
theorem dMo_goesOn_131 : decode bMo_goesOn 131 = .ok (.aload_n 0, 1) := by decide +kernel
theorem dMo_goesOn_132 : decode bMo_goesOn 132 = .ok (.getfield 87, 3) := by decide +kernel
theorem dMo_goesOn_135 : decode bMo_goesOn 135 = .ok (.iload_n 2, 1) := by decide +kernel
theorem dMo_goesOn_136 : decode bMo_goesOn 136 = .ok (.iaload, 1) := by decide +kernel
theorem dMo_goesOn_137 : decode bMo_goesOn 137 = .ok (.iconst 1, 1) := by decide +kernel
theorem dMo_goesOn_138 : decode bMo_goesOn 138 = .ok (.iadd, 1) := by decide +kernel
theorem dMo_goesOn_139 : decode bMo_goesOn 139 = .ok (.sipush 2001, 3) := by decide +kernel
theorem dMo_goesOn_142 : decode bMo_goesOn 142 = .ok (.iload_n 2, 1) := by decide +kernel
theorem dMo_goesOn_143 : decode bMo_goesOn 143 = .ok (.imul, 1) := by decide +kernel
theorem dMo_goesOn_144 : decode bMo_goesOn 144 = .ok (.aload_n 0, 1) := by decide +kernel
theorem dMo_goesOn_145 : decode bMo_goesOn 145 = .ok (.getfield 63, 3) := by decide +kernel
theorem dMo_goesOn_148 : decode bMo_goesOn 148 = .ok (.iload_n 2, 1) := by decide +kernel
theorem dMo_goesOn_149 : decode bMo_goesOn 149 = .ok (.iaload, 1) := by decide +kernel
theorem dMo_goesOn_150 : decode bMo_goesOn 150 = .ok (.iadd, 1) := by decide +kernel
theorem dMo_goesOn_151 : decode bMo_goesOn 151 = .ok (.iload 4, 2) := by decide +kernel
theorem dMo_goesOn_153 : decode bMo_goesOn 153 = .ok (.invokevirtual 177, 3) := by decide +kernel
theorem dMo_goesOn_156 : decode bMo_goesOn 156 = .ok (.istore 5, 2) := by decide +kernel
theorem dMo_goesOn_158 : decode bMo_goesOn 158 = .ok (.aload_n 0, 1) := by decide +kernel
theorem dMo_goesOn_159 : decode bMo_goesOn 159 = .ok (.getfield 53, 3) := by decide +kernel
theorem dMo_goesOn_162 : decode bMo_goesOn 162 = .ok (.iload 5, 2) := by decide +kernel
theorem dMo_goesOn_164 : decode bMo_goesOn 164 = .ok (.baload, 1) := by decide +kernel
theorem dMo_goesOn_165 : decode bMo_goesOn 165 = .ok (.ifCond .ne 5, 3) := by decide +kernel
theorem dMo_goesOn_168 : decode bMo_goesOn 168 = .ok (.iconst 0, 1) := by decide +kernel
theorem dMo_goesOn_169 : decode bMo_goesOn 169 = .ok (.ireturn, 1) := by decide +kernel
theorem dMo_goesOn_170 : decode bMo_goesOn 170 = .ok (.aload_n 0, 1) := by decide +kernel
theorem dMo_goesOn_171 : decode bMo_goesOn 171 = .ok (.getfield 81, 3) := by decide +kernel
theorem dMo_goesOn_174 : decode bMo_goesOn 174 = .ok (.aload_n 0, 1) := by decide +kernel
theorem dMo_goesOn_175 : decode bMo_goesOn 175 = .ok (.getfield 209, 3) := by decide +kernel
theorem dMo_goesOn_178 : decode bMo_goesOn 178 = .ok (.iload_n 1, 1) := by decide +kernel
theorem dMo_goesOn_179 : decode bMo_goesOn 179 = .ok (.iastore, 1) := by decide +kernel
theorem dMo_goesOn_180 : decode bMo_goesOn 180 = .ok (.aload_n 0, 1) := by decide +kernel
theorem dMo_goesOn_181 : decode bMo_goesOn 181 = .ok (.getfield 84, 3) := by decide +kernel
theorem dMo_goesOn_184 : decode bMo_goesOn 184 = .ok (.aload_n 0, 1) := by decide +kernel
theorem dMo_goesOn_185 : decode bMo_goesOn 185 = .ok (.getfield 209, 3) := by decide +kernel
theorem dMo_goesOn_188 : decode bMo_goesOn 188 = .ok (.aload_n 0, 1) := by decide +kernel
theorem dMo_goesOn_189 : decode bMo_goesOn 189 = .ok (.getfield 126, 3) := by decide +kernel
theorem dMo_goesOn_192 : decode bMo_goesOn 192 = .ok (.iastore, 1) := by decide +kernel
theorem dMo_goesOn_193 : decode bMo_goesOn 193 = .ok (.aload_n 0, 1) := by decide +kernel
theorem dMo_goesOn_194 : decode bMo_goesOn 194 = .ok (.dup, 1) := by decide +kernel
theorem dMo_goesOn_195 : decode bMo_goesOn 195 = .ok (.getfield 209, 3) := by decide +kernel
theorem dMo_goesOn_198 : decode bMo_goesOn 198 = .ok (.iconst 1, 1) := by decide +kernel
theorem dMo_goesOn_199 : decode bMo_goesOn 199 = .ok (.iadd, 1) := by decide +kernel
theorem dMo_goesOn_200 : decode bMo_goesOn 200 = .ok (.putfield 209, 3) := by decide +kernel
theorem dMo_goesOn_203 : decode bMo_goesOn 203 = .ok (.aload_n 0, 1) := by decide +kernel
theorem dMo_goesOn_204 : decode bMo_goesOn 204 = .ok (.getfield 87, 3) := by decide +kernel
theorem dMo_goesOn_207 : decode bMo_goesOn 207 = .ok (.iload_n 2, 1) := by decide +kernel
theorem dMo_goesOn_208 : decode bMo_goesOn 208 = .ok (.iload 5, 2) := by decide +kernel
theorem dMo_goesOn_210 : decode bMo_goesOn 210 = .ok (.iastore, 1) := by decide +kernel
theorem dMo_goesOn_211 : decode bMo_goesOn 211 = .ok (.iconst 1, 1) := by decide +kernel
theorem dMo_goesOn_212 : decode bMo_goesOn 212 = .ok (.ireturn, 1) := by decide +kernel
theorem dMo_isDone_0 : decode bMo_isDone 0 = .ok (.aload_n 0, 1) := by decide +kernel
theorem dMo_isDone_1 : decode bMo_isDone 1 = .ok (.getfield 22, 3) := by decide +kernel
theorem dMo_isDone_4 : decode bMo_isDone 4 = .ok (.iload_n 1, 1) := by decide +kernel
theorem dMo_isDone_5 : decode bMo_isDone 5 = .ok (.iaload, 1) := by decide +kernel
theorem dMo_isDone_6 : decode bMo_isDone 6 = .ok (.istore_n 2, 1) := by decide +kernel
theorem dMo_isDone_7 : decode bMo_isDone 7 = .ok (.iconst 0, 1) := by decide +kernel
theorem dMo_isDone_8 : decode bMo_isDone 8 = .ok (.istore_n 3, 1) := by decide +kernel
theorem dMo_isDone_9 : decode bMo_isDone 9 = .ok (.aload_n 0, 1) := by decide +kernel
theorem dMo_isDone_10 : decode bMo_isDone 10 = .ok (.getfield 16, 3) := by decide +kernel
theorem dMo_isDone_13 : decode bMo_isDone 13 = .ok (.bipush 16, 2) := by decide +kernel
theorem dMo_isDone_15 : decode bMo_isDone 15 = .ok (.iload_n 2, 1) := by decide +kernel
theorem dMo_isDone_16 : decode bMo_isDone 16 = .ok (.imul, 1) := by decide +kernel
theorem dMo_isDone_17 : decode bMo_isDone 17 = .ok (.iload_n 3, 1) := by decide +kernel
theorem dMo_isDone_18 : decode bMo_isDone 18 = .ok (.iadd, 1) := by decide +kernel
theorem dMo_isDone_19 : decode bMo_isDone 19 = .ok (.iaload, 1) := by decide +kernel
theorem dMo_isDone_20 : decode bMo_isDone 20 = .ok (.iload_n 1, 1) := by decide +kernel
theorem dMo_isDone_21 : decode bMo_isDone 21 = .ok (.if_icmp .eq 9, 3) := by decide +kernel
theorem dMo_isDone_24 : decode bMo_isDone 24 = .ok (.iinc 3 1, 3) := by decide +kernel
theorem dMo_isDone_27 : decode bMo_isDone 27 = .ok (.goto (-18), 3) := by decide +kernel
theorem dMo_isDone_30 : decode bMo_isDone 30 = .ok (.aload_n 0, 1) := by decide +kernel
theorem dMo_isDone_31 : decode bMo_isDone 31 = .ok (.getfield 46, 3) := by decide +kernel
theorem dMo_isDone_34 : decode bMo_isDone 34 = .ok (.aload_n 0, 1) := by decide +kernel
theorem dMo_isDone_35 : decode bMo_isDone 35 = .ok (.getfield 87, 3) := by decide +kernel
theorem dMo_isDone_38 : decode bMo_isDone 38 = .ok (.iload_n 2, 1) := by decide +kernel
theorem dMo_isDone_39 : decode bMo_isDone 39 = .ok (.iaload, 1) := by decide +kernel
theorem dMo_isDone_40 : decode bMo_isDone 40 = .ok (.iaload, 1) := by decide +kernel
theorem dMo_isDone_41 : decode bMo_isDone 41 = .ok (.iload_n 3, 1) := by decide +kernel
theorem dMo_isDone_42 : decode bMo_isDone 42 = .ok (.ishr, 1) := by decide +kernel
theorem dMo_isDone_43 : decode bMo_isDone 43 = .ok (.iconst 1, 1) := by decide +kernel
theorem dMo_isDone_44 : decode bMo_isDone 44 = .ok (.iand, 1) := by decide +kernel
theorem dMo_isDone_45 : decode bMo_isDone 45 = .ok (.iconst 1, 1) := by decide +kernel
theorem dMo_isDone_46 : decode bMo_isDone 46 = .ok (.if_icmp .ne 7, 3) := by decide +kernel
theorem dMo_isDone_49 : decode bMo_isDone 49 = .ok (.iconst 1, 1) := by decide +kernel
theorem dMo_isDone_50 : decode bMo_isDone 50 = .ok (.goto 4, 3) := by decide +kernel
theorem dMo_isDone_53 : decode bMo_isDone 53 = .ok (.iconst 0, 1) := by decide +kernel
theorem dMo_isDone_54 : decode bMo_isDone 54 = .ok (.ireturn, 1) := by decide +kernel
theorem dMo_row_0 : decode bMo_row 0 = .ok (.aload_n 0, 1) := by decide +kernel
theorem dMo_row_1 : decode bMo_row 1 = .ok (.aload_n 0, 1) := by decide +kernel
theorem dMo_row_2 : decode bMo_row 2 = .ok (.invokevirtual 222, 3) := by decide +kernel
theorem dMo_row_5 : decode bMo_row 5 = .ok (.ifCond .ne 7, 3) := by decide +kernel
theorem dMo_row_8 : decode bMo_row 8 = .ok (.iconst 1, 1) := by decide +kernel
theorem dMo_row_9 : decode bMo_row 9 = .ok (.goto 20, 3) := by decide +kernel
theorem dMo_row_12 : decode bMo_row 12 = .ok (.iload_n 1, 1) := by decide +kernel
theorem dMo_row_13 : decode bMo_row 13 = .ok (.ifCond .lt 11, 3) := by decide +kernel
theorem dMo_row_16 : decode bMo_row 16 = .ok (.iload_n 1, 1) := by decide +kernel
theorem dMo_row_17 : decode bMo_row 17 = .ok (.aload_n 0, 1) := by decide +kernel
theorem dMo_row_18 : decode bMo_row 18 = .ok (.getfield 209, 3) := by decide +kernel
theorem dMo_row_21 : decode bMo_row 21 = .ok (.if_icmp .lt 7, 3) := by decide +kernel
theorem dMo_row_24 : decode bMo_row 24 = .ok (.iconst 2, 1) := by decide +kernel
theorem dMo_row_25 : decode bMo_row 25 = .ok (.goto 4, 3) := by decide +kernel
theorem dMo_row_28 : decode bMo_row 28 = .ok (.iconst 0, 1) := by decide +kernel
theorem dMo_row_29 : decode bMo_row 29 = .ok (.putfield 93, 3) := by decide +kernel
theorem dMo_row_32 : decode bMo_row 32 = .ok (.aload_n 0, 1) := by decide +kernel
theorem dMo_row_33 : decode bMo_row 33 = .ok (.getfield 93, 3) := by decide +kernel
theorem dMo_row_36 : decode bMo_row 36 = .ok (.ifCond .le 7, 3) := by decide +kernel
theorem dMo_row_39 : decode bMo_row 39 = .ok (.iconst 0, 1) := by decide +kernel
theorem dMo_row_40 : decode bMo_row 40 = .ok (.goto 9, 3) := by decide +kernel
theorem dMo_row_43 : decode bMo_row 43 = .ok (.aload_n 0, 1) := by decide +kernel
theorem dMo_row_44 : decode bMo_row 44 = .ok (.getfield 81, 3) := by decide +kernel
theorem dMo_row_47 : decode bMo_row 47 = .ok (.iload_n 1, 1) := by decide +kernel
theorem dMo_row_48 : decode bMo_row 48 = .ok (.iaload, 1) := by decide +kernel
theorem dMo_row_49 : decode bMo_row 49 = .ok (.ireturn, 1) := by decide +kernel
