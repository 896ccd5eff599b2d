theorem dMo_ways_0 : decode bMo_ways 0 = .ok (.aload_n 0, 1) := by decide +kernel
theorem dMo_ways_1 : decode bMo_ways 1 = .ok (.aload_n 0, 1) := by decide +kernel
theorem dMo_ways_2 : decode bMo_ways 2 = .ok (.iload_n 1, 1) := by decide +kernel
theorem dMo_ways_3 : decode bMo_ways 3 = .ok (.invokevirtual 107, 3) := by decide +kernel
theorem dMo_ways_6 : decode bMo_ways 6 = .ok (.ifCond .eq 7, 3) := by decide +kernel
theorem dMo_ways_9 : decode bMo_ways 9 = .ok (.iconst 1, 1) := by decide +kernel
theorem dMo_ways_10 : decode bMo_ways 10 = .ok (.goto 4, 3) := by decide +kernel
theorem dMo_ways_13 : decode bMo_ways 13 = .ok (.iconst 0, 1) := by decide +kernel
theorem dMo_ways_14 : decode bMo_ways 14 = .ok (.putfield 93, 3) := by decide +kernel
theorem dMo_ways_17 : decode bMo_ways 17 = .ok (.aload_n 0, 1) := by decide +kernel
theorem dMo_ways_18 : decode bMo_ways 18 = .ok (.getfield 93, 3) := by decide +kernel
theorem dMo_ways_21 : decode bMo_ways 21 = .ok (.ifCond .le 5, 3) := by decide +kernel
theorem dMo_ways_24 : decode bMo_ways 24 = .ok (.lconst 0, 1) := by decide +kernel
theorem dMo_ways_25 : decode bMo_ways 25 = .ok (.lreturn, 1) := by decide +kernel
theorem dMo_ways_26 : decode bMo_ways 26 = .ok (.aload_n 0, 1) := by decide +kernel
theorem dMo_ways_27 : decode bMo_ways 27 = .ok (.iload_n 1, 1) := by decide +kernel
theorem dMo_ways_28 : decode bMo_ways 28 = .ok (.invokevirtual 195, 3) := by decide +kernel
theorem dMo_ways_31 : decode bMo_ways 31 = .ok (.aload_n 0, 1) := by decide +kernel
theorem dMo_ways_32 : decode bMo_ways 32 = .ok (.getfield 69, 3) := by decide +kernel
theorem dMo_ways_35 : decode bMo_ways 35 = .ok (.iload_n 1, 1) := by decide +kernel
theorem dMo_ways_36 : decode bMo_ways 36 = .ok (.laload, 1) := by decide +kernel
theorem dMo_ways_37 : decode bMo_ways 37 = .ok (.lreturn, 1) := by decide +kernel
theorem dMo_lasts_0 : decode bMo_lasts 0 = .ok (.aload_n 0, 1) := by decide +kernel
theorem dMo_lasts_1 : decode bMo_lasts 1 = .ok (.aload_n 0, 1) := by decide +kernel
theorem dMo_lasts_2 : decode bMo_lasts 2 = .ok (.iload_n 1, 1) := by decide +kernel
theorem dMo_lasts_3 : decode bMo_lasts 3 = .ok (.invokevirtual 107, 3) := by decide +kernel
theorem dMo_lasts_6 : decode bMo_lasts 6 = .ok (.ifCond .eq 7, 3) := by decide +kernel
theorem dMo_lasts_9 : decode bMo_lasts 9 = .ok (.iconst 1, 1) := by decide +kernel
theorem dMo_lasts_10 : decode bMo_lasts 10 = .ok (.goto 4, 3) := by decide +kernel
theorem dMo_lasts_13 : decode bMo_lasts 13 = .ok (.iconst 0, 1) := by decide +kernel
theorem dMo_lasts_14 : decode bMo_lasts 14 = .ok (.putfield 93, 3) := by decide +kernel
theorem dMo_lasts_17 : decode bMo_lasts 17 = .ok (.aload_n 0, 1) := by decide +kernel
theorem dMo_lasts_18 : decode bMo_lasts 18 = .ok (.getfield 93, 3) := by decide +kernel
theorem dMo_lasts_21 : decode bMo_lasts 21 = .ok (.ifCond .le 5, 3) := by decide +kernel
theorem dMo_lasts_24 : decode bMo_lasts 24 = .ok (.iconst 0, 1) := by decide +kernel
theorem dMo_lasts_25 : decode bMo_lasts 25 = .ok (.ireturn, 1) := by decide +kernel
theorem dMo_lasts_26 : decode bMo_lasts 26 = .ok (.aload_n 0, 1) := by decide +kernel
theorem dMo_lasts_27 : decode bMo_lasts 27 = .ok (.iload_n 1, 1) := by decide +kernel
theorem dMo_lasts_28 : decode bMo_lasts 28 = .ok (.invokevirtual 195, 3) := by decide +kernel
theorem dMo_lasts_31 : decode bMo_lasts 31 = .ok (.aload_n 0, 1) := by decide +kernel
theorem dMo_lasts_32 : decode bMo_lasts 32 = .ok (.getfield 72, 3) := by decide +kernel
theorem dMo_lasts_35 : decode bMo_lasts 35 = .ok (.iload_n 1, 1) := by decide +kernel
theorem dMo_lasts_36 : decode bMo_lasts 36 = .ok (.iaload, 1) := by decide +kernel
theorem dMo_lasts_37 : decode bMo_lasts 37 = .ok (.ireturn, 1) := by decide +kernel
theorem dMo_broken_0 : decode bMo_broken 0 = .ok (.aload_n 0, 1) := by decide +kernel
theorem dMo_broken_1 : decode bMo_broken 1 = .ok (.aload_n 0, 1) := by decide +kernel
theorem dMo_broken_2 : decode bMo_broken 2 = .ok (.iload_n 1, 1) := by decide +kernel
theorem dMo_broken_3 : decode bMo_broken 3 = .ok (.invokevirtual 107, 3) := by decide +kernel
theorem dMo_broken_6 : decode bMo_broken 6 = .ok (.ifCond .eq 7, 3) := by decide +kernel
theorem dMo_broken_9 : decode bMo_broken 9 = .ok (.iconst 1, 1) := by decide +kernel
theorem dMo_broken_10 : decode bMo_broken 10 = .ok (.goto 4, 3) := by decide +kernel
theorem dMo_broken_13 : decode bMo_broken 13 = .ok (.iconst 0, 1) := by decide +kernel
theorem dMo_broken_14 : decode bMo_broken 14 = .ok (.putfield 93, 3) := by decide +kernel
theorem dMo_broken_17 : decode bMo_broken 17 = .ok (.aload_n 0, 1) := by decide +kernel
theorem dMo_broken_18 : decode bMo_broken 18 = .ok (.getfield 93, 3) := by decide +kernel
theorem dMo_broken_21 : decode bMo_broken 21 = .ok (.ifCond .le 5, 3) := by decide +kernel
theorem dMo_broken_24 : decode bMo_broken 24 = .ok (.iconst 0, 1) := by decide +kernel
theorem dMo_broken_25 : decode bMo_broken 25 = .ok (.ireturn, 1) := by decide +kernel
theorem dMo_broken_26 : decode bMo_broken 26 = .ok (.aload_n 0, 1) := by decide +kernel
theorem dMo_broken_27 : decode bMo_broken 27 = .ok (.getfield 78, 3) := by decide +kernel
theorem dMo_broken_30 : decode bMo_broken 30 = .ok (.iload_n 1, 1) := by decide +kernel
theorem dMo_broken_31 : decode bMo_broken 31 = .ok (.baload, 1) := by decide +kernel
theorem dMo_broken_32 : decode bMo_broken 32 = .ok (.ifCond .ne 86, 3) := by decide +kernel
theorem dMo_broken_35 : decode bMo_broken 35 = .ok (.aload_n 0, 1) := by decide +kernel
theorem dMo_broken_36 : decode bMo_broken 36 = .ok (.getfield 75, 3) := by decide +kernel
theorem dMo_broken_39 : decode bMo_broken 39 = .ok (.iload_n 1, 1) := by decide +kernel
theorem dMo_broken_40 : decode bMo_broken 40 = .ok (.iconst (-1), 1) := by decide +kernel
theorem dMo_broken_41 : decode bMo_broken 41 = .ok (.iastore, 1) := by decide +kernel
theorem dMo_broken_42 : decode bMo_broken 42 = .ok (.iconst 1, 1) := by decide +kernel
theorem dMo_broken_43 : decode bMo_broken 43 = .ok (.istore_n 2, 1) := by decide +kernel
theorem dMo_broken_44 : decode bMo_broken 44 = .ok (.iload_n 2, 1) := by decide +kernel
theorem dMo_broken_45 : decode bMo_broken 45 = .ok (.aload_n 0, 1) := by decide +kernel
theorem dMo_broken_46 : decode bMo_broken 46 = .ok (.getfield 114, 3) := by decide +kernel
theorem dMo_broken_49 : decode bMo_broken 49 = .ok (.if_icmp .gt 62, 3) := by decide +kernel
theorem dMo_broken_52 : decode bMo_broken 52 = .ok (.aload_n 0, 1) := by decide +kernel
theorem dMo_broken_53 : decode bMo_broken 53 = .ok (.getfield 75, 3) := by decide +kernel
theorem dMo_broken_56 : decode bMo_broken 56 = .ok (.iload_n 1, 1) := by decide +kernel
theorem dMo_broken_57 : decode bMo_broken 57 = .ok (.iaload, 1) := by decide +kernel
theorem dMo_broken_58 : decode bMo_broken 58 = .ok (.ifCond .ge 53, 3) := by decide +kernel
theorem dMo_broken_61 : decode bMo_broken 61 = .ok (.aload_n 0, 1) := by decide +kernel
theorem dMo_broken_62 : decode bMo_broken 62 = .ok (.iload_n 1, 1) := by decide +kernel
theorem dMo_broken_63 : decode bMo_broken 63 = .ok (.iload_n 2, 1) := by decide +kernel
theorem dMo_broken_64 : decode bMo_broken 64 = .ok (.invokevirtual 199, 3) := by decide +kernel
theorem dMo_broken_67 : decode bMo_broken 67 = .ok (.ifCond .eq 38, 3) := by decide +kernel
theorem dMo_broken_70 : decode bMo_broken 70 = .ok (.aload_n 0, 1) := by decide +kernel
theorem dMo_broken_71 : decode bMo_broken 71 = .ok (.iload_n 1, 1) := by decide +kernel
theorem dMo_broken_72 : decode bMo_broken 72 = .ok (.sipush 12006, 3) := by decide +kernel
theorem dMo_broken_75 : decode bMo_broken 75 = .ok (.iload_n 2, 1) := by decide +kernel
theorem dMo_broken_76 : decode bMo_broken 76 = .ok (.iconst 0, 1) := by decide +kernel
theorem dMo_broken_77 : decode bMo_broken 77 = .ok (.invokevirtual 185, 3) := by decide +kernel
theorem dMo_broken_80 : decode bMo_broken 80 = .ok (.istore_n 3, 1) := by decide +kernel
theorem dMo_broken_81 : decode bMo_broken 81 = .ok (.aload_n 0, 1) := by decide +kernel
theorem dMo_broken_82 : decode bMo_broken 82 = .ok (.getfield 75, 3) := by decide +kernel
theorem dMo_broken_85 : decode bMo_broken 85 = .ok (.iload_n 1, 1) := by decide +kernel
theorem dMo_broken_86 : decode bMo_broken 86 = .ok (.aload_n 0, 1) := by decide +kernel
theorem dMo_broken_87 : decode bMo_broken 87 = .ok (.iload_n 1, 1) := by decide +kernel
theorem dMo_broken_88 : decode bMo_broken 88 = .ok (.sipush 12006, 3) := by decide +kernel
theorem dMo_broken_91 : decode bMo_broken 91 = .ok (.iload_n 3, 1) := by decide +kernel
theorem dMo_broken_92 : decode bMo_broken 92 = .ok (.iload_n 2, 1) := by decide +kernel
theorem dMo_broken_93 : decode bMo_broken 93 = .ok (.invokevirtual 189, 3) := by decide +kernel
theorem dMo_broken_96 : decode bMo_broken 96 = .ok (.ifCond .ne 7, 3) := by decide +kernel
theorem dMo_broken_99 : decode bMo_broken 99 = .ok (.iload_n 2, 1) := by decide +kernel
theorem dMo_broken_100 : decode bMo_broken 100 = .ok (.goto 4, 3) := by decide +kernel
theorem dMo_broken_103 : decode bMo_broken 103 = .ok (.iconst (-1), 1) := by decide +kernel
theorem dMo_broken_104 : decode bMo_broken 104 = .ok (.iastore, 1) := by decide +kernel
theorem dMo_broken_105 : decode bMo_broken 105 = .ok (.iinc 2 1, 3) := by decide +kernel
theorem dMo_broken_108 : decode bMo_broken 108 = .ok (.goto (-64), 3) := by decide +kernel
theorem dMo_broken_111 : decode bMo_broken 111 = .ok (.aload_n 0, 1) := by decide +kernel
theorem dMo_broken_112 : decode bMo_broken 112 = .ok (.getfield 78, 3) := by decide +kernel
theorem dMo_broken_115 : decode bMo_broken 115 = .ok (.iload_n 1, 1) := by decide +kernel
theorem dMo_broken_116 : decode bMo_broken 116 = .ok (.iconst 1, 1) := by decide +kernel
theorem dMo_broken_117 : decode bMo_broken 117 = .ok (.bastore, 1) := by decide +kernel
theorem dMo_broken_118 : decode bMo_broken 118 = .ok (.aload_n 0, 1) := by decide +kernel
theorem dMo_broken_119 : decode bMo_broken 119 = .ok (.getfield 75, 3) := by decide +kernel
theorem dMo_broken_122 : decode bMo_broken 122 = .ok (.iload_n 1, 1) := by decide +kernel
theorem dMo_broken_123 : decode bMo_broken 123 = .ok (.iaload, 1) := by decide +kernel
theorem dMo_broken_124 : decode bMo_broken 124 = .ok (.ireturn, 1) := by decide +kernel
theorem dMo_isTouched_0 : decode bMo_isTouched 0 = .ok (.iconst 0, 1) := by decide +kernel
theorem dMo_isTouched_1 : decode bMo_isTouched 1 = .ok (.istore_n 3, 1) := by decide +kernel
theorem dMo_isTouched_2 : decode bMo_isTouched 2 = .ok (.iload_n 3, 1) := by decide +kernel
theorem dMo_isTouched_3 : decode bMo_isTouched 3 = .ok (.aload_n 0, 1) := by decide +kernel
theorem dMo_isTouched_4 : decode bMo_isTouched 4 = .ok (.getfield 13, 3) := by decide +kernel
theorem dMo_isTouched_7 : decode bMo_isTouched 7 = .ok (.iload_n 1, 1) := by decide +kernel
theorem dMo_isTouched_8 : decode bMo_isTouched 8 = .ok (.iaload, 1) := by decide +kernel
theorem dMo_isTouched_9 : decode bMo_isTouched 9 = .ok (.if_icmp .ge 46, 3) := by decide +kernel
theorem dMo_isTouched_12 : decode bMo_isTouched 12 = .ok (.aload_n 0, 1) := by decide +kernel
theorem dMo_isTouched_13 : decode bMo_isTouched 13 = .ok (.getfield 16, 3) := by decide +kernel
theorem dMo_isTouched_16 : decode bMo_isTouched 16 = .ok (.bipush 16, 2) := by decide +kernel
theorem dMo_isTouched_18 : decode bMo_isTouched 18 = .ok (.iload_n 1, 1) := by decide +kernel
theorem dMo_isTouched_19 : decode bMo_isTouched 19 = .ok (.imul, 1) := by decide +kernel
theorem dMo_isTouched_20 : decode bMo_isTouched 20 = .ok (.iload_n 3, 1) := by decide +kernel
theorem dMo_isTouched_21 : decode bMo_isTouched 21 = .ok (.iadd, 1) := by decide +kernel
theorem dMo_isTouched_22 : decode bMo_isTouched 22 = .ok (.iaload, 1) := by decide +kernel
theorem dMo_isTouched_23 : decode bMo_isTouched 23 = .ok (.istore 4, 2) := by decide +kernel
theorem dMo_isTouched_25 : decode bMo_isTouched 25 = .ok (.aload_n 0, 1) := by decide +kernel
theorem dMo_isTouched_26 : decode bMo_isTouched 26 = .ok (.getfield 37, 3) := by decide +kernel
theorem dMo_isTouched_29 : decode bMo_isTouched 29 = .ok (.iload 4, 2) := by decide +kernel
theorem dMo_isTouched_31 : decode bMo_isTouched 31 = .ok (.iaload, 1) := by decide +kernel
theorem dMo_isTouched_32 : decode bMo_isTouched 32 = .ok (.iload_n 2, 1) := by decide +kernel
theorem dMo_isTouched_33 : decode bMo_isTouched 33 = .ok (.if_icmp .eq 14, 3) := by decide +kernel
theorem dMo_isTouched_36 : decode bMo_isTouched 36 = .ok (.aload_n 0, 1) := by decide +kernel
theorem dMo_isTouched_37 : decode bMo_isTouched 37 = .ok (.getfield 40, 3) := by decide +kernel
theorem dMo_isTouched_40 : decode bMo_isTouched 40 = .ok (.iload 4, 2) := by decide +kernel
theorem dMo_isTouched_42 : decode bMo_isTouched 42 = .ok (.iaload, 1) := by decide +kernel
theorem dMo_isTouched_43 : decode bMo_isTouched 43 = .ok (.iload_n 2, 1) := by decide +kernel
theorem dMo_isTouched_44 : decode bMo_isTouched 44 = .ok (.if_icmp .ne 5, 3) := by decide +kernel
theorem dMo_isTouched_47 : decode bMo_isTouched 47 = .ok (.iconst 1, 1) := by decide +kernel
theorem dMo_isTouched_48 : decode bMo_isTouched 48 = .ok (.ireturn, 1) := by decide +kernel
theorem dMo_isTouched_49 : decode bMo_isTouched 49 = .ok (.iinc 3 1, 3) := by decide +kernel
theorem dMo_isTouched_52 : decode bMo_isTouched 52 = .ok (.goto (-50), 3) := by decide +kernel
theorem dMo_isTouched_55 : decode bMo_isTouched 55 = .ok (.iconst 0, 1) := by decide +kernel
theorem dMo_isTouched_56 : decode bMo_isTouched 56 = .ok (.ireturn, 1) := by decide +kernel
theorem dMo_linear_0 : decode bMo_linear 0 = .ok (.aload_n 0, 1) := by decide +kernel
theorem dMo_linear_1 : decode bMo_linear 1 = .ok (.iconst 0, 1) := by decide +kernel
theorem dMo_linear_2 : decode bMo_linear 2 = .ok (.putfield 93, 3) := by decide +kernel
theorem dMo_linear_5 : decode bMo_linear 5 = .ok (.aload_n 0, 1) := by decide +kernel
theorem dMo_linear_6 : decode bMo_linear 6 = .ok (.invokevirtual 202, 3) := by decide +kernel
theorem dMo_linear_9 : decode bMo_linear 9 = .ok (.ireturn, 1) := by decide +kernel
theorem dMo_linearity_0 : decode bMo_linearity 0 = .ok (.iconst 1, 1) := by decide +kernel
theorem dMo_linearity_1 : decode bMo_linearity 1 = .ok (.istore_n 1, 1) := by decide +kernel
theorem dMo_linearity_2 : decode bMo_linearity 2 = .ok (.iconst 0, 1) := by decide +kernel
theorem dMo_linearity_3 : decode bMo_linearity 3 = .ok (.istore_n 2, 1) := by decide +kernel
theorem dMo_linearity_4 : decode bMo_linearity 4 = .ok (.iload_n 2, 1) := by decide +kernel
theorem dMo_linearity_5 : decode bMo_linearity 5 = .ok (.aload_n 0, 1) := by decide +kernel
theorem dMo_linearity_6 : decode bMo_linearity 6 = .ok (.getfield 104, 3) := by decide +kernel
theorem dMo_linearity_9 : decode bMo_linearity 9 = .ok (.if_icmp .ge 49, 3) := by decide +kernel
theorem dMo_linearity_12 : decode bMo_linearity 12 = .ok (.aload_n 0, 1) := by decide +kernel
theorem dMo_linearity_13 : decode bMo_linearity 13 = .ok (.iload_n 2, 1) := by decide +kernel
theorem dMo_linearity_14 : decode bMo_linearity 14 = .ok (.invokevirtual 195, 3) := by decide +kernel
theorem dMo_linearity_17 : decode bMo_linearity 17 = .ok (.aload_n 0, 1) := by decide +kernel
theorem dMo_linearity_18 : decode bMo_linearity 18 = .ok (.getfield 66, 3) := by decide +kernel
theorem dMo_linearity_21 : decode bMo_linearity 21 = .ok (.iload_n 2, 1) := by decide +kernel
theorem dMo_linearity_22 : decode bMo_linearity 22 = .ok (.iaload, 1) := by decide +kernel
theorem dMo_linearity_23 : decode bMo_linearity 23 = .ok (.ifCond .eq 7, 3) := by decide +kernel
theorem dMo_linearity_26 : decode bMo_linearity 26 = .ok (.iload_n 1, 1) := by decide +kernel
theorem dMo_linearity_27 : decode bMo_linearity 27 = .ok (.ifCond .ne 7, 3) := by decide +kernel
theorem dMo_linearity_30 : decode bMo_linearity 30 = .ok (.iconst 0, 1) := by decide +kernel
theorem dMo_linearity_31 : decode bMo_linearity 31 = .ok (.goto 20, 3) := by decide +kernel
theorem dMo_linearity_34 : decode bMo_linearity 34 = .ok (.aload_n 0, 1) := by decide +kernel
theorem dMo_linearity_35 : decode bMo_linearity 35 = .ok (.getfield 66, 3) := by decide +kernel
theorem dMo_linearity_38 : decode bMo_linearity 38 = .ok (.iload_n 2, 1) := by decide +kernel
theorem dMo_linearity_39 : decode bMo_linearity 39 = .ok (.iaload, 1) := by decide +kernel
theorem dMo_linearity_40 : decode bMo_linearity 40 = .ok (.bipush (-2), 2) := by decide +kernel
theorem dMo_linearity_42 : decode bMo_linearity 42 = .ok (.if_icmp .ne 8, 3) := by decide +kernel
theorem dMo_linearity_45 : decode bMo_linearity 45 = .ok (.bipush (-2), 2) := by decide +kernel
theorem dMo_linearity_47 : decode bMo_linearity 47 = .ok (.goto 4, 3) := by decide +kernel
theorem dMo_linearity_50 : decode bMo_linearity 50 = .ok (.iload_n 1, 1) := by decide +kernel
theorem dMo_linearity_51 : decode bMo_linearity 51 = .ok (.istore_n 1, 1) := by decide +kernel
theorem dMo_linearity_52 : decode bMo_linearity 52 = .ok (.iinc 2 1, 3) := by decide +kernel
theorem dMo_linearity_55 : decode bMo_linearity 55 = .ok (.goto (-51), 3) := by decide +kernel
theorem dMo_linearity_58 : decode bMo_linearity 58 = .ok (.iload_n 1, 1) := by decide +kernel
theorem dMo_linearity_59 : decode bMo_linearity 59 = .ok (.ireturn, 1) := by decide +kernel
theorem dMo_length_0 : decode bMo_length 0 = .ok (.aload_n 0, 1) := by decide +kernel
theorem dMo_length_1 : decode bMo_length 1 = .ok (.aload_n 0, 1) := by decide +kernel
theorem dMo_length_2 : decode bMo_length 2 = .ok (.invokevirtual 222, 3) := by decide +kernel
theorem dMo_length_5 : decode bMo_length 5 = .ok (.ifCond .eq 7, 3) := by decide +kernel
theorem dMo_length_8 : decode bMo_length 8 = .ok (.iconst 0, 1) := by decide +kernel
theorem dMo_length_9 : decode bMo_length 9 = .ok (.goto 4, 3) := by decide +kernel
theorem dMo_length_12 : decode bMo_length 12 = .ok (.iconst 1, 1) := by decide +kernel
theorem dMo_length_13 : decode bMo_length 13 = .ok (.putfield 93, 3) := by decide +kernel
theorem dMo_length_16 : decode bMo_length 16 = .ok (.aload_n 0, 1) := by decide +kernel
theorem dMo_length_17 : decode bMo_length 17 = .ok (.getfield 93, 3) := by decide +kernel
theorem dMo_length_20 : decode bMo_length 20 = .ok (.ifCond .le 7, 3) := by decide +kernel
theorem dMo_length_23 : decode bMo_length 23 = .ok (.iconst 0, 1) := by decide +kernel
theorem dMo_length_24 : decode bMo_length 24 = .ok (.goto 7, 3) := by decide +kernel
theorem dMo_length_27 : decode bMo_length 27 = .ok (.aload_n 0, 1) := by decide +kernel
theorem dMo_length_28 : decode bMo_length 28 = .ok (.getfield 209, 3) := by decide +kernel
theorem dMo_length_31 : decode bMo_length 31 = .ok (.ireturn, 1) := by decide +kernel
theorem dMo_lay_0 : decode bMo_lay 0 = .ok (.aload_n 0, 1) := by decide +kernel
theorem dMo_lay_1 : decode bMo_lay 1 = .ok (.invokevirtual 202, 3) := by decide +kernel
theorem dMo_lay_4 : decode bMo_lay 4 = .ok (.iconst 1, 1) := by decide +kernel
theorem dMo_lay_5 : decode bMo_lay 5 = .ok (.if_icmp .eq 5, 3) := by decide +kernel
theorem dMo_lay_8 : decode bMo_lay 8 = .ok (.iconst 0, 1) := by decide +kernel
theorem dMo_lay_9 : decode bMo_lay 9 = .ok (.ireturn, 1) := by decide +kernel
theorem dMo_lay_10 : decode bMo_lay 10 = .ok (.aload_n 0, 1) := by decide +kernel
theorem dMo_lay_11 : decode bMo_lay 11 = .ok (.getfield 100, 3) := by decide +kernel
theorem dMo_lay_14 : decode bMo_lay 14 = .ok (.ifCond .ne 71, 3) := by decide +kernel
theorem dMo_lay_17 : decode bMo_lay 17 = .ok (.aload_n 0, 1) := by decide +kernel
theorem dMo_lay_18 : decode bMo_lay 18 = .ok (.iconst 0, 1) := by decide +kernel
theorem dMo_lay_19 : decode bMo_lay 19 = .ok (.putfield 209, 3) := by decide +kernel
theorem dMo_lay_22 : decode bMo_lay 22 = .ok (.iconst 0, 1) := by decide +kernel
theorem dMo_lay_23 : decode bMo_lay 23 = .ok (.istore_n 1, 1) := by decide +kernel
theorem dMo_lay_24 : decode bMo_lay 24 = .ok (.iload_n 1, 1) := by decide +kernel
theorem dMo_lay_25 : decode bMo_lay 25 = .ok (.aload_n 0, 1) := by decide +kernel
theorem dMo_lay_26 : decode bMo_lay 26 = .ok (.getfield 104, 3) := by decide +kernel
theorem dMo_lay_29 : decode bMo_lay 29 = .ok (.if_icmp .ge 25, 3) := by decide +kernel
theorem dMo_lay_32 : decode bMo_lay 32 = .ok (.aload_n 0, 1) := by decide +kernel
theorem dMo_lay_33 : decode bMo_lay 33 = .ok (.iload_n 1, 1) := by decide +kernel
theorem dMo_lay_34 : decode bMo_lay 34 = .ok (.invokevirtual 212, 3) := by decide +kernel
theorem dMo_lay_37 : decode bMo_lay 37 = .ok (.aload_n 0, 1) := by decide +kernel
theorem dMo_lay_38 : decode bMo_lay 38 = .ok (.getfield 87, 3) := by decide +kernel
theorem dMo_lay_41 : decode bMo_lay 41 = .ok (.iload_n 1, 1) := by decide +kernel
theorem dMo_lay_42 : decode bMo_lay 42 = .ok (.sipush 2001, 3) := by decide +kernel
theorem dMo_lay_45 : decode bMo_lay 45 = .ok (.iload_n 1, 1) := by decide +kernel
theorem dMo_lay_46 : decode bMo_lay 46 = .ok (.imul, 1) := by decide +kernel
theorem dMo_lay_47 : decode bMo_lay 47 = .ok (.iastore, 1) := by decide +kernel
theorem dMo_lay_48 : decode bMo_lay 48 = .ok (.iinc 1 1, 3) := by decide +kernel
theorem dMo_lay_51 : decode bMo_lay 51 = .ok (.goto (-27), 3) := by decide +kernel
theorem dMo_lay_54 : decode bMo_lay 54 = .ok (.aload_n 0, 1) := by decide +kernel
theorem dMo_lay_55 : decode bMo_lay 55 = .ok (.invokevirtual 215, 3) := by decide +kernel
theorem dMo_lay_58 : decode bMo_lay 58 = .ok (.ifCond .ne 22, 3) := by decide +kernel
theorem dMo_lay_61 : decode bMo_lay 61 = .ok (.iconst 0, 1) := by decide +kernel
theorem dMo_lay_62 : decode bMo_lay 62 = .ok (.istore_n 1, 1) := by decide +kernel
theorem dMo_lay_63 : decode bMo_lay 63 = .ok (.aload_n 0, 1) := by decide +kernel
theorem dMo_lay_64 : decode bMo_lay 64 = .ok (.iload_n 1, 1) := by decide +kernel
theorem dMo_lay_65 : decode bMo_lay 65 = .ok (.invokevirtual 219, 3) := by decide +kernel
theorem dMo_lay_68 : decode bMo_lay 68 = .ok (.ifCond .ne 9, 3) := by decide +kernel
theorem dMo_lay_71 : decode bMo_lay 71 = .ok (.iinc 1 1, 3) := by decide +kernel
theorem dMo_lay_74 : decode bMo_lay 74 = .ok (.goto (-11), 3) := by decide +kernel
theorem dMo_lay_77 : decode bMo_lay 77 = .ok (.goto (-23), 3) := by decide +kernel
theorem dMo_lay_80 : decode bMo_lay 80 = .ok (.aload_n 0, 1) := by decide +kernel
theorem dMo_lay_81 : decode bMo_lay 81 = .ok (.iconst 1, 1) := by decide +kernel
theorem dMo_lay_82 : decode bMo_lay 82 = .ok (.putfield 100, 3) := by decide +kernel
theorem dMo_lay_85 : decode bMo_lay 85 = .ok (.iconst 1, 1) := by decide +kernel
theorem dMo_lay_86 : decode bMo_lay 86 = .ok (.ireturn, 1) := by decide +kernel
