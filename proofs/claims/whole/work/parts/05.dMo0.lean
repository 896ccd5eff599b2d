theorem dMo_init_0 : decode bMo_init 0 = .ok (.aload_n 0, 1) := by decide +kernel
theorem dMo_init_1 : decode bMo_init 1 = .ok (.invokespecial 1, 3) := by decide +kernel
theorem dMo_init_4 : decode bMo_init 4 = .ok (.aload_n 0, 1) := by decide +kernel
theorem dMo_init_5 : decode bMo_init 5 = .ok (.bipush 6, 2) := by decide +kernel
theorem dMo_init_7 : decode bMo_init 7 = .ok (.newarray .int, 2) := by decide +kernel
theorem dMo_init_9 : decode bMo_init 9 = .ok (.putfield 7, 3) := by decide +kernel
theorem dMo_init_12 : decode bMo_init 12 = .ok (.aload_n 0, 1) := by decide +kernel
theorem dMo_init_13 : decode bMo_init 13 = .ok (.bipush 6, 2) := by decide +kernel
theorem dMo_init_15 : decode bMo_init 15 = .ok (.newarray .int, 2) := by decide +kernel
theorem dMo_init_17 : decode bMo_init 17 = .ok (.putfield 13, 3) := by decide +kernel
theorem dMo_init_20 : decode bMo_init 20 = .ok (.aload_n 0, 1) := by decide +kernel
theorem dMo_init_21 : decode bMo_init 21 = .ok (.bipush 96, 2) := by decide +kernel
theorem dMo_init_23 : decode bMo_init 23 = .ok (.newarray .int, 2) := by decide +kernel
theorem dMo_init_25 : decode bMo_init 25 = .ok (.putfield 16, 3) := by decide +kernel
theorem dMo_init_28 : decode bMo_init 28 = .ok (.aload_n 0, 1) := by decide +kernel
theorem dMo_init_29 : decode bMo_init 29 = .ok (.bipush 48, 2) := by decide +kernel
theorem dMo_init_31 : decode bMo_init 31 = .ok (.newarray .int, 2) := by decide +kernel
theorem dMo_init_33 : decode bMo_init 33 = .ok (.putfield 19, 3) := by decide +kernel
theorem dMo_init_36 : decode bMo_init 36 = .ok (.aload_n 0, 1) := by decide +kernel
theorem dMo_init_37 : decode bMo_init 37 = .ok (.bipush 48, 2) := by decide +kernel
theorem dMo_init_39 : decode bMo_init 39 = .ok (.newarray .int, 2) := by decide +kernel
theorem dMo_init_41 : decode bMo_init 41 = .ok (.putfield 22, 3) := by decide +kernel
theorem dMo_init_44 : decode bMo_init 44 = .ok (.aload_n 0, 1) := by decide +kernel
theorem dMo_init_45 : decode bMo_init 45 = .ok (.bipush 48, 2) := by decide +kernel
theorem dMo_init_47 : decode bMo_init 47 = .ok (.newarray .int, 2) := by decide +kernel
theorem dMo_init_49 : decode bMo_init 49 = .ok (.putfield 25, 3) := by decide +kernel
theorem dMo_init_52 : decode bMo_init 52 = .ok (.aload_n 0, 1) := by decide +kernel
theorem dMo_init_53 : decode bMo_init 53 = .ok (.bipush 48, 2) := by decide +kernel
theorem dMo_init_55 : decode bMo_init 55 = .ok (.newarray .int, 2) := by decide +kernel
theorem dMo_init_57 : decode bMo_init 57 = .ok (.putfield 28, 3) := by decide +kernel
theorem dMo_init_60 : decode bMo_init 60 = .ok (.aload_n 0, 1) := by decide +kernel
theorem dMo_init_61 : decode bMo_init 61 = .ok (.bipush 48, 2) := by decide +kernel
theorem dMo_init_63 : decode bMo_init 63 = .ok (.newarray .int, 2) := by decide +kernel
theorem dMo_init_65 : decode bMo_init 65 = .ok (.putfield 31, 3) := by decide +kernel
theorem dMo_init_68 : decode bMo_init 68 = .ok (.aload_n 0, 1) := by decide +kernel
theorem dMo_init_69 : decode bMo_init 69 = .ok (.bipush 48, 2) := by decide +kernel
theorem dMo_init_71 : decode bMo_init 71 = .ok (.newarray .int, 2) := by decide +kernel
theorem dMo_init_73 : decode bMo_init 73 = .ok (.putfield 34, 3) := by decide +kernel
theorem dMo_init_76 : decode bMo_init 76 = .ok (.aload_n 0, 1) := by decide +kernel
theorem dMo_init_77 : decode bMo_init 77 = .ok (.bipush 48, 2) := by decide +kernel
theorem dMo_init_79 : decode bMo_init 79 = .ok (.newarray .int, 2) := by decide +kernel
theorem dMo_init_81 : decode bMo_init 81 = .ok (.putfield 37, 3) := by decide +kernel
theorem dMo_init_84 : decode bMo_init 84 = .ok (.aload_n 0, 1) := by decide +kernel
theorem dMo_init_85 : decode bMo_init 85 = .ok (.bipush 48, 2) := by decide +kernel
theorem dMo_init_87 : decode bMo_init 87 = .ok (.newarray .int, 2) := by decide +kernel
theorem dMo_init_89 : decode bMo_init 89 = .ok (.putfield 40, 3) := by decide +kernel
theorem dMo_init_92 : decode bMo_init 92 = .ok (.aload_n 0, 1) := by decide +kernel
theorem dMo_init_93 : decode bMo_init 93 = .ok (.bipush 8, 2) := by decide +kernel
theorem dMo_init_95 : decode bMo_init 95 = .ok (.newarray .int, 2) := by decide +kernel
theorem dMo_init_97 : decode bMo_init 97 = .ok (.putfield 43, 3) := by decide +kernel
theorem dMo_init_100 : decode bMo_init 100 = .ok (.aload_n 0, 1) := by decide +kernel
theorem dMo_init_101 : decode bMo_init 101 = .ok (.sipush 14007, 3) := by decide +kernel
theorem dMo_init_104 : decode bMo_init 104 = .ok (.newarray .int, 2) := by decide +kernel
theorem dMo_init_106 : decode bMo_init 106 = .ok (.putfield 46, 3) := by decide +kernel
theorem dMo_init_109 : decode bMo_init 109 = .ok (.aload_n 0, 1) := by decide +kernel
theorem dMo_init_110 : decode bMo_init 110 = .ok (.sipush 14007, 3) := by decide +kernel
theorem dMo_init_113 : decode bMo_init 113 = .ok (.newarray .long, 2) := by decide +kernel
theorem dMo_init_115 : decode bMo_init 115 = .ok (.putfield 49, 3) := by decide +kernel
theorem dMo_init_118 : decode bMo_init 118 = .ok (.aload_n 0, 1) := by decide +kernel
theorem dMo_init_119 : decode bMo_init 119 = .ok (.sipush 14007, 3) := by decide +kernel
theorem dMo_init_122 : decode bMo_init 122 = .ok (.newarray .boolean, 2) := by decide +kernel
theorem dMo_init_124 : decode bMo_init 124 = .ok (.putfield 53, 3) := by decide +kernel
theorem dMo_init_127 : decode bMo_init 127 = .ok (.aload_n 0, 1) := by decide +kernel
theorem dMo_init_128 : decode bMo_init 128 = .ok (.sipush 2001, 3) := by decide +kernel
theorem dMo_init_131 : decode bMo_init 131 = .ok (.newarray .long, 2) := by decide +kernel
theorem dMo_init_133 : decode bMo_init 133 = .ok (.putfield 57, 3) := by decide +kernel
theorem dMo_init_136 : decode bMo_init 136 = .ok (.aload_n 0, 1) := by decide +kernel
theorem dMo_init_137 : decode bMo_init 137 = .ok (.bipush 6, 2) := by decide +kernel
theorem dMo_init_139 : decode bMo_init 139 = .ok (.newarray .boolean, 2) := by decide +kernel
theorem dMo_init_141 : decode bMo_init 141 = .ok (.putfield 60, 3) := by decide +kernel
theorem dMo_init_144 : decode bMo_init 144 = .ok (.aload_n 0, 1) := by decide +kernel
theorem dMo_init_145 : decode bMo_init 145 = .ok (.bipush 6, 2) := by decide +kernel
theorem dMo_init_147 : decode bMo_init 147 = .ok (.newarray .int, 2) := by decide +kernel
theorem dMo_init_149 : decode bMo_init 149 = .ok (.putfield 63, 3) := by decide +kernel
theorem dMo_init_152 : decode bMo_init 152 = .ok (.aload_n 0, 1) := by decide +kernel
theorem dMo_init_153 : decode bMo_init 153 = .ok (.bipush 6, 2) := by decide +kernel
theorem dMo_init_155 : decode bMo_init 155 = .ok (.newarray .int, 2) := by decide +kernel
theorem dMo_init_157 : decode bMo_init 157 = .ok (.putfield 66, 3) := by decide +kernel
theorem dMo_init_160 : decode bMo_init 160 = .ok (.aload_n 0, 1) := by decide +kernel
theorem dMo_init_161 : decode bMo_init 161 = .ok (.bipush 6, 2) := by decide +kernel
theorem dMo_init_163 : decode bMo_init 163 = .ok (.newarray .long, 2) := by decide +kernel
theorem dMo_init_165 : decode bMo_init 165 = .ok (.putfield 69, 3) := by decide +kernel
theorem dMo_init_168 : decode bMo_init 168 = .ok (.aload_n 0, 1) := by decide +kernel
theorem dMo_init_169 : decode bMo_init 169 = .ok (.bipush 6, 2) := by decide +kernel
theorem dMo_init_171 : decode bMo_init 171 = .ok (.newarray .int, 2) := by decide +kernel
theorem dMo_init_173 : decode bMo_init 173 = .ok (.putfield 72, 3) := by decide +kernel
theorem dMo_init_176 : decode bMo_init 176 = .ok (.aload_n 0, 1) := by decide +kernel
theorem dMo_init_177 : decode bMo_init 177 = .ok (.bipush 6, 2) := by decide +kernel
theorem dMo_init_179 : decode bMo_init 179 = .ok (.newarray .int, 2) := by decide +kernel
theorem dMo_init_181 : decode bMo_init 181 = .ok (.putfield 75, 3) := by decide +kernel
theorem dMo_init_184 : decode bMo_init 184 = .ok (.aload_n 0, 1) := by decide +kernel
theorem dMo_init_185 : decode bMo_init 185 = .ok (.bipush 6, 2) := by decide +kernel
theorem dMo_init_187 : decode bMo_init 187 = .ok (.newarray .boolean, 2) := by decide +kernel
theorem dMo_init_189 : decode bMo_init 189 = .ok (.putfield 78, 3) := by decide +kernel
theorem dMo_init_192 : decode bMo_init 192 = .ok (.aload_n 0, 1) := by decide +kernel
theorem dMo_init_193 : decode bMo_init 193 = .ok (.bipush 48, 2) := by decide +kernel
theorem dMo_init_195 : decode bMo_init 195 = .ok (.newarray .int, 2) := by decide +kernel
theorem dMo_init_197 : decode bMo_init 197 = .ok (.putfield 81, 3) := by decide +kernel
theorem dMo_init_200 : decode bMo_init 200 = .ok (.aload_n 0, 1) := by decide +kernel
theorem dMo_init_201 : decode bMo_init 201 = .ok (.bipush 48, 2) := by decide +kernel
theorem dMo_init_203 : decode bMo_init 203 = .ok (.newarray .int, 2) := by decide +kernel
theorem dMo_init_205 : decode bMo_init 205 = .ok (.putfield 84, 3) := by decide +kernel
theorem dMo_init_208 : decode bMo_init 208 = .ok (.aload_n 0, 1) := by decide +kernel
theorem dMo_init_209 : decode bMo_init 209 = .ok (.bipush 6, 2) := by decide +kernel
theorem dMo_init_211 : decode bMo_init 211 = .ok (.newarray .int, 2) := by decide +kernel
theorem dMo_init_213 : decode bMo_init 213 = .ok (.putfield 87, 3) := by decide +kernel
theorem dMo_init_216 : decode bMo_init 216 = .ok (.aload_n 0, 1) := by decide +kernel
theorem dMo_init_217 : decode bMo_init 217 = .ok (.invokevirtual 90, 3) := by decide +kernel
theorem dMo_init_220 : decode bMo_init 220 = .ok (.return_, 1) := by decide +kernel
theorem dMo_forget_0 : decode bMo_forget 0 = .ok (.iconst 0, 1) := by decide +kernel
theorem dMo_forget_1 : decode bMo_forget 1 = .ok (.istore_n 1, 1) := by decide +kernel
theorem dMo_forget_2 : decode bMo_forget 2 = .ok (.iload_n 1, 1) := by decide +kernel
theorem dMo_forget_3 : decode bMo_forget 3 = .ok (.bipush 8, 2) := by decide +kernel
theorem dMo_forget_5 : decode bMo_forget 5 = .ok (.if_icmp .ge 16, 3) := by decide +kernel
theorem dMo_forget_8 : decode bMo_forget 8 = .ok (.aload_n 0, 1) := by decide +kernel
theorem dMo_forget_9 : decode bMo_forget 9 = .ok (.getfield 43, 3) := by decide +kernel
theorem dMo_forget_12 : decode bMo_forget 12 = .ok (.iload_n 1, 1) := by decide +kernel
theorem dMo_forget_13 : decode bMo_forget 13 = .ok (.iconst (-1), 1) := by decide +kernel
theorem dMo_forget_14 : decode bMo_forget 14 = .ok (.iastore, 1) := by decide +kernel
theorem dMo_forget_15 : decode bMo_forget 15 = .ok (.iinc 1 1, 3) := by decide +kernel
theorem dMo_forget_18 : decode bMo_forget 18 = .ok (.goto (-16), 3) := by decide +kernel
theorem dMo_forget_21 : decode bMo_forget 21 = .ok (.aload_n 0, 1) := by decide +kernel
theorem dMo_forget_22 : decode bMo_forget 22 = .ok (.invokevirtual 97, 3) := by decide +kernel
theorem dMo_forget_25 : decode bMo_forget 25 = .ok (.return_, 1) := by decide +kernel
theorem dMo_change_0 : decode bMo_change 0 = .ok (.iconst 0, 1) := by decide +kernel
theorem dMo_change_1 : decode bMo_change 1 = .ok (.istore_n 1, 1) := by decide +kernel
theorem dMo_change_2 : decode bMo_change 2 = .ok (.iload_n 1, 1) := by decide +kernel
theorem dMo_change_3 : decode bMo_change 3 = .ok (.bipush 6, 2) := by decide +kernel
theorem dMo_change_5 : decode bMo_change 5 = .ok (.if_icmp .ge 23, 3) := by decide +kernel
theorem dMo_change_8 : decode bMo_change 8 = .ok (.aload_n 0, 1) := by decide +kernel
theorem dMo_change_9 : decode bMo_change 9 = .ok (.getfield 60, 3) := by decide +kernel
theorem dMo_change_12 : decode bMo_change 12 = .ok (.iload_n 1, 1) := by decide +kernel
theorem dMo_change_13 : decode bMo_change 13 = .ok (.iconst 0, 1) := by decide +kernel
theorem dMo_change_14 : decode bMo_change 14 = .ok (.bastore, 1) := by decide +kernel
theorem dMo_change_15 : decode bMo_change 15 = .ok (.aload_n 0, 1) := by decide +kernel
theorem dMo_change_16 : decode bMo_change 16 = .ok (.getfield 78, 3) := by decide +kernel
theorem dMo_change_19 : decode bMo_change 19 = .ok (.iload_n 1, 1) := by decide +kernel
theorem dMo_change_20 : decode bMo_change 20 = .ok (.iconst 0, 1) := by decide +kernel
theorem dMo_change_21 : decode bMo_change 21 = .ok (.bastore, 1) := by decide +kernel
theorem dMo_change_22 : decode bMo_change 22 = .ok (.iinc 1 1, 3) := by decide +kernel
theorem dMo_change_25 : decode bMo_change 25 = .ok (.goto (-23), 3) := by decide +kernel
theorem dMo_change_28 : decode bMo_change 28 = .ok (.aload_n 0, 1) := by decide +kernel
theorem dMo_change_29 : decode bMo_change 29 = .ok (.iconst 0, 1) := by decide +kernel
theorem dMo_change_30 : decode bMo_change 30 = .ok (.putfield 100, 3) := by decide +kernel
theorem dMo_change_33 : decode bMo_change 33 = .ok (.return_, 1) := by decide +kernel
theorem dMo_thrown_0 : decode bMo_thrown 0 = .ok (.aload_n 0, 1) := by decide +kernel
theorem dMo_thrown_1 : decode bMo_thrown 1 = .ok (.getfield 93, 3) := by decide +kernel
theorem dMo_thrown_4 : decode bMo_thrown 4 = .ok (.ireturn, 1) := by decide +kernel
theorem dMo_object_0 : decode bMo_object 0 = .ok (.aload_n 0, 1) := by decide +kernel
theorem dMo_object_1 : decode bMo_object 1 = .ok (.iload_n 1, 1) := by decide +kernel
theorem dMo_object_2 : decode bMo_object 2 = .ok (.ifCond .lt 8, 3) := by decide +kernel
theorem dMo_object_5 : decode bMo_object 5 = .ok (.iload_n 1, 1) := by decide +kernel
theorem dMo_object_6 : decode bMo_object 6 = .ok (.iconst 5, 1) := by decide +kernel
theorem dMo_object_7 : decode bMo_object 7 = .ok (.if_icmp .le 7, 3) := by decide +kernel
theorem dMo_object_10 : decode bMo_object 10 = .ok (.iconst 1, 1) := by decide +kernel
theorem dMo_object_11 : decode bMo_object 11 = .ok (.goto 4, 3) := by decide +kernel
theorem dMo_object_14 : decode bMo_object 14 = .ok (.iconst 0, 1) := by decide +kernel
theorem dMo_object_15 : decode bMo_object 15 = .ok (.putfield 93, 3) := by decide +kernel
theorem dMo_object_18 : decode bMo_object 18 = .ok (.aload_n 0, 1) := by decide +kernel
theorem dMo_object_19 : decode bMo_object 19 = .ok (.getfield 93, 3) := by decide +kernel
theorem dMo_object_22 : decode bMo_object 22 = .ok (.ifCond .le 5, 3) := by decide +kernel
theorem dMo_object_25 : decode bMo_object 25 = .ok (.iconst 0, 1) := by decide +kernel
theorem dMo_object_26 : decode bMo_object 26 = .ok (.ireturn, 1) := by decide +kernel
theorem dMo_object_27 : decode bMo_object 27 = .ok (.aload_n 0, 1) := by decide +kernel
theorem dMo_object_28 : decode bMo_object 28 = .ok (.getfield 104, 3) := by decide +kernel
theorem dMo_object_31 : decode bMo_object 31 = .ok (.bipush 6, 2) := by decide +kernel
theorem dMo_object_33 : decode bMo_object 33 = .ok (.if_icmp .ne 5, 3) := by decide +kernel
theorem dMo_object_36 : decode bMo_object 36 = .ok (.iconst (-1), 1) := by decide +kernel
theorem dMo_object_37 : decode bMo_object 37 = .ok (.ireturn, 1) := by decide +kernel
theorem dMo_object_38 : decode bMo_object 38 = .ok (.aload_n 0, 1) := by decide +kernel
theorem dMo_object_39 : decode bMo_object 39 = .ok (.getfield 7, 3) := by decide +kernel
theorem dMo_object_42 : decode bMo_object 42 = .ok (.aload_n 0, 1) := by decide +kernel
theorem dMo_object_43 : decode bMo_object 43 = .ok (.getfield 104, 3) := by decide +kernel
theorem dMo_object_46 : decode bMo_object 46 = .ok (.iload_n 1, 1) := by decide +kernel
theorem dMo_object_47 : decode bMo_object 47 = .ok (.iastore, 1) := by decide +kernel
theorem dMo_object_48 : decode bMo_object 48 = .ok (.aload_n 0, 1) := by decide +kernel
theorem dMo_object_49 : decode bMo_object 49 = .ok (.getfield 13, 3) := by decide +kernel
theorem dMo_object_52 : decode bMo_object 52 = .ok (.aload_n 0, 1) := by decide +kernel
theorem dMo_object_53 : decode bMo_object 53 = .ok (.getfield 104, 3) := by decide +kernel
theorem dMo_object_56 : decode bMo_object 56 = .ok (.iconst 0, 1) := by decide +kernel
theorem dMo_object_57 : decode bMo_object 57 = .ok (.iastore, 1) := by decide +kernel
theorem dMo_object_58 : decode bMo_object 58 = .ok (.aload_n 0, 1) := by decide +kernel
theorem dMo_object_59 : decode bMo_object 59 = .ok (.dup, 1) := by decide +kernel
theorem dMo_object_60 : decode bMo_object 60 = .ok (.getfield 104, 3) := by decide +kernel
theorem dMo_object_63 : decode bMo_object 63 = .ok (.iconst 1, 1) := by decide +kernel
theorem dMo_object_64 : decode bMo_object 64 = .ok (.iadd, 1) := by decide +kernel
theorem dMo_object_65 : decode bMo_object 65 = .ok (.putfield 104, 3) := by decide +kernel
theorem dMo_object_68 : decode bMo_object 68 = .ok (.aload_n 0, 1) := by decide +kernel
theorem dMo_object_69 : decode bMo_object 69 = .ok (.invokevirtual 97, 3) := by decide +kernel
theorem dMo_object_72 : decode bMo_object 72 = .ok (.aload_n 0, 1) := by decide +kernel
theorem dMo_object_73 : decode bMo_object 73 = .ok (.getfield 104, 3) := by decide +kernel
theorem dMo_object_76 : decode bMo_object 76 = .ok (.iconst 1, 1) := by decide +kernel
theorem dMo_object_77 : decode bMo_object 77 = .ok (.isub, 1) := by decide +kernel
theorem dMo_object_78 : decode bMo_object 78 = .ok (.ireturn, 1) := by decide +kernel
theorem dMo_call_0 : decode bMo_call 0 = .ok (.iload_n 1, 1) := by decide +kernel
theorem dMo_call_1 : decode bMo_call 1 = .ok (.ifCond .lt 21, 3) := by decide +kernel
theorem dMo_call_4 : decode bMo_call 4 = .ok (.iload_n 1, 1) := by decide +kernel
theorem dMo_call_5 : decode bMo_call 5 = .ok (.bipush 7, 2) := by decide +kernel
theorem dMo_call_7 : decode bMo_call 7 = .ok (.if_icmp .gt 15, 3) := by decide +kernel
theorem dMo_call_10 : decode bMo_call 10 = .ok (.aload_n 0, 1) := by decide +kernel
theorem dMo_call_11 : decode bMo_call 11 = .ok (.iload_n 2, 1) := by decide +kernel
theorem dMo_call_12 : decode bMo_call 12 = .ok (.invokevirtual 107, 3) := by decide +kernel
theorem dMo_call_15 : decode bMo_call 15 = .ok (.ifCond .ne 7, 3) := by decide +kernel
theorem dMo_call_18 : decode bMo_call 18 = .ok (.iload_n 3, 1) := by decide +kernel
theorem dMo_call_19 : decode bMo_call 19 = .ok (.ifCond .ge 7, 3) := by decide +kernel
theorem dMo_call_22 : decode bMo_call 22 = .ok (.iconst 1, 1) := by decide +kernel
theorem dMo_call_23 : decode bMo_call 23 = .ok (.goto 4, 3) := by decide +kernel
theorem dMo_call_26 : decode bMo_call 26 = .ok (.iconst 0, 1) := by decide +kernel
theorem dMo_call_27 : decode bMo_call 27 = .ok (.istore 6, 2) := by decide +kernel
theorem dMo_call_29 : decode bMo_call 29 = .ok (.aload_n 0, 1) := by decide +kernel
theorem dMo_call_30 : decode bMo_call 30 = .ok (.iload 6, 2) := by decide +kernel
theorem dMo_call_32 : decode bMo_call 32 = .ok (.ifCond .ne 21, 3) := by decide +kernel
theorem dMo_call_35 : decode bMo_call 35 = .ok (.iload_n 3, 1) := by decide +kernel
theorem dMo_call_36 : decode bMo_call 36 = .ok (.aload_n 0, 1) := by decide +kernel
theorem dMo_call_37 : decode bMo_call 37 = .ok (.getfield 7, 3) := by decide +kernel
theorem dMo_call_40 : decode bMo_call 40 = .ok (.iload_n 2, 1) := by decide +kernel
theorem dMo_call_41 : decode bMo_call 41 = .ok (.iaload, 1) := by decide +kernel
theorem dMo_call_42 : decode bMo_call 42 = .ok (.ifCond .ne 7, 3) := by decide +kernel
theorem dMo_call_45 : decode bMo_call 45 = .ok (.iconst 4, 1) := by decide +kernel
theorem dMo_call_46 : decode bMo_call 46 = .ok (.goto 4, 3) := by decide +kernel
theorem dMo_call_49 : decode bMo_call 49 = .ok (.iconst 2, 1) := by decide +kernel
theorem dMo_call_50 : decode bMo_call 50 = .ok (.if_icmp .le 7, 3) := by decide +kernel
theorem dMo_call_53 : decode bMo_call 53 = .ok (.iconst 1, 1) := by decide +kernel
theorem dMo_call_54 : decode bMo_call 54 = .ok (.goto 17, 3) := by decide +kernel
theorem dMo_call_57 : decode bMo_call 57 = .ok (.aload_n 0, 1) := by decide +kernel
theorem dMo_call_58 : decode bMo_call 58 = .ok (.getfield 43, 3) := by decide +kernel
theorem dMo_call_61 : decode bMo_call 61 = .ok (.iload_n 1, 1) := by decide +kernel
theorem dMo_call_62 : decode bMo_call 62 = .ok (.iaload, 1) := by decide +kernel
theorem dMo_call_63 : decode bMo_call 63 = .ok (.ifCond .lt 7, 3) := by decide +kernel
theorem dMo_call_66 : decode bMo_call 66 = .ok (.iconst 2, 1) := by decide +kernel
theorem dMo_call_67 : decode bMo_call 67 = .ok (.goto 4, 3) := by decide +kernel
theorem dMo_call_70 : decode bMo_call 70 = .ok (.iconst 0, 1) := by decide +kernel
theorem dMo_call_71 : decode bMo_call 71 = .ok (.putfield 93, 3) := by decide +kernel
theorem dMo_call_74 : decode bMo_call 74 = .ok (.aload_n 0, 1) := by decide +kernel
theorem dMo_call_75 : decode bMo_call 75 = .ok (.getfield 93, 3) := by decide +kernel
theorem dMo_call_78 : decode bMo_call 78 = .ok (.ifCond .le 5, 3) := by decide +kernel
theorem dMo_call_81 : decode bMo_call 81 = .ok (.iconst 0, 1) := by decide +kernel
theorem dMo_call_82 : decode bMo_call 82 = .ok (.ireturn, 1) := by decide +kernel
theorem dMo_call_83 : decode bMo_call 83 = .ok (.aload_n 0, 1) := by decide +kernel
theorem dMo_call_84 : decode bMo_call 84 = .ok (.getfield 111, 3) := by decide +kernel
theorem dMo_call_87 : decode bMo_call 87 = .ok (.bipush 48, 2) := by decide +kernel
theorem dMo_call_89 : decode bMo_call 89 = .ok (.if_icmp .eq 14, 3) := by decide +kernel
theorem dMo_call_92 : decode bMo_call 92 = .ok (.aload_n 0, 1) := by decide +kernel
theorem dMo_call_93 : decode bMo_call 93 = .ok (.getfield 13, 3) := by decide +kernel
theorem dMo_call_96 : decode bMo_call 96 = .ok (.iload_n 2, 1) := by decide +kernel
theorem dMo_call_97 : decode bMo_call 97 = .ok (.iaload, 1) := by decide +kernel
theorem dMo_call_98 : decode bMo_call 98 = .ok (.bipush 16, 2) := by decide +kernel
theorem dMo_call_100 : decode bMo_call 100 = .ok (.if_icmp .ne 5, 3) := by decide +kernel
theorem dMo_call_103 : decode bMo_call 103 = .ok (.iconst (-1), 1) := by decide +kernel
theorem dMo_call_104 : decode bMo_call 104 = .ok (.ireturn, 1) := by decide +kernel
theorem dMo_call_105 : decode bMo_call 105 = .ok (.aload_n 0, 1) := by decide +kernel
theorem dMo_call_106 : decode bMo_call 106 = .ok (.dup, 1) := by decide +kernel
theorem dMo_call_107 : decode bMo_call 107 = .ok (.getfield 114, 3) := by decide +kernel
theorem dMo_call_110 : decode bMo_call 110 = .ok (.iconst 1, 1) := by decide +kernel
theorem dMo_call_111 : decode bMo_call 111 = .ok (.iadd, 1) := by decide +kernel
theorem dMo_call_112 : decode bMo_call 112 = .ok (.putfield 114, 3) := by decide +kernel
theorem dMo_call_115 : decode bMo_call 115 = .ok (.aload_n 0, 1) := by decide +kernel
theorem dMo_call_116 : decode bMo_call 116 = .ok (.getfield 111, 3) := by decide +kernel
theorem dMo_call_119 : decode bMo_call 119 = .ok (.istore 7, 2) := by decide +kernel
theorem dMo_call_121 : decode bMo_call 121 = .ok (.aload_n 0, 1) := by decide +kernel
theorem dMo_call_122 : decode bMo_call 122 = .ok (.dup, 1) := by decide +kernel
theorem dMo_call_123 : decode bMo_call 123 = .ok (.getfield 111, 3) := by decide +kernel
theorem dMo_call_126 : decode bMo_call 126 = .ok (.iconst 1, 1) := by decide +kernel
theorem dMo_call_127 : decode bMo_call 127 = .ok (.iadd, 1) := by decide +kernel
theorem dMo_call_128 : decode bMo_call 128 = .ok (.putfield 111, 3) := by decide +kernel
theorem dMo_call_131 : decode bMo_call 131 = .ok (.aload_n 0, 1) := by decide +kernel
theorem dMo_call_132 : decode bMo_call 132 = .ok (.getfield 19, 3) := by decide +kernel
theorem dMo_call_135 : decode bMo_call 135 = .ok (.iload 7, 2) := by decide +kernel
theorem dMo_call_137 : decode bMo_call 137 = .ok (.iload_n 1, 1) := by decide +kernel
theorem dMo_call_138 : decode bMo_call 138 = .ok (.iastore, 1) := by decide +kernel
theorem dMo_call_139 : decode bMo_call 139 = .ok (.aload_n 0, 1) := by decide +kernel
theorem dMo_call_140 : decode bMo_call 140 = .ok (.getfield 22, 3) := by decide +kernel
theorem dMo_call_143 : decode bMo_call 143 = .ok (.iload 7, 2) := by decide +kernel
theorem dMo_call_145 : decode bMo_call 145 = .ok (.iload_n 2, 1) := by decide +kernel
theorem dMo_call_146 : decode bMo_call 146 = .ok (.iastore, 1) := by decide +kernel
theorem dMo_call_147 : decode bMo_call 147 = .ok (.aload_n 0, 1) := by decide +kernel
theorem dMo_call_148 : decode bMo_call 148 = .ok (.getfield 25, 3) := by decide +kernel
theorem dMo_call_151 : decode bMo_call 151 = .ok (.iload 7, 2) := by decide +kernel
theorem dMo_call_153 : decode bMo_call 153 = .ok (.iload_n 3, 1) := by decide +kernel
theorem dMo_call_154 : decode bMo_call 154 = .ok (.iastore, 1) := by decide +kernel
theorem dMo_call_155 : decode bMo_call 155 = .ok (.aload_n 0, 1) := by decide +kernel
theorem dMo_call_156 : decode bMo_call 156 = .ok (.getfield 28, 3) := by decide +kernel
theorem dMo_call_159 : decode bMo_call 159 = .ok (.iload 7, 2) := by decide +kernel
theorem dMo_call_161 : decode bMo_call 161 = .ok (.iload 4, 2) := by decide +kernel
theorem dMo_call_163 : decode bMo_call 163 = .ok (.iastore, 1) := by decide +kernel
theorem dMo_call_164 : decode bMo_call 164 = .ok (.aload_n 0, 1) := by decide +kernel
theorem dMo_call_165 : decode bMo_call 165 = .ok (.getfield 31, 3) := by decide +kernel
theorem dMo_call_168 : decode bMo_call 168 = .ok (.iload 7, 2) := by decide +kernel
theorem dMo_call_170 : decode bMo_call 170 = .ok (.iload 5, 2) := by decide +kernel
theorem dMo_call_172 : decode bMo_call 172 = .ok (.iastore, 1) := by decide +kernel
theorem dMo_call_173 : decode bMo_call 173 = .ok (.aload_n 0, 1) := by decide +kernel
theorem dMo_call_174 : decode bMo_call 174 = .ok (.getfield 37, 3) := by decide +kernel
theorem dMo_call_177 : decode bMo_call 177 = .ok (.iload 7, 2) := by decide +kernel
theorem dMo_call_179 : decode bMo_call 179 = .ok (.aload_n 0, 1) := by decide +kernel
theorem dMo_call_180 : decode bMo_call 180 = .ok (.getfield 114, 3) := by decide +kernel
theorem dMo_call_183 : decode bMo_call 183 = .ok (.iastore, 1) := by decide +kernel
theorem dMo_call_184 : decode bMo_call 184 = .ok (.aload_n 0, 1) := by decide +kernel
theorem dMo_call_185 : decode bMo_call 185 = .ok (.getfield 40, 3) := by decide +kernel
theorem dMo_call_188 : decode bMo_call 188 = .ok (.iload 7, 2) := by decide +kernel
theorem dMo_call_190 : decode bMo_call 190 = .ok (.iconst 0, 1) := by decide +kernel
theorem dMo_call_191 : decode bMo_call 191 = .ok (.iastore, 1) := by decide +kernel
theorem dMo_call_192 : decode bMo_call 192 = .ok (.aload_n 0, 1) := by decide +kernel
theorem dMo_call_193 : decode bMo_call 193 = .ok (.getfield 16, 3) := by decide +kernel
theorem dMo_call_196 : decode bMo_call 196 = .ok (.bipush 16, 2) := by decide +kernel
theorem dMo_call_198 : decode bMo_call 198 = .ok (.iload_n 2, 1) := by decide +kernel
theorem dMo_call_199 : decode bMo_call 199 = .ok (.imul, 1) := by decide +kernel
theorem dMo_call_200 : decode bMo_call 200 = .ok (.aload_n 0, 1) := by decide +kernel
theorem dMo_call_201 : decode bMo_call 201 = .ok (.getfield 13, 3) := by decide +kernel
theorem dMo_call_204 : decode bMo_call 204 = .ok (.iload_n 2, 1) := by decide +kernel
theorem dMo_call_205 : decode bMo_call 205 = .ok (.iaload, 1) := by decide +kernel
theorem dMo_call_206 : decode bMo_call 206 = .ok (.iadd, 1) := by decide +kernel
theorem dMo_call_207 : decode bMo_call 207 = .ok (.iload 7, 2) := by decide +kernel
theorem dMo_call_209 : decode bMo_call 209 = .ok (.iastore, 1) := by decide +kernel
theorem dMo_call_210 : decode bMo_call 210 = .ok (.aload_n 0, 1) := by decide +kernel
theorem dMo_call_211 : decode bMo_call 211 = .ok (.getfield 13, 3) := by decide +kernel
theorem dMo_call_214 : decode bMo_call 214 = .ok (.iload_n 2, 1) := by decide +kernel
theorem dMo_call_215 : decode bMo_call 215 = .ok (.dup2, 1) := by decide +kernel
theorem dMo_call_216 : decode bMo_call 216 = .ok (.iaload, 1) := by decide +kernel
theorem dMo_call_217 : decode bMo_call 217 = .ok (.iconst 1, 1) := by decide +kernel
theorem dMo_call_218 : decode bMo_call 218 = .ok (.iadd, 1) := by decide +kernel
theorem dMo_call_219 : decode bMo_call 219 = .ok (.iastore, 1) := by decide +kernel
theorem dMo_call_220 : decode bMo_call 220 = .ok (.aload_n 0, 1) := by decide +kernel
theorem dMo_call_221 : decode bMo_call 221 = .ok (.getfield 43, 3) := by decide +kernel
theorem dMo_call_224 : decode bMo_call 224 = .ok (.iload_n 1, 1) := by decide +kernel
theorem dMo_call_225 : decode bMo_call 225 = .ok (.iload 7, 2) := by decide +kernel
theorem dMo_call_227 : decode bMo_call 227 = .ok (.iastore, 1) := by decide +kernel
theorem dMo_call_228 : decode bMo_call 228 = .ok (.aload_n 0, 1) := by decide +kernel
theorem dMo_call_229 : decode bMo_call 229 = .ok (.invokevirtual 97, 3) := by decide +kernel
theorem dMo_call_232 : decode bMo_call 232 = .ok (.iload 7, 2) := by decide +kernel
theorem dMo_call_234 : decode bMo_call 234 = .ok (.ireturn, 1) := by decide +kernel
