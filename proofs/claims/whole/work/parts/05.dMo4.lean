theorem dMo_doRow_0 : decode bMo_doRow 0 = .ok (.iload_n 3, 1) := by decide +kernel
theorem dMo_doRow_1 : decode bMo_doRow 1 = .ok (.iconst 2, 1) := by decide +kernel
theorem dMo_doRow_2 : decode bMo_doRow 2 = .ok (.if_icmp .ne 12, 3) := by decide +kernel
theorem dMo_doRow_5 : decode bMo_doRow 5 = .ok (.aload_n 0, 1) := by decide +kernel
theorem dMo_doRow_6 : decode bMo_doRow 6 = .ok (.aload_n 0, 1) := by decide +kernel
theorem dMo_doRow_7 : decode bMo_doRow 7 = .ok (.getfield 129, 3) := by decide +kernel
theorem dMo_doRow_10 : decode bMo_doRow 10 = .ok (.putfield 126, 3) := by decide +kernel
theorem dMo_doRow_13 : decode bMo_doRow 13 = .ok (.return_, 1) := by decide +kernel
theorem dMo_doRow_14 : decode bMo_doRow 14 = .ok (.iload_n 3, 1) := by decide +kernel
theorem dMo_doRow_15 : decode bMo_doRow 15 = .ok (.ifCond .ne 183, 3) := by decide +kernel
theorem dMo_doRow_18 : decode bMo_doRow 18 = .ok (.aload_n 0, 1) := by decide +kernel
theorem dMo_doRow_19 : decode bMo_doRow 19 = .ok (.getfield 129, 3) := by decide +kernel
theorem dMo_doRow_22 : decode bMo_doRow 22 = .ok (.istore 4, 2) := by decide +kernel
theorem dMo_doRow_24 : decode bMo_doRow 24 = .ok (.aload_n 0, 1) := by decide +kernel
theorem dMo_doRow_25 : decode bMo_doRow 25 = .ok (.iload_n 1, 1) := by decide +kernel
theorem dMo_doRow_26 : decode bMo_doRow 26 = .ok (.iload_n 2, 1) := by decide +kernel
theorem dMo_doRow_27 : decode bMo_doRow 27 = .ok (.invokevirtual 132, 3) := by decide +kernel
theorem dMo_doRow_30 : decode bMo_doRow 30 = .ok (.istore 5, 2) := by decide +kernel
theorem dMo_doRow_32 : decode bMo_doRow 32 = .ok (.aload_n 0, 1) := by decide +kernel
theorem dMo_doRow_33 : decode bMo_doRow 33 = .ok (.getfield 28, 3) := by decide +kernel
theorem dMo_doRow_36 : decode bMo_doRow 36 = .ok (.aload_n 0, 1) := by decide +kernel
theorem dMo_doRow_37 : decode bMo_doRow 37 = .ok (.getfield 16, 3) := by decide +kernel
theorem dMo_doRow_40 : decode bMo_doRow 40 = .ok (.bipush 16, 2) := by decide +kernel
theorem dMo_doRow_42 : decode bMo_doRow 42 = .ok (.iload_n 1, 1) := by decide +kernel
theorem dMo_doRow_43 : decode bMo_doRow 43 = .ok (.imul, 1) := by decide +kernel
theorem dMo_doRow_44 : decode bMo_doRow 44 = .ok (.iload_n 2, 1) := by decide +kernel
theorem dMo_doRow_45 : decode bMo_doRow 45 = .ok (.iadd, 1) := by decide +kernel
theorem dMo_doRow_46 : decode bMo_doRow 46 = .ok (.iaload, 1) := by decide +kernel
theorem dMo_doRow_47 : decode bMo_doRow 47 = .ok (.iaload, 1) := by decide +kernel
theorem dMo_doRow_48 : decode bMo_doRow 48 = .ok (.istore 6, 2) := by decide +kernel
theorem dMo_doRow_50 : decode bMo_doRow 50 = .ok (.aload_n 0, 1) := by decide +kernel
theorem dMo_doRow_51 : decode bMo_doRow 51 = .ok (.getfield 7, 3) := by decide +kernel
theorem dMo_doRow_54 : decode bMo_doRow 54 = .ok (.iload_n 1, 1) := by decide +kernel
theorem dMo_doRow_55 : decode bMo_doRow 55 = .ok (.iaload, 1) := by decide +kernel
theorem dMo_doRow_56 : decode bMo_doRow 56 = .ok (.iconst 4, 1) := by decide +kernel
theorem dMo_doRow_57 : decode bMo_doRow 57 = .ok (.if_icmp .ne 45, 3) := by decide +kernel
theorem dMo_doRow_60 : decode bMo_doRow 60 = .ok (.iload 4, 2) := by decide +kernel
theorem dMo_doRow_62 : decode bMo_doRow 62 = .ok (.ifCond .le 40, 3) := by decide +kernel
theorem dMo_doRow_65 : decode bMo_doRow 65 = .ok (.aload_n 0, 1) := by decide +kernel
theorem dMo_doRow_66 : decode bMo_doRow 66 = .ok (.getfield 28, 3) := by decide +kernel
theorem dMo_doRow_69 : decode bMo_doRow 69 = .ok (.aload_n 0, 1) := by decide +kernel
theorem dMo_doRow_70 : decode bMo_doRow 70 = .ok (.getfield 16, 3) := by decide +kernel
theorem dMo_doRow_73 : decode bMo_doRow 73 = .ok (.bipush 16, 2) := by decide +kernel
theorem dMo_doRow_75 : decode bMo_doRow 75 = .ok (.iload_n 1, 1) := by decide +kernel
theorem dMo_doRow_76 : decode bMo_doRow 76 = .ok (.imul, 1) := by decide +kernel
theorem dMo_doRow_77 : decode bMo_doRow 77 = .ok (.aload_n 0, 1) := by decide +kernel
theorem dMo_doRow_78 : decode bMo_doRow 78 = .ok (.getfield 122, 3) := by decide +kernel
theorem dMo_doRow_81 : decode bMo_doRow 81 = .ok (.iload 4, 2) := by decide +kernel
theorem dMo_doRow_83 : decode bMo_doRow 83 = .ok (.iconst 1, 1) := by decide +kernel
theorem dMo_doRow_84 : decode bMo_doRow 84 = .ok (.isub, 1) := by decide +kernel
theorem dMo_doRow_85 : decode bMo_doRow 85 = .ok (.invokestatic 136, 3) := by decide +kernel
theorem dMo_doRow_88 : decode bMo_doRow 88 = .ok (.iadd, 1) := by decide +kernel
theorem dMo_doRow_89 : decode bMo_doRow 89 = .ok (.iaload, 1) := by decide +kernel
theorem dMo_doRow_90 : decode bMo_doRow 90 = .ok (.iaload, 1) := by decide +kernel
theorem dMo_doRow_91 : decode bMo_doRow 91 = .ok (.iload 6, 2) := by decide +kernel
theorem dMo_doRow_93 : decode bMo_doRow 93 = .ok (.if_icmp .le 9, 3) := by decide +kernel
theorem dMo_doRow_96 : decode bMo_doRow 96 = .ok (.iinc 4 (-1), 3) := by decide +kernel
theorem dMo_doRow_99 : decode bMo_doRow 99 = .ok (.goto (-49), 3) := by decide +kernel
theorem dMo_doRow_102 : decode bMo_doRow 102 = .ok (.iload 4, 2) := by decide +kernel
theorem dMo_doRow_104 : decode bMo_doRow 104 = .ok (.ifCond .ne 7, 3) := by decide +kernel
theorem dMo_doRow_107 : decode bMo_doRow 107 = .ok (.lconst 0, 1) := by decide +kernel
theorem dMo_doRow_108 : decode bMo_doRow 108 = .ok (.goto 23, 3) := by decide +kernel
theorem dMo_doRow_111 : decode bMo_doRow 111 = .ok (.aload_n 0, 1) := by decide +kernel
theorem dMo_doRow_112 : decode bMo_doRow 112 = .ok (.getfield 122, 3) := by decide +kernel
theorem dMo_doRow_115 : decode bMo_doRow 115 = .ok (.bipush 64, 2) := by decide +kernel
theorem dMo_doRow_117 : decode bMo_doRow 117 = .ok (.iconst 4, 1) := by decide +kernel
theorem dMo_doRow_118 : decode bMo_doRow 118 = .ok (.iload 4, 2) := by decide +kernel
theorem dMo_doRow_120 : decode bMo_doRow 120 = .ok (.imul, 1) := by decide +kernel
theorem dMo_doRow_121 : decode bMo_doRow 121 = .ok (.isub, 1) := by decide +kernel
theorem dMo_doRow_122 : decode bMo_doRow 122 = .ok (.lshl, 1) := by decide +kernel
theorem dMo_doRow_123 : decode bMo_doRow 123 = .ok (.bipush 64, 2) := by decide +kernel
theorem dMo_doRow_125 : decode bMo_doRow 125 = .ok (.iconst 4, 1) := by decide +kernel
theorem dMo_doRow_126 : decode bMo_doRow 126 = .ok (.iload 4, 2) := by decide +kernel
theorem dMo_doRow_128 : decode bMo_doRow 128 = .ok (.imul, 1) := by decide +kernel
theorem dMo_doRow_129 : decode bMo_doRow 129 = .ok (.isub, 1) := by decide +kernel
theorem dMo_doRow_130 : decode bMo_doRow 130 = .ok (.lushr, 1) := by decide +kernel
theorem dMo_doRow_131 : decode bMo_doRow 131 = .ok (.lstore 7, 2) := by decide +kernel
theorem dMo_doRow_133 : decode bMo_doRow 133 = .ok (.iload 4, 2) := by decide +kernel
theorem dMo_doRow_135 : decode bMo_doRow 135 = .ok (.aload_n 0, 1) := by decide +kernel
theorem dMo_doRow_136 : decode bMo_doRow 136 = .ok (.getfield 129, 3) := by decide +kernel
theorem dMo_doRow_139 : decode bMo_doRow 139 = .ok (.if_icmp .ne 7, 3) := by decide +kernel
theorem dMo_doRow_142 : decode bMo_doRow 142 = .ok (.lconst 0, 1) := by decide +kernel
theorem dMo_doRow_143 : decode bMo_doRow 143 = .ok (.goto 19, 3) := by decide +kernel
theorem dMo_doRow_146 : decode bMo_doRow 146 = .ok (.aload_n 0, 1) := by decide +kernel
theorem dMo_doRow_147 : decode bMo_doRow 147 = .ok (.getfield 122, 3) := by decide +kernel
theorem dMo_doRow_150 : decode bMo_doRow 150 = .ok (.iconst 4, 1) := by decide +kernel
theorem dMo_doRow_151 : decode bMo_doRow 151 = .ok (.iload 4, 2) := by decide +kernel
theorem dMo_doRow_153 : decode bMo_doRow 153 = .ok (.imul, 1) := by decide +kernel
theorem dMo_doRow_154 : decode bMo_doRow 154 = .ok (.lushr, 1) := by decide +kernel
theorem dMo_doRow_155 : decode bMo_doRow 155 = .ok (.iconst 4, 1) := by decide +kernel
theorem dMo_doRow_156 : decode bMo_doRow 156 = .ok (.iload 4, 2) := by decide +kernel
theorem dMo_doRow_158 : decode bMo_doRow 158 = .ok (.imul, 1) := by decide +kernel
theorem dMo_doRow_159 : decode bMo_doRow 159 = .ok (.iconst 4, 1) := by decide +kernel
theorem dMo_doRow_160 : decode bMo_doRow 160 = .ok (.iadd, 1) := by decide +kernel
theorem dMo_doRow_161 : decode bMo_doRow 161 = .ok (.lshl, 1) := by decide +kernel
theorem dMo_doRow_162 : decode bMo_doRow 162 = .ok (.lstore 9, 2) := by decide +kernel
theorem dMo_doRow_164 : decode bMo_doRow 164 = .ok (.aload_n 0, 1) := by decide +kernel
theorem dMo_doRow_165 : decode bMo_doRow 165 = .ok (.lload 9, 2) := by decide +kernel
theorem dMo_doRow_167 : decode bMo_doRow 167 = .ok (.iload 5, 2) := by decide +kernel
theorem dMo_doRow_169 : decode bMo_doRow 169 = .ok (.i2l, 1) := by decide +kernel
theorem dMo_doRow_170 : decode bMo_doRow 170 = .ok (.iconst 4, 1) := by decide +kernel
theorem dMo_doRow_171 : decode bMo_doRow 171 = .ok (.iload 4, 2) := by decide +kernel
theorem dMo_doRow_173 : decode bMo_doRow 173 = .ok (.imul, 1) := by decide +kernel
theorem dMo_doRow_174 : decode bMo_doRow 174 = .ok (.lshl, 1) := by decide +kernel
theorem dMo_doRow_175 : decode bMo_doRow 175 = .ok (.lor, 1) := by decide +kernel
theorem dMo_doRow_176 : decode bMo_doRow 176 = .ok (.lload 7, 2) := by decide +kernel
theorem dMo_doRow_178 : decode bMo_doRow 178 = .ok (.lor, 1) := by decide +kernel
theorem dMo_doRow_179 : decode bMo_doRow 179 = .ok (.putfield 122, 3) := by decide +kernel
theorem dMo_doRow_182 : decode bMo_doRow 182 = .ok (.aload_n 0, 1) := by decide +kernel
theorem dMo_doRow_183 : decode bMo_doRow 183 = .ok (.dup, 1) := by decide +kernel
theorem dMo_doRow_184 : decode bMo_doRow 184 = .ok (.getfield 129, 3) := by decide +kernel
theorem dMo_doRow_187 : decode bMo_doRow 187 = .ok (.iconst 1, 1) := by decide +kernel
theorem dMo_doRow_188 : decode bMo_doRow 188 = .ok (.iadd, 1) := by decide +kernel
theorem dMo_doRow_189 : decode bMo_doRow 189 = .ok (.putfield 129, 3) := by decide +kernel
theorem dMo_doRow_192 : decode bMo_doRow 192 = .ok (.aload_n 0, 1) := by decide +kernel
theorem dMo_doRow_193 : decode bMo_doRow 193 = .ok (.iconst 0, 1) := by decide +kernel
theorem dMo_doRow_194 : decode bMo_doRow 194 = .ok (.putfield 126, 3) := by decide +kernel
theorem dMo_doRow_197 : decode bMo_doRow 197 = .ok (.return_, 1) := by decide +kernel
theorem dMo_doRow_198 : decode bMo_doRow 198 = .ok (.aload_n 0, 1) := by decide +kernel
theorem dMo_doRow_199 : decode bMo_doRow 199 = .ok (.getfield 129, 3) := by decide +kernel
theorem dMo_doRow_202 : decode bMo_doRow 202 = .ok (.ifCond .ne 10, 3) := by decide +kernel
theorem dMo_doRow_205 : decode bMo_doRow 205 = .ok (.aload_n 0, 1) := by decide +kernel
theorem dMo_doRow_206 : decode bMo_doRow 206 = .ok (.ldc 140, 2) := by decide +kernel
theorem dMo_doRow_208 : decode bMo_doRow 208 = .ok (.putfield 126, 3) := by decide +kernel
theorem dMo_doRow_211 : decode bMo_doRow 211 = .ok (.return_, 1) := by decide +kernel
theorem dMo_doRow_212 : decode bMo_doRow 212 = .ok (.aload_n 0, 1) := by decide +kernel
theorem dMo_doRow_213 : decode bMo_doRow 213 = .ok (.getfield 7, 3) := by decide +kernel
theorem dMo_doRow_216 : decode bMo_doRow 216 = .ok (.iload_n 1, 1) := by decide +kernel
theorem dMo_doRow_217 : decode bMo_doRow 217 = .ok (.iaload, 1) := by decide +kernel
theorem dMo_doRow_218 : decode bMo_doRow 218 = .ok (.iconst 2, 1) := by decide +kernel
theorem dMo_doRow_219 : decode bMo_doRow 219 = .ok (.if_icmp .ne 12, 3) := by decide +kernel
theorem dMo_doRow_222 : decode bMo_doRow 222 = .ok (.aload_n 0, 1) := by decide +kernel
theorem dMo_doRow_223 : decode bMo_doRow 223 = .ok (.getfield 129, 3) := by decide +kernel
theorem dMo_doRow_226 : decode bMo_doRow 226 = .ok (.iconst 1, 1) := by decide +kernel
theorem dMo_doRow_227 : decode bMo_doRow 227 = .ok (.isub, 1) := by decide +kernel
theorem dMo_doRow_228 : decode bMo_doRow 228 = .ok (.goto 4, 3) := by decide +kernel
theorem dMo_doRow_231 : decode bMo_doRow 231 = .ok (.iconst 0, 1) := by decide +kernel
theorem dMo_doRow_232 : decode bMo_doRow 232 = .ok (.istore 4, 2) := by decide +kernel
theorem dMo_doRow_234 : decode bMo_doRow 234 = .ok (.aload_n 0, 1) := by decide +kernel
theorem dMo_doRow_235 : decode bMo_doRow 235 = .ok (.aload_n 0, 1) := by decide +kernel
theorem dMo_doRow_236 : decode bMo_doRow 236 = .ok (.getfield 28, 3) := by decide +kernel
theorem dMo_doRow_239 : decode bMo_doRow 239 = .ok (.aload_n 0, 1) := by decide +kernel
theorem dMo_doRow_240 : decode bMo_doRow 240 = .ok (.getfield 16, 3) := by decide +kernel
theorem dMo_doRow_243 : decode bMo_doRow 243 = .ok (.bipush 16, 2) := by decide +kernel
theorem dMo_doRow_245 : decode bMo_doRow 245 = .ok (.iload_n 1, 1) := by decide +kernel
theorem dMo_doRow_246 : decode bMo_doRow 246 = .ok (.imul, 1) := by decide +kernel
theorem dMo_doRow_247 : decode bMo_doRow 247 = .ok (.aload_n 0, 1) := by decide +kernel
theorem dMo_doRow_248 : decode bMo_doRow 248 = .ok (.getfield 122, 3) := by decide +kernel
theorem dMo_doRow_251 : decode bMo_doRow 251 = .ok (.iload 4, 2) := by decide +kernel
theorem dMo_doRow_253 : decode bMo_doRow 253 = .ok (.invokestatic 136, 3) := by decide +kernel
theorem dMo_doRow_256 : decode bMo_doRow 256 = .ok (.iadd, 1) := by decide +kernel
theorem dMo_doRow_257 : decode bMo_doRow 257 = .ok (.iaload, 1) := by decide +kernel
theorem dMo_doRow_258 : decode bMo_doRow 258 = .ok (.iaload, 1) := by decide +kernel
theorem dMo_doRow_259 : decode bMo_doRow 259 = .ok (.putfield 126, 3) := by decide +kernel
theorem dMo_doRow_262 : decode bMo_doRow 262 = .ok (.aload_n 0, 1) := by decide +kernel
theorem dMo_doRow_263 : decode bMo_doRow 263 = .ok (.aload_n 0, 1) := by decide +kernel
theorem dMo_doRow_264 : decode bMo_doRow 264 = .ok (.getfield 7, 3) := by decide +kernel
theorem dMo_doRow_267 : decode bMo_doRow 267 = .ok (.iload_n 1, 1) := by decide +kernel
theorem dMo_doRow_268 : decode bMo_doRow 268 = .ok (.iaload, 1) := by decide +kernel
theorem dMo_doRow_269 : decode bMo_doRow 269 = .ok (.iconst 2, 1) := by decide +kernel
theorem dMo_doRow_270 : decode bMo_doRow 270 = .ok (.if_icmp .ne 23, 3) := by decide +kernel
theorem dMo_doRow_273 : decode bMo_doRow 273 = .ok (.aload_n 0, 1) := by decide +kernel
theorem dMo_doRow_274 : decode bMo_doRow 274 = .ok (.getfield 122, 3) := by decide +kernel
theorem dMo_doRow_277 : decode bMo_doRow 277 = .ok (.ldc2_w 120, 3) := by decide +kernel
theorem dMo_doRow_280 : decode bMo_doRow 280 = .ok (.iconst 4, 1) := by decide +kernel
theorem dMo_doRow_281 : decode bMo_doRow 281 = .ok (.iload 4, 2) := by decide +kernel
theorem dMo_doRow_283 : decode bMo_doRow 283 = .ok (.imul, 1) := by decide +kernel
theorem dMo_doRow_284 : decode bMo_doRow 284 = .ok (.lshl, 1) := by decide +kernel
theorem dMo_doRow_285 : decode bMo_doRow 285 = .ok (.ldc2_w 141, 3) := by decide +kernel
theorem dMo_doRow_288 : decode bMo_doRow 288 = .ok (.lxor, 1) := by decide +kernel
theorem dMo_doRow_289 : decode bMo_doRow 289 = .ok (.land, 1) := by decide +kernel
theorem dMo_doRow_290 : decode bMo_doRow 290 = .ok (.goto 9, 3) := by decide +kernel
theorem dMo_doRow_293 : decode bMo_doRow 293 = .ok (.aload_n 0, 1) := by decide +kernel
theorem dMo_doRow_294 : decode bMo_doRow 294 = .ok (.getfield 122, 3) := by decide +kernel
theorem dMo_doRow_297 : decode bMo_doRow 297 = .ok (.iconst 4, 1) := by decide +kernel
theorem dMo_doRow_298 : decode bMo_doRow 298 = .ok (.lushr, 1) := by decide +kernel
theorem dMo_doRow_299 : decode bMo_doRow 299 = .ok (.putfield 122, 3) := by decide +kernel
theorem dMo_doRow_302 : decode bMo_doRow 302 = .ok (.aload_n 0, 1) := by decide +kernel
theorem dMo_doRow_303 : decode bMo_doRow 303 = .ok (.dup, 1) := by decide +kernel
theorem dMo_doRow_304 : decode bMo_doRow 304 = .ok (.getfield 129, 3) := by decide +kernel
theorem dMo_doRow_307 : decode bMo_doRow 307 = .ok (.iconst 1, 1) := by decide +kernel
theorem dMo_doRow_308 : decode bMo_doRow 308 = .ok (.isub, 1) := by decide +kernel
theorem dMo_doRow_309 : decode bMo_doRow 309 = .ok (.putfield 129, 3) := by decide +kernel
theorem dMo_doRow_312 : decode bMo_doRow 312 = .ok (.return_, 1) := by decide +kernel
theorem dMo_thing_0 : decode bMo_thing 0 = .ok (.lload_n 0, 1) := by decide +kernel
theorem dMo_thing_1 : decode bMo_thing 1 = .ok (.iconst 4, 1) := by decide +kernel
theorem dMo_thing_2 : decode bMo_thing 2 = .ok (.iload_n 2, 1) := by decide +kernel
theorem dMo_thing_3 : decode bMo_thing 3 = .ok (.imul, 1) := by decide +kernel
theorem dMo_thing_4 : decode bMo_thing 4 = .ok (.lushr, 1) := by decide +kernel
theorem dMo_thing_5 : decode bMo_thing 5 = .ok (.ldc2_w 120, 3) := by decide +kernel
theorem dMo_thing_8 : decode bMo_thing 8 = .ok (.land, 1) := by decide +kernel
theorem dMo_thing_9 : decode bMo_thing 9 = .ok (.l2i, 1) := by decide +kernel
theorem dMo_thing_10 : decode bMo_thing 10 = .ok (.ireturn, 1) := by decide +kernel
theorem dMo_search_0 : decode bMo_search 0 = .ok (.iload_n 1, 1) := by decide +kernel
theorem dMo_search_1 : decode bMo_search 1 = .ok (.istore 4, 2) := by decide +kernel
theorem dMo_search_3 : decode bMo_search 3 = .ok (.iload 4, 2) := by decide +kernel
theorem dMo_search_5 : decode bMo_search 5 = .ok (.iload_n 2, 1) := by decide +kernel
theorem dMo_search_6 : decode bMo_search 6 = .ok (.if_icmp .ge 35, 3) := by decide +kernel
theorem dMo_search_9 : decode bMo_search 9 = .ok (.aload_n 0, 1) := by decide +kernel
theorem dMo_search_10 : decode bMo_search 10 = .ok (.getfield 46, 3) := by decide +kernel
theorem dMo_search_13 : decode bMo_search 13 = .ok (.iload 4, 2) := by decide +kernel
theorem dMo_search_15 : decode bMo_search 15 = .ok (.iaload, 1) := by decide +kernel
theorem dMo_search_16 : decode bMo_search 16 = .ok (.iload_n 3, 1) := by decide +kernel
theorem dMo_search_17 : decode bMo_search 17 = .ok (.if_icmp .ne 18, 3) := by decide +kernel
theorem dMo_search_20 : decode bMo_search 20 = .ok (.aload_n 0, 1) := by decide +kernel
theorem dMo_search_21 : decode bMo_search 21 = .ok (.getfield 49, 3) := by decide +kernel
theorem dMo_search_24 : decode bMo_search 24 = .ok (.iload 4, 2) := by decide +kernel
theorem dMo_search_26 : decode bMo_search 26 = .ok (.laload, 1) := by decide +kernel
theorem dMo_search_27 : decode bMo_search 27 = .ok (.aload_n 0, 1) := by decide +kernel
theorem dMo_search_28 : decode bMo_search 28 = .ok (.getfield 122, 3) := by decide +kernel
theorem dMo_search_31 : decode bMo_search 31 = .ok (.lcmp, 1) := by decide +kernel
theorem dMo_search_32 : decode bMo_search 32 = .ok (.ifCond .eq 9, 3) := by decide +kernel
theorem dMo_search_35 : decode bMo_search 35 = .ok (.iinc 4 1, 3) := by decide +kernel
theorem dMo_search_38 : decode bMo_search 38 = .ok (.goto (-35), 3) := by decide +kernel
theorem dMo_search_41 : decode bMo_search 41 = .ok (.iload 4, 2) := by decide +kernel
theorem dMo_search_43 : decode bMo_search 43 = .ok (.ireturn, 1) := by decide +kernel
theorem dMo_judgeOf_0 : decode bMo_judgeOf 0 = .ok (.iload_n 3, 1) := by decide +kernel
theorem dMo_judgeOf_1 : decode bMo_judgeOf 1 = .ok (.bipush (-2), 2) := by decide +kernel
theorem dMo_judgeOf_3 : decode bMo_judgeOf 3 = .ok (.if_icmp .ne 6, 3) := by decide +kernel
theorem dMo_judgeOf_6 : decode bMo_judgeOf 6 = .ok (.bipush (-2), 2) := by decide +kernel
theorem dMo_judgeOf_8 : decode bMo_judgeOf 8 = .ok (.ireturn, 1) := by decide +kernel
theorem dMo_judgeOf_9 : decode bMo_judgeOf 9 = .ok (.iconst 0, 1) := by decide +kernel
theorem dMo_judgeOf_10 : decode bMo_judgeOf 10 = .ok (.istore 5, 2) := by decide +kernel
theorem dMo_judgeOf_12 : decode bMo_judgeOf 12 = .ok (.iload 5, 2) := by decide +kernel
theorem dMo_judgeOf_14 : decode bMo_judgeOf 14 = .ok (.iload_n 3, 1) := by decide +kernel
theorem dMo_judgeOf_15 : decode bMo_judgeOf 15 = .ok (.if_icmp .ge 25, 3) := by decide +kernel
theorem dMo_judgeOf_18 : decode bMo_judgeOf 18 = .ok (.aload_n 0, 1) := by decide +kernel
theorem dMo_judgeOf_19 : decode bMo_judgeOf 19 = .ok (.iload_n 1, 1) := by decide +kernel
theorem dMo_judgeOf_20 : decode bMo_judgeOf 20 = .ok (.iload_n 2, 1) := by decide +kernel
theorem dMo_judgeOf_21 : decode bMo_judgeOf 21 = .ok (.iload 5, 2) := by decide +kernel
theorem dMo_judgeOf_23 : decode bMo_judgeOf 23 = .ok (.iadd, 1) := by decide +kernel
theorem dMo_judgeOf_24 : decode bMo_judgeOf 24 = .ok (.iload 4, 2) := by decide +kernel
theorem dMo_judgeOf_26 : decode bMo_judgeOf 26 = .ok (.invokevirtual 181, 3) := by decide +kernel
theorem dMo_judgeOf_29 : decode bMo_judgeOf 29 = .ok (.ifCond .eq 5, 3) := by decide +kernel
theorem dMo_judgeOf_32 : decode bMo_judgeOf 32 = .ok (.iconst 1, 1) := by decide +kernel
theorem dMo_judgeOf_33 : decode bMo_judgeOf 33 = .ok (.ireturn, 1) := by decide +kernel
theorem dMo_judgeOf_34 : decode bMo_judgeOf 34 = .ok (.iinc 5 1, 3) := by decide +kernel
theorem dMo_judgeOf_37 : decode bMo_judgeOf 37 = .ok (.goto (-25), 3) := by decide +kernel
theorem dMo_judgeOf_40 : decode bMo_judgeOf 40 = .ok (.iconst 0, 1) := by decide +kernel
theorem dMo_judgeOf_41 : decode bMo_judgeOf 41 = .ok (.ireturn, 1) := by decide +kernel
theorem dMo_isEnd_0 : decode bMo_isEnd 0 = .ok (.iconst 0, 1) := by decide +kernel
theorem dMo_isEnd_1 : decode bMo_isEnd 1 = .ok (.istore 4, 2) := by decide +kernel
theorem dMo_isEnd_3 : decode bMo_isEnd 3 = .ok (.iload 4, 2) := by decide +kernel
theorem dMo_isEnd_5 : decode bMo_isEnd 5 = .ok (.aload_n 0, 1) := by decide +kernel
theorem dMo_isEnd_6 : decode bMo_isEnd 6 = .ok (.getfield 13, 3) := by decide +kernel
theorem dMo_isEnd_9 : decode bMo_isEnd 9 = .ok (.iload_n 1, 1) := by decide +kernel
theorem dMo_isEnd_10 : decode bMo_isEnd 10 = .ok (.iaload, 1) := by decide +kernel
theorem dMo_isEnd_11 : decode bMo_isEnd 11 = .ok (.if_icmp .ge 45, 3) := by decide +kernel
theorem dMo_isEnd_14 : decode bMo_isEnd 14 = .ok (.aload_n 0, 1) := by decide +kernel
theorem dMo_isEnd_15 : decode bMo_isEnd 15 = .ok (.getfield 46, 3) := by decide +kernel
theorem dMo_isEnd_18 : decode bMo_isEnd 18 = .ok (.iload_n 2, 1) := by decide +kernel
theorem dMo_isEnd_19 : decode bMo_isEnd 19 = .ok (.iaload, 1) := by decide +kernel
theorem dMo_isEnd_20 : decode bMo_isEnd 20 = .ok (.iload 4, 2) := by decide +kernel
theorem dMo_isEnd_22 : decode bMo_isEnd 22 = .ok (.ishr, 1) := by decide +kernel
theorem dMo_isEnd_23 : decode bMo_isEnd 23 = .ok (.iconst 1, 1) := by decide +kernel
theorem dMo_isEnd_24 : decode bMo_isEnd 24 = .ok (.iand, 1) := by decide +kernel
theorem dMo_isEnd_25 : decode bMo_isEnd 25 = .ok (.ifCond .ne 25, 3) := by decide +kernel
theorem dMo_isEnd_28 : decode bMo_isEnd 28 = .ok (.aload_n 0, 1) := by decide +kernel
theorem dMo_isEnd_29 : decode bMo_isEnd 29 = .ok (.aload_n 0, 1) := by decide +kernel
theorem dMo_isEnd_30 : decode bMo_isEnd 30 = .ok (.getfield 16, 3) := by decide +kernel
theorem dMo_isEnd_33 : decode bMo_isEnd 33 = .ok (.bipush 16, 2) := by decide +kernel
theorem dMo_isEnd_35 : decode bMo_isEnd 35 = .ok (.iload_n 1, 1) := by decide +kernel
theorem dMo_isEnd_36 : decode bMo_isEnd 36 = .ok (.imul, 1) := by decide +kernel
theorem dMo_isEnd_37 : decode bMo_isEnd 37 = .ok (.iload 4, 2) := by decide +kernel
theorem dMo_isEnd_39 : decode bMo_isEnd 39 = .ok (.iadd, 1) := by decide +kernel
theorem dMo_isEnd_40 : decode bMo_isEnd 40 = .ok (.iaload, 1) := by decide +kernel
theorem dMo_isEnd_41 : decode bMo_isEnd 41 = .ok (.iload_n 3, 1) := by decide +kernel
theorem dMo_isEnd_42 : decode bMo_isEnd 42 = .ok (.invokevirtual 161, 3) := by decide +kernel
theorem dMo_isEnd_45 : decode bMo_isEnd 45 = .ok (.ifCond .eq 5, 3) := by decide +kernel
theorem dMo_isEnd_48 : decode bMo_isEnd 48 = .ok (.iconst 0, 1) := by decide +kernel
theorem dMo_isEnd_49 : decode bMo_isEnd 49 = .ok (.ireturn, 1) := by decide +kernel
theorem dMo_isEnd_50 : decode bMo_isEnd 50 = .ok (.iinc 4 1, 3) := by decide +kernel
theorem dMo_isEnd_53 : decode bMo_isEnd 53 = .ok (.goto (-50), 3) := by decide +kernel
theorem dMo_isEnd_56 : decode bMo_isEnd 56 = .ok (.iconst 1, 1) := by decide +kernel
theorem dMo_isEnd_57 : decode bMo_isEnd 57 = .ok (.ireturn, 1) := by decide +kernel
theorem dMo_judge_0 : decode bMo_judge 0 = .ok (.aload_n 0, 1) := by decide +kernel
theorem dMo_judge_1 : decode bMo_judge 1 = .ok (.aload_n 0, 1) := by decide +kernel
theorem dMo_judge_2 : decode bMo_judge 2 = .ok (.iload_n 1, 1) := by decide +kernel
theorem dMo_judge_3 : decode bMo_judge 3 = .ok (.invokevirtual 107, 3) := by decide +kernel
theorem dMo_judge_6 : decode bMo_judge 6 = .ok (.ifCond .eq 7, 3) := by decide +kernel
theorem dMo_judge_9 : decode bMo_judge 9 = .ok (.iconst 1, 1) := by decide +kernel
theorem dMo_judge_10 : decode bMo_judge 10 = .ok (.goto 4, 3) := by decide +kernel
theorem dMo_judge_13 : decode bMo_judge 13 = .ok (.iconst 0, 1) := by decide +kernel
theorem dMo_judge_14 : decode bMo_judge 14 = .ok (.putfield 93, 3) := by decide +kernel
theorem dMo_judge_17 : decode bMo_judge 17 = .ok (.aload_n 0, 1) := by decide +kernel
theorem dMo_judge_18 : decode bMo_judge 18 = .ok (.getfield 93, 3) := by decide +kernel
theorem dMo_judge_21 : decode bMo_judge 21 = .ok (.ifCond .le 5, 3) := by decide +kernel
theorem dMo_judge_24 : decode bMo_judge 24 = .ok (.iconst 0, 1) := by decide +kernel
theorem dMo_judge_25 : decode bMo_judge 25 = .ok (.ireturn, 1) := by decide +kernel
theorem dMo_judge_26 : decode bMo_judge 26 = .ok (.aload_n 0, 1) := by decide +kernel
theorem dMo_judge_27 : decode bMo_judge 27 = .ok (.iload_n 1, 1) := by decide +kernel
theorem dMo_judge_28 : decode bMo_judge 28 = .ok (.invokevirtual 195, 3) := by decide +kernel
theorem dMo_judge_31 : decode bMo_judge 31 = .ok (.aload_n 0, 1) := by decide +kernel
theorem dMo_judge_32 : decode bMo_judge 32 = .ok (.getfield 66, 3) := by decide +kernel
theorem dMo_judge_35 : decode bMo_judge 35 = .ok (.iload_n 1, 1) := by decide +kernel
theorem dMo_judge_36 : decode bMo_judge 36 = .ok (.iaload, 1) := by decide +kernel
theorem dMo_judge_37 : decode bMo_judge 37 = .ok (.ireturn, 1) := by decide +kernel
theorem dMo_judgeOwn_0 : decode bMo_judgeOwn 0 = .ok (.aload_n 0, 1) := by decide +kernel
theorem dMo_judgeOwn_1 : decode bMo_judgeOwn 1 = .ok (.aload_n 0, 1) := by decide +kernel
theorem dMo_judgeOwn_2 : decode bMo_judgeOwn 2 = .ok (.iload_n 1, 1) := by decide +kernel
theorem dMo_judgeOwn_3 : decode bMo_judgeOwn 3 = .ok (.invokevirtual 107, 3) := by decide +kernel
theorem dMo_judgeOwn_6 : decode bMo_judgeOwn 6 = .ok (.ifCond .eq 7, 3) := by decide +kernel
theorem dMo_judgeOwn_9 : decode bMo_judgeOwn 9 = .ok (.iconst 1, 1) := by decide +kernel
theorem dMo_judgeOwn_10 : decode bMo_judgeOwn 10 = .ok (.goto 4, 3) := by decide +kernel
theorem dMo_judgeOwn_13 : decode bMo_judgeOwn 13 = .ok (.iconst 0, 1) := by decide +kernel
theorem dMo_judgeOwn_14 : decode bMo_judgeOwn 14 = .ok (.putfield 93, 3) := by decide +kernel
theorem dMo_judgeOwn_17 : decode bMo_judgeOwn 17 = .ok (.aload_n 0, 1) := by decide +kernel
theorem dMo_judgeOwn_18 : decode bMo_judgeOwn 18 = .ok (.getfield 93, 3) := by decide +kernel
theorem dMo_judgeOwn_21 : decode bMo_judgeOwn 21 = .ok (.ifCond .le 5, 3) := by decide +kernel
theorem dMo_judgeOwn_24 : decode bMo_judgeOwn 24 = .ok (.iconst 0, 1) := by decide +kernel
theorem dMo_judgeOwn_25 : decode bMo_judgeOwn 25 = .ok (.ireturn, 1) := by decide +kernel
theorem dMo_judgeOwn_26 : decode bMo_judgeOwn 26 = .ok (.aload_n 0, 1) := by decide +kernel
theorem dMo_judgeOwn_27 : decode bMo_judgeOwn 27 = .ok (.iload_n 1, 1) := by decide +kernel
theorem dMo_judgeOwn_28 : decode bMo_judgeOwn 28 = .ok (.sipush 12006, 3) := by decide +kernel
theorem dMo_judgeOwn_31 : decode bMo_judgeOwn 31 = .ok (.aload_n 0, 1) := by decide +kernel
theorem dMo_judgeOwn_32 : decode bMo_judgeOwn 32 = .ok (.getfield 114, 3) := by decide +kernel
theorem dMo_judgeOwn_35 : decode bMo_judgeOwn 35 = .ok (.iconst 1, 1) := by decide +kernel
theorem dMo_judgeOwn_36 : decode bMo_judgeOwn 36 = .ok (.invokevirtual 185, 3) := by decide +kernel
theorem dMo_judgeOwn_39 : decode bMo_judgeOwn 39 = .ok (.istore_n 2, 1) := by decide +kernel
theorem dMo_judgeOwn_40 : decode bMo_judgeOwn 40 = .ok (.aload_n 0, 1) := by decide +kernel
theorem dMo_judgeOwn_41 : decode bMo_judgeOwn 41 = .ok (.iload_n 1, 1) := by decide +kernel
theorem dMo_judgeOwn_42 : decode bMo_judgeOwn 42 = .ok (.sipush 12006, 3) := by decide +kernel
theorem dMo_judgeOwn_45 : decode bMo_judgeOwn 45 = .ok (.iload_n 2, 1) := by decide +kernel
theorem dMo_judgeOwn_46 : decode bMo_judgeOwn 46 = .ok (.aload_n 0, 1) := by decide +kernel
theorem dMo_judgeOwn_47 : decode bMo_judgeOwn 47 = .ok (.getfield 114, 3) := by decide +kernel
theorem dMo_judgeOwn_50 : decode bMo_judgeOwn 50 = .ok (.invokevirtual 189, 3) := by decide +kernel
theorem dMo_judgeOwn_53 : decode bMo_judgeOwn 53 = .ok (.ireturn, 1) := by decide +kernel
