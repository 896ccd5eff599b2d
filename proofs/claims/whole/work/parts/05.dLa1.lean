theorem dLa_law_0 : decode bLa_law 0 = .ok (.new 8, 3) := by decide +kernel
theorem dLa_law_3 : decode bLa_law 3 = .ok (.dup, 1) := by decide +kernel
theorem dLa_law_4 : decode bLa_law 4 = .ok (.invokespecial 60, 3) := by decide +kernel
theorem dLa_law_7 : decode bLa_law 7 = .ok (.astore_n 1, 1) := by decide +kernel
theorem dLa_law_8 : decode bLa_law 8 = .ok (.new 61, 3) := by decide +kernel
theorem dLa_law_11 : decode bLa_law 11 = .ok (.dup, 1) := by decide +kernel
theorem dLa_law_12 : decode bLa_law 12 = .ok (.invokespecial 63, 3) := by decide +kernel
theorem dLa_law_15 : decode bLa_law 15 = .ok (.astore_n 2, 1) := by decide +kernel
theorem dLa_law_16 : decode bLa_law 16 = .ok (.iconst 1, 1) := by decide +kernel
theorem dLa_law_17 : decode bLa_law 17 = .ok (.newarray .long, 2) := by decide +kernel
theorem dLa_law_19 : decode bLa_law 19 = .ok (.astore_n 3, 1) := by decide +kernel
theorem dLa_law_20 : decode bLa_law 20 = .ok (.iconst 0, 1) := by decide +kernel
theorem dLa_law_21 : decode bLa_law 21 = .ok (.istore 4, 2) := by decide +kernel
theorem dLa_law_23 : decode bLa_law 23 = .ok (.iload 4, 2) := by decide +kernel
theorem dLa_law_25 : decode bLa_law 25 = .ok (.aload_n 0, 1) := by decide +kernel
theorem dLa_law_26 : decode bLa_law 26 = .ok (.arraylength, 1) := by decide +kernel
theorem dLa_law_27 : decode bLa_law 27 = .ok (.bipush 6, 2) := by decide +kernel
theorem dLa_law_29 : decode bLa_law 29 = .ok (.isub, 1) := by decide +kernel
theorem dLa_law_30 : decode bLa_law 30 = .ok (.if_icmp .gt 870, 3) := by decide +kernel
theorem dLa_law_33 : decode bLa_law 33 = .ok (.aload_n 0, 1) := by decide +kernel
theorem dLa_law_34 : decode bLa_law 34 = .ok (.iload 4, 2) := by decide +kernel
theorem dLa_law_36 : decode bLa_law 36 = .ok (.iaload, 1) := by decide +kernel
theorem dLa_law_37 : decode bLa_law 37 = .ok (.bipush 15, 2) := by decide +kernel
theorem dLa_law_39 : decode bLa_law 39 = .ok (.iand, 1) := by decide +kernel
theorem dLa_law_40 : decode bLa_law 40 = .ok (.tableswitch 854 0 15 #[80, 136, 240, 288, 324, 337, 350, 406, 462, 518, 573, 629, 685, 698, 742, 798], 80) := by decide +kernel
theorem dLa_law_120 : decode bLa_law 120 = .ok (.aload_n 1, 1) := by decide +kernel
theorem dLa_law_121 : decode bLa_law 121 = .ok (.aload_n 0, 1) := by decide +kernel
theorem dLa_law_122 : decode bLa_law 122 = .ok (.iload 4, 2) := by decide +kernel
theorem dLa_law_124 : decode bLa_law 124 = .ok (.iconst 1, 1) := by decide +kernel
theorem dLa_law_125 : decode bLa_law 125 = .ok (.iadd, 1) := by decide +kernel
theorem dLa_law_126 : decode bLa_law 126 = .ok (.iaload, 1) := by decide +kernel
theorem dLa_law_127 : decode bLa_law 127 = .ok (.aload_n 3, 1) := by decide +kernel
theorem dLa_law_128 : decode bLa_law 128 = .ok (.invokestatic 64, 3) := by decide +kernel
theorem dLa_law_131 : decode bLa_law 131 = .ok (.istore 5, 2) := by decide +kernel
theorem dLa_law_133 : decode bLa_law 133 = .ok (.aload_n 2, 1) := by decide +kernel
theorem dLa_law_134 : decode bLa_law 134 = .ok (.aload_n 0, 1) := by decide +kernel
theorem dLa_law_135 : decode bLa_law 135 = .ok (.iload 4, 2) := by decide +kernel
theorem dLa_law_137 : decode bLa_law 137 = .ok (.iconst 1, 1) := by decide +kernel
theorem dLa_law_138 : decode bLa_law 138 = .ok (.iadd, 1) := by decide +kernel
theorem dLa_law_139 : decode bLa_law 139 = .ok (.iaload, 1) := by decide +kernel
theorem dLa_law_140 : decode bLa_law 140 = .ok (.invokevirtual 69, 3) := by decide +kernel
theorem dLa_law_143 : decode bLa_law 143 = .ok (.istore 6, 2) := by decide +kernel
theorem dLa_law_145 : decode bLa_law 145 = .ok (.aload_n 2, 1) := by decide +kernel
theorem dLa_law_146 : decode bLa_law 146 = .ok (.invokevirtual 70, 3) := by decide +kernel
theorem dLa_law_149 : decode bLa_law 149 = .ok (.iload 5, 2) := by decide +kernel
theorem dLa_law_151 : decode bLa_law 151 = .ok (.if_icmp .eq 5, 3) := by decide +kernel
theorem dLa_law_154 : decode bLa_law 154 = .ok (.iconst 0, 1) := by decide +kernel
theorem dLa_law_155 : decode bLa_law 155 = .ok (.ireturn, 1) := by decide +kernel
theorem dLa_law_156 : decode bLa_law 156 = .ok (.iload 5, 2) := by decide +kernel
theorem dLa_law_158 : decode bLa_law 158 = .ok (.ifCond .ne 15, 3) := by decide +kernel
theorem dLa_law_161 : decode bLa_law 161 = .ok (.aload_n 3, 1) := by decide +kernel
theorem dLa_law_162 : decode bLa_law 162 = .ok (.iconst 0, 1) := by decide +kernel
theorem dLa_law_163 : decode bLa_law 163 = .ok (.laload, 1) := by decide +kernel
theorem dLa_law_164 : decode bLa_law 164 = .ok (.iload 6, 2) := by decide +kernel
theorem dLa_law_166 : decode bLa_law 166 = .ok (.i2l, 1) := by decide +kernel
theorem dLa_law_167 : decode bLa_law 167 = .ok (.lcmp, 1) := by decide +kernel
theorem dLa_law_168 : decode bLa_law 168 = .ok (.ifCond .eq 5, 3) := by decide +kernel
theorem dLa_law_171 : decode bLa_law 171 = .ok (.iconst 0, 1) := by decide +kernel
theorem dLa_law_172 : decode bLa_law 172 = .ok (.ireturn, 1) := by decide +kernel
theorem dLa_law_173 : decode bLa_law 173 = .ok (.goto 721, 3) := by decide +kernel
theorem dLa_law_176 : decode bLa_law 176 = .ok (.aload_n 1, 1) := by decide +kernel
theorem dLa_law_177 : decode bLa_law 177 = .ok (.aload_n 0, 1) := by decide +kernel
theorem dLa_law_178 : decode bLa_law 178 = .ok (.iload 4, 2) := by decide +kernel
theorem dLa_law_180 : decode bLa_law 180 = .ok (.iconst 1, 1) := by decide +kernel
theorem dLa_law_181 : decode bLa_law 181 = .ok (.iadd, 1) := by decide +kernel
theorem dLa_law_182 : decode bLa_law 182 = .ok (.iaload, 1) := by decide +kernel
theorem dLa_law_183 : decode bLa_law 183 = .ok (.aload_n 0, 1) := by decide +kernel
theorem dLa_law_184 : decode bLa_law 184 = .ok (.iload 4, 2) := by decide +kernel
theorem dLa_law_186 : decode bLa_law 186 = .ok (.iconst 2, 1) := by decide +kernel
theorem dLa_law_187 : decode bLa_law 187 = .ok (.iadd, 1) := by decide +kernel
theorem dLa_law_188 : decode bLa_law 188 = .ok (.iaload, 1) := by decide +kernel
theorem dLa_law_189 : decode bLa_law 189 = .ok (.aload_n 0, 1) := by decide +kernel
theorem dLa_law_190 : decode bLa_law 190 = .ok (.iload 4, 2) := by decide +kernel
theorem dLa_law_192 : decode bLa_law 192 = .ok (.iconst 3, 1) := by decide +kernel
theorem dLa_law_193 : decode bLa_law 193 = .ok (.iadd, 1) := by decide +kernel
theorem dLa_law_194 : decode bLa_law 194 = .ok (.iaload, 1) := by decide +kernel
theorem dLa_law_195 : decode bLa_law 195 = .ok (.aload_n 0, 1) := by decide +kernel
theorem dLa_law_196 : decode bLa_law 196 = .ok (.iload 4, 2) := by decide +kernel
theorem dLa_law_198 : decode bLa_law 198 = .ok (.iconst 4, 1) := by decide +kernel
theorem dLa_law_199 : decode bLa_law 199 = .ok (.iadd, 1) := by decide +kernel
theorem dLa_law_200 : decode bLa_law 200 = .ok (.iaload, 1) := by decide +kernel
theorem dLa_law_201 : decode bLa_law 201 = .ok (.aload_n 0, 1) := by decide +kernel
theorem dLa_law_202 : decode bLa_law 202 = .ok (.iload 4, 2) := by decide +kernel
theorem dLa_law_204 : decode bLa_law 204 = .ok (.iconst 5, 1) := by decide +kernel
theorem dLa_law_205 : decode bLa_law 205 = .ok (.iadd, 1) := by decide +kernel
theorem dLa_law_206 : decode bLa_law 206 = .ok (.iaload, 1) := by decide +kernel
theorem dLa_law_207 : decode bLa_law 207 = .ok (.aload_n 3, 1) := by decide +kernel
theorem dLa_law_208 : decode bLa_law 208 = .ok (.invokestatic 73, 3) := by decide +kernel
theorem dLa_law_211 : decode bLa_law 211 = .ok (.istore 5, 2) := by decide +kernel
theorem dLa_law_213 : decode bLa_law 213 = .ok (.aload_n 2, 1) := by decide +kernel
theorem dLa_law_214 : decode bLa_law 214 = .ok (.aload_n 0, 1) := by decide +kernel
theorem dLa_law_215 : decode bLa_law 215 = .ok (.iload 4, 2) := by decide +kernel
theorem dLa_law_217 : decode bLa_law 217 = .ok (.iconst 1, 1) := by decide +kernel
theorem dLa_law_218 : decode bLa_law 218 = .ok (.iadd, 1) := by decide +kernel
theorem dLa_law_219 : decode bLa_law 219 = .ok (.iaload, 1) := by decide +kernel
theorem dLa_law_220 : decode bLa_law 220 = .ok (.aload_n 0, 1) := by decide +kernel
theorem dLa_law_221 : decode bLa_law 221 = .ok (.iload 4, 2) := by decide +kernel
theorem dLa_law_223 : decode bLa_law 223 = .ok (.iconst 2, 1) := by decide +kernel
theorem dLa_law_224 : decode bLa_law 224 = .ok (.iadd, 1) := by decide +kernel
theorem dLa_law_225 : decode bLa_law 225 = .ok (.iaload, 1) := by decide +kernel
theorem dLa_law_226 : decode bLa_law 226 = .ok (.aload_n 0, 1) := by decide +kernel
theorem dLa_law_227 : decode bLa_law 227 = .ok (.iload 4, 2) := by decide +kernel
theorem dLa_law_229 : decode bLa_law 229 = .ok (.iconst 3, 1) := by decide +kernel
theorem dLa_law_230 : decode bLa_law 230 = .ok (.iadd, 1) := by decide +kernel
theorem dLa_law_231 : decode bLa_law 231 = .ok (.iaload, 1) := by decide +kernel
theorem dLa_law_232 : decode bLa_law 232 = .ok (.aload_n 0, 1) := by decide +kernel
theorem dLa_law_233 : decode bLa_law 233 = .ok (.iload 4, 2) := by decide +kernel
theorem dLa_law_235 : decode bLa_law 235 = .ok (.iconst 4, 1) := by decide +kernel
theorem dLa_law_236 : decode bLa_law 236 = .ok (.iadd, 1) := by decide +kernel
theorem dLa_law_237 : decode bLa_law 237 = .ok (.iaload, 1) := by decide +kernel
theorem dLa_law_238 : decode bLa_law 238 = .ok (.aload_n 0, 1) := by decide +kernel
theorem dLa_law_239 : decode bLa_law 239 = .ok (.iload 4, 2) := by decide +kernel
theorem dLa_law_241 : decode bLa_law 241 = .ok (.iconst 5, 1) := by decide +kernel
theorem dLa_law_242 : decode bLa_law 242 = .ok (.iadd, 1) := by decide +kernel
theorem dLa_law_243 : decode bLa_law 243 = .ok (.iaload, 1) := by decide +kernel
theorem dLa_law_244 : decode bLa_law 244 = .ok (.invokevirtual 76, 3) := by decide +kernel
theorem dLa_law_247 : decode bLa_law 247 = .ok (.istore 6, 2) := by decide +kernel
theorem dLa_law_249 : decode bLa_law 249 = .ok (.aload_n 2, 1) := by decide +kernel
theorem dLa_law_250 : decode bLa_law 250 = .ok (.invokevirtual 70, 3) := by decide +kernel
theorem dLa_law_253 : decode bLa_law 253 = .ok (.iload 5, 2) := by decide +kernel
theorem dLa_law_255 : decode bLa_law 255 = .ok (.if_icmp .eq 5, 3) := by decide +kernel
theorem dLa_law_258 : decode bLa_law 258 = .ok (.iconst 0, 1) := by decide +kernel
theorem dLa_law_259 : decode bLa_law 259 = .ok (.ireturn, 1) := by decide +kernel
theorem dLa_law_260 : decode bLa_law 260 = .ok (.iload 5, 2) := by decide +kernel
theorem dLa_law_262 : decode bLa_law 262 = .ok (.ifCond .ne 15, 3) := by decide +kernel
theorem dLa_law_265 : decode bLa_law 265 = .ok (.aload_n 3, 1) := by decide +kernel
theorem dLa_law_266 : decode bLa_law 266 = .ok (.iconst 0, 1) := by decide +kernel
theorem dLa_law_267 : decode bLa_law 267 = .ok (.laload, 1) := by decide +kernel
theorem dLa_law_268 : decode bLa_law 268 = .ok (.iload 6, 2) := by decide +kernel
theorem dLa_law_270 : decode bLa_law 270 = .ok (.i2l, 1) := by decide +kernel
theorem dLa_law_271 : decode bLa_law 271 = .ok (.lcmp, 1) := by decide +kernel
theorem dLa_law_272 : decode bLa_law 272 = .ok (.ifCond .eq 5, 3) := by decide +kernel
theorem dLa_law_275 : decode bLa_law 275 = .ok (.iconst 0, 1) := by decide +kernel
theorem dLa_law_276 : decode bLa_law 276 = .ok (.ireturn, 1) := by decide +kernel
theorem dLa_law_277 : decode bLa_law 277 = .ok (.goto 617, 3) := by decide +kernel
theorem dLa_law_280 : decode bLa_law 280 = .ok (.aload_n 1, 1) := by decide +kernel
theorem dLa_law_281 : decode bLa_law 281 = .ok (.aload_n 0, 1) := by decide +kernel
theorem dLa_law_282 : decode bLa_law 282 = .ok (.iload 4, 2) := by decide +kernel
theorem dLa_law_284 : decode bLa_law 284 = .ok (.iconst 1, 1) := by decide +kernel
theorem dLa_law_285 : decode bLa_law 285 = .ok (.iadd, 1) := by decide +kernel
theorem dLa_law_286 : decode bLa_law 286 = .ok (.iaload, 1) := by decide +kernel
theorem dLa_law_287 : decode bLa_law 287 = .ok (.aload_n 0, 1) := by decide +kernel
theorem dLa_law_288 : decode bLa_law 288 = .ok (.iload 4, 2) := by decide +kernel
theorem dLa_law_290 : decode bLa_law 290 = .ok (.iconst 2, 1) := by decide +kernel
theorem dLa_law_291 : decode bLa_law 291 = .ok (.iadd, 1) := by decide +kernel
theorem dLa_law_292 : decode bLa_law 292 = .ok (.iaload, 1) := by decide +kernel
theorem dLa_law_293 : decode bLa_law 293 = .ok (.invokestatic 77, 3) := by decide +kernel
theorem dLa_law_296 : decode bLa_law 296 = .ok (.istore 5, 2) := by decide +kernel
theorem dLa_law_298 : decode bLa_law 298 = .ok (.aload_n 2, 1) := by decide +kernel
theorem dLa_law_299 : decode bLa_law 299 = .ok (.aload_n 0, 1) := by decide +kernel
theorem dLa_law_300 : decode bLa_law 300 = .ok (.iload 4, 2) := by decide +kernel
theorem dLa_law_302 : decode bLa_law 302 = .ok (.iconst 1, 1) := by decide +kernel
theorem dLa_law_303 : decode bLa_law 303 = .ok (.iadd, 1) := by decide +kernel
theorem dLa_law_304 : decode bLa_law 304 = .ok (.iaload, 1) := by decide +kernel
theorem dLa_law_305 : decode bLa_law 305 = .ok (.aload_n 0, 1) := by decide +kernel
theorem dLa_law_306 : decode bLa_law 306 = .ok (.iload 4, 2) := by decide +kernel
theorem dLa_law_308 : decode bLa_law 308 = .ok (.iconst 2, 1) := by decide +kernel
theorem dLa_law_309 : decode bLa_law 309 = .ok (.iadd, 1) := by decide +kernel
theorem dLa_law_310 : decode bLa_law 310 = .ok (.iaload, 1) := by decide +kernel
theorem dLa_law_311 : decode bLa_law 311 = .ok (.invokevirtual 80, 3) := by decide +kernel
theorem dLa_law_314 : decode bLa_law 314 = .ok (.aload_n 2, 1) := by decide +kernel
theorem dLa_law_315 : decode bLa_law 315 = .ok (.invokevirtual 70, 3) := by decide +kernel
theorem dLa_law_318 : decode bLa_law 318 = .ok (.iload 5, 2) := by decide +kernel
theorem dLa_law_320 : decode bLa_law 320 = .ok (.if_icmp .eq 5, 3) := by decide +kernel
theorem dLa_law_323 : decode bLa_law 323 = .ok (.iconst 0, 1) := by decide +kernel
theorem dLa_law_324 : decode bLa_law 324 = .ok (.ireturn, 1) := by decide +kernel
theorem dLa_law_325 : decode bLa_law 325 = .ok (.goto 569, 3) := by decide +kernel
theorem dLa_law_328 : decode bLa_law 328 = .ok (.aload_n 1, 1) := by decide +kernel
theorem dLa_law_329 : decode bLa_law 329 = .ok (.aload_n 0, 1) := by decide +kernel
theorem dLa_law_330 : decode bLa_law 330 = .ok (.iload 4, 2) := by decide +kernel
theorem dLa_law_332 : decode bLa_law 332 = .ok (.iconst 1, 1) := by decide +kernel
theorem dLa_law_333 : decode bLa_law 333 = .ok (.iadd, 1) := by decide +kernel
theorem dLa_law_334 : decode bLa_law 334 = .ok (.iaload, 1) := by decide +kernel
theorem dLa_law_335 : decode bLa_law 335 = .ok (.invokestatic 81, 3) := by decide +kernel
theorem dLa_law_338 : decode bLa_law 338 = .ok (.istore 5, 2) := by decide +kernel
theorem dLa_law_340 : decode bLa_law 340 = .ok (.aload_n 2, 1) := by decide +kernel
theorem dLa_law_341 : decode bLa_law 341 = .ok (.aload_n 0, 1) := by decide +kernel
theorem dLa_law_342 : decode bLa_law 342 = .ok (.iload 4, 2) := by decide +kernel
theorem dLa_law_344 : decode bLa_law 344 = .ok (.iconst 1, 1) := by decide +kernel
theorem dLa_law_345 : decode bLa_law 345 = .ok (.iadd, 1) := by decide +kernel
theorem dLa_law_346 : decode bLa_law 346 = .ok (.iaload, 1) := by decide +kernel
theorem dLa_law_347 : decode bLa_law 347 = .ok (.invokevirtual 84, 3) := by decide +kernel
theorem dLa_law_350 : decode bLa_law 350 = .ok (.aload_n 2, 1) := by decide +kernel
theorem dLa_law_351 : decode bLa_law 351 = .ok (.invokevirtual 70, 3) := by decide +kernel
theorem dLa_law_354 : decode bLa_law 354 = .ok (.iload 5, 2) := by decide +kernel
theorem dLa_law_356 : decode bLa_law 356 = .ok (.if_icmp .eq 5, 3) := by decide +kernel
theorem dLa_law_359 : decode bLa_law 359 = .ok (.iconst 0, 1) := by decide +kernel
theorem dLa_law_360 : decode bLa_law 360 = .ok (.ireturn, 1) := by decide +kernel
theorem dLa_law_361 : decode bLa_law 361 = .ok (.goto 533, 3) := by decide +kernel
theorem dLa_law_364 : decode bLa_law 364 = .ok (.aload_n 1, 1) := by decide +kernel
theorem dLa_law_365 : decode bLa_law 365 = .ok (.invokevirtual 85, 3) := by decide +kernel
theorem dLa_law_368 : decode bLa_law 368 = .ok (.aload_n 2, 1) := by decide +kernel
theorem dLa_law_369 : decode bLa_law 369 = .ok (.invokevirtual 88, 3) := by decide +kernel
theorem dLa_law_372 : decode bLa_law 372 = .ok (.if_icmp .eq 522, 3) := by decide +kernel
theorem dLa_law_375 : decode bLa_law 375 = .ok (.iconst 0, 1) := by decide +kernel
theorem dLa_law_376 : decode bLa_law 376 = .ok (.ireturn, 1) := by decide +kernel
theorem dLa_law_377 : decode bLa_law 377 = .ok (.aload_n 1, 1) := by decide +kernel
theorem dLa_law_378 : decode bLa_law 378 = .ok (.invokevirtual 89, 3) := by decide +kernel
theorem dLa_law_381 : decode bLa_law 381 = .ok (.aload_n 2, 1) := by decide +kernel
theorem dLa_law_382 : decode bLa_law 382 = .ok (.invokevirtual 92, 3) := by decide +kernel
theorem dLa_law_385 : decode bLa_law 385 = .ok (.if_icmp .eq 509, 3) := by decide +kernel
theorem dLa_law_388 : decode bLa_law 388 = .ok (.iconst 0, 1) := by decide +kernel
theorem dLa_law_389 : decode bLa_law 389 = .ok (.ireturn, 1) := by decide +kernel
theorem dLa_law_390 : decode bLa_law 390 = .ok (.aload_n 1, 1) := by decide +kernel
theorem dLa_law_391 : decode bLa_law 391 = .ok (.aload_n 0, 1) := by decide +kernel
theorem dLa_law_392 : decode bLa_law 392 = .ok (.iload 4, 2) := by decide +kernel
theorem dLa_law_394 : decode bLa_law 394 = .ok (.iconst 1, 1) := by decide +kernel
theorem dLa_law_395 : decode bLa_law 395 = .ok (.iadd, 1) := by decide +kernel
theorem dLa_law_396 : decode bLa_law 396 = .ok (.iaload, 1) := by decide +kernel
theorem dLa_law_397 : decode bLa_law 397 = .ok (.aload_n 3, 1) := by decide +kernel
theorem dLa_law_398 : decode bLa_law 398 = .ok (.invokestatic 93, 3) := by decide +kernel
theorem dLa_law_401 : decode bLa_law 401 = .ok (.istore 5, 2) := by decide +kernel
theorem dLa_law_403 : decode bLa_law 403 = .ok (.aload_n 2, 1) := by decide +kernel
theorem dLa_law_404 : decode bLa_law 404 = .ok (.aload_n 0, 1) := by decide +kernel
theorem dLa_law_405 : decode bLa_law 405 = .ok (.iload 4, 2) := by decide +kernel
theorem dLa_law_407 : decode bLa_law 407 = .ok (.iconst 1, 1) := by decide +kernel
theorem dLa_law_408 : decode bLa_law 408 = .ok (.iadd, 1) := by decide +kernel
theorem dLa_law_409 : decode bLa_law 409 = .ok (.iaload, 1) := by decide +kernel
theorem dLa_law_410 : decode bLa_law 410 = .ok (.invokevirtual 95, 3) := by decide +kernel
theorem dLa_law_413 : decode bLa_law 413 = .ok (.istore 6, 2) := by decide +kernel
theorem dLa_law_415 : decode bLa_law 415 = .ok (.aload_n 2, 1) := by decide +kernel
theorem dLa_law_416 : decode bLa_law 416 = .ok (.invokevirtual 70, 3) := by decide +kernel
theorem dLa_law_419 : decode bLa_law 419 = .ok (.iload 5, 2) := by decide +kernel
theorem dLa_law_421 : decode bLa_law 421 = .ok (.if_icmp .eq 5, 3) := by decide +kernel
theorem dLa_law_424 : decode bLa_law 424 = .ok (.iconst 0, 1) := by decide +kernel
theorem dLa_law_425 : decode bLa_law 425 = .ok (.ireturn, 1) := by decide +kernel
theorem dLa_law_426 : decode bLa_law 426 = .ok (.iload 5, 2) := by decide +kernel
theorem dLa_law_428 : decode bLa_law 428 = .ok (.ifCond .ne 15, 3) := by decide +kernel
theorem dLa_law_431 : decode bLa_law 431 = .ok (.aload_n 3, 1) := by decide +kernel
theorem dLa_law_432 : decode bLa_law 432 = .ok (.iconst 0, 1) := by decide +kernel
theorem dLa_law_433 : decode bLa_law 433 = .ok (.laload, 1) := by decide +kernel
theorem dLa_law_434 : decode bLa_law 434 = .ok (.iload 6, 2) := by decide +kernel
theorem dLa_law_436 : decode bLa_law 436 = .ok (.i2l, 1) := by decide +kernel
theorem dLa_law_437 : decode bLa_law 437 = .ok (.lcmp, 1) := by decide +kernel
theorem dLa_law_438 : decode bLa_law 438 = .ok (.ifCond .eq 5, 3) := by decide +kernel
theorem dLa_law_441 : decode bLa_law 441 = .ok (.iconst 0, 1) := by decide +kernel
theorem dLa_law_442 : decode bLa_law 442 = .ok (.ireturn, 1) := by decide +kernel
theorem dLa_law_443 : decode bLa_law 443 = .ok (.goto 451, 3) := by decide +kernel
theorem dLa_law_446 : decode bLa_law 446 = .ok (.aload_n 1, 1) := by decide +kernel
theorem dLa_law_447 : decode bLa_law 447 = .ok (.aload_n 0, 1) := by decide +kernel
theorem dLa_law_448 : decode bLa_law 448 = .ok (.iload 4, 2) := by decide +kernel
theorem dLa_law_450 : decode bLa_law 450 = .ok (.iconst 1, 1) := by decide +kernel
theorem dLa_law_451 : decode bLa_law 451 = .ok (.iadd, 1) := by decide +kernel
theorem dLa_law_452 : decode bLa_law 452 = .ok (.iaload, 1) := by decide +kernel
theorem dLa_law_453 : decode bLa_law 453 = .ok (.aload_n 3, 1) := by decide +kernel
theorem dLa_law_454 : decode bLa_law 454 = .ok (.invokestatic 96, 3) := by decide +kernel
theorem dLa_law_457 : decode bLa_law 457 = .ok (.istore 5, 2) := by decide +kernel
theorem dLa_law_459 : decode bLa_law 459 = .ok (.aload_n 2, 1) := by decide +kernel
theorem dLa_law_460 : decode bLa_law 460 = .ok (.aload_n 0, 1) := by decide +kernel
theorem dLa_law_461 : decode bLa_law 461 = .ok (.iload 4, 2) := by decide +kernel
theorem dLa_law_463 : decode bLa_law 463 = .ok (.iconst 1, 1) := by decide +kernel
theorem dLa_law_464 : decode bLa_law 464 = .ok (.iadd, 1) := by decide +kernel
theorem dLa_law_465 : decode bLa_law 465 = .ok (.iaload, 1) := by decide +kernel
theorem dLa_law_466 : decode bLa_law 466 = .ok (.invokevirtual 98, 3) := by decide +kernel
theorem dLa_law_469 : decode bLa_law 469 = .ok (.istore 6, 2) := by decide +kernel
theorem dLa_law_471 : decode bLa_law 471 = .ok (.aload_n 2, 1) := by decide +kernel
theorem dLa_law_472 : decode bLa_law 472 = .ok (.invokevirtual 70, 3) := by decide +kernel
theorem dLa_law_475 : decode bLa_law 475 = .ok (.iload 5, 2) := by decide +kernel
theorem dLa_law_477 : decode bLa_law 477 = .ok (.if_icmp .eq 5, 3) := by decide +kernel
theorem dLa_law_480 : decode bLa_law 480 = .ok (.iconst 0, 1) := by decide +kernel
theorem dLa_law_481 : decode bLa_law 481 = .ok (.ireturn, 1) := by decide +kernel
theorem dLa_law_482 : decode bLa_law 482 = .ok (.iload 5, 2) := by decide +kernel
theorem dLa_law_484 : decode bLa_law 484 = .ok (.ifCond .ne 15, 3) := by decide +kernel
theorem dLa_law_487 : decode bLa_law 487 = .ok (.aload_n 3, 1) := by decide +kernel
theorem dLa_law_488 : decode bLa_law 488 = .ok (.iconst 0, 1) := by decide +kernel
theorem dLa_law_489 : decode bLa_law 489 = .ok (.laload, 1) := by decide +kernel
theorem dLa_law_490 : decode bLa_law 490 = .ok (.iload 6, 2) := by decide +kernel
theorem dLa_law_492 : decode bLa_law 492 = .ok (.i2l, 1) := by decide +kernel
theorem dLa_law_493 : decode bLa_law 493 = .ok (.lcmp, 1) := by decide +kernel
theorem dLa_law_494 : decode bLa_law 494 = .ok (.ifCond .eq 5, 3) := by decide +kernel
theorem dLa_law_497 : decode bLa_law 497 = .ok (.iconst 0, 1) := by decide +kernel
theorem dLa_law_498 : decode bLa_law 498 = .ok (.ireturn, 1) := by decide +kernel
theorem dLa_law_499 : decode bLa_law 499 = .ok (.goto 395, 3) := by decide +kernel
theorem dLa_law_502 : decode bLa_law 502 = .ok (.aload_n 1, 1) := by decide +kernel
theorem dLa_law_503 : decode bLa_law 503 = .ok (.aload_n 0, 1) := by decide +kernel
theorem dLa_law_504 : decode bLa_law 504 = .ok (.iload 4, 2) := by decide +kernel
theorem dLa_law_506 : decode bLa_law 506 = .ok (.iconst 1, 1) := by decide +kernel
theorem dLa_law_507 : decode bLa_law 507 = .ok (.iadd, 1) := by decide +kernel
theorem dLa_law_508 : decode bLa_law 508 = .ok (.iaload, 1) := by decide +kernel
theorem dLa_law_509 : decode bLa_law 509 = .ok (.aload_n 3, 1) := by decide +kernel
theorem dLa_law_510 : decode bLa_law 510 = .ok (.invokestatic 99, 3) := by decide +kernel
theorem dLa_law_513 : decode bLa_law 513 = .ok (.istore 5, 2) := by decide +kernel
theorem dLa_law_515 : decode bLa_law 515 = .ok (.aload_n 2, 1) := by decide +kernel
theorem dLa_law_516 : decode bLa_law 516 = .ok (.aload_n 0, 1) := by decide +kernel
theorem dLa_law_517 : decode bLa_law 517 = .ok (.iload 4, 2) := by decide +kernel
theorem dLa_law_519 : decode bLa_law 519 = .ok (.iconst 1, 1) := by decide +kernel
theorem dLa_law_520 : decode bLa_law 520 = .ok (.iadd, 1) := by decide +kernel
theorem dLa_law_521 : decode bLa_law 521 = .ok (.iaload, 1) := by decide +kernel
theorem dLa_law_522 : decode bLa_law 522 = .ok (.invokevirtual 101, 3) := by decide +kernel
theorem dLa_law_525 : decode bLa_law 525 = .ok (.istore 6, 2) := by decide +kernel
theorem dLa_law_527 : decode bLa_law 527 = .ok (.aload_n 2, 1) := by decide +kernel
theorem dLa_law_528 : decode bLa_law 528 = .ok (.invokevirtual 70, 3) := by decide +kernel
theorem dLa_law_531 : decode bLa_law 531 = .ok (.iload 5, 2) := by decide +kernel
theorem dLa_law_533 : decode bLa_law 533 = .ok (.if_icmp .eq 5, 3) := by decide +kernel
theorem dLa_law_536 : decode bLa_law 536 = .ok (.iconst 0, 1) := by decide +kernel
theorem dLa_law_537 : decode bLa_law 537 = .ok (.ireturn, 1) := by decide +kernel
theorem dLa_law_538 : decode bLa_law 538 = .ok (.iload 5, 2) := by decide +kernel
theorem dLa_law_540 : decode bLa_law 540 = .ok (.ifCond .ne 15, 3) := by decide +kernel
theorem dLa_law_543 : decode bLa_law 543 = .ok (.aload_n 3, 1) := by decide +kernel
theorem dLa_law_544 : decode bLa_law 544 = .ok (.iconst 0, 1) := by decide +kernel
theorem dLa_law_545 : decode bLa_law 545 = .ok (.laload, 1) := by decide +kernel
theorem dLa_law_546 : decode bLa_law 546 = .ok (.iload 6, 2) := by decide +kernel
theorem dLa_law_548 : decode bLa_law 548 = .ok (.i2l, 1) := by decide +kernel
theorem dLa_law_549 : decode bLa_law 549 = .ok (.lcmp, 1) := by decide +kernel
theorem dLa_law_550 : decode bLa_law 550 = .ok (.ifCond .eq 5, 3) := by decide +kernel
theorem dLa_law_553 : decode bLa_law 553 = .ok (.iconst 0, 1) := by decide +kernel
theorem dLa_law_554 : decode bLa_law 554 = .ok (.ireturn, 1) := by decide +kernel
theorem dLa_law_555 : decode bLa_law 555 = .ok (.goto 339, 3) := by decide +kernel
theorem dLa_law_558 : decode bLa_law 558 = .ok (.aload_n 1, 1) := by decide +kernel
theorem dLa_law_559 : decode bLa_law 559 = .ok (.aload_n 0, 1) := by decide +kernel
theorem dLa_law_560 : decode bLa_law 560 = .ok (.iload 4, 2) := by decide +kernel
theorem dLa_law_562 : decode bLa_law 562 = .ok (.iconst 1, 1) := by decide +kernel
theorem dLa_law_563 : decode bLa_law 563 = .ok (.iadd, 1) := by decide +kernel
theorem dLa_law_564 : decode bLa_law 564 = .ok (.iaload, 1) := by decide +kernel
theorem dLa_law_565 : decode bLa_law 565 = .ok (.aload_n 3, 1) := by decide +kernel
theorem dLa_law_566 : decode bLa_law 566 = .ok (.invokestatic 102, 3) := by decide +kernel
theorem dLa_law_569 : decode bLa_law 569 = .ok (.istore 5, 2) := by decide +kernel
theorem dLa_law_571 : decode bLa_law 571 = .ok (.aload_n 2, 1) := by decide +kernel
theorem dLa_law_572 : decode bLa_law 572 = .ok (.aload_n 0, 1) := by decide +kernel
theorem dLa_law_573 : decode bLa_law 573 = .ok (.iload 4, 2) := by decide +kernel
theorem dLa_law_575 : decode bLa_law 575 = .ok (.iconst 1, 1) := by decide +kernel
theorem dLa_law_576 : decode bLa_law 576 = .ok (.iadd, 1) := by decide +kernel
theorem dLa_law_577 : decode bLa_law 577 = .ok (.iaload, 1) := by decide +kernel
theorem dLa_law_578 : decode bLa_law 578 = .ok (.invokevirtual 104, 3) := by decide +kernel
theorem dLa_law_581 : decode bLa_law 581 = .ok (.lstore 6, 2) := by decide +kernel
theorem dLa_law_583 : decode bLa_law 583 = .ok (.aload_n 2, 1) := by decide +kernel
theorem dLa_law_584 : decode bLa_law 584 = .ok (.invokevirtual 70, 3) := by decide +kernel
theorem dLa_law_587 : decode bLa_law 587 = .ok (.iload 5, 2) := by decide +kernel
theorem dLa_law_589 : decode bLa_law 589 = .ok (.if_icmp .eq 5, 3) := by decide +kernel
theorem dLa_law_592 : decode bLa_law 592 = .ok (.iconst 0, 1) := by decide +kernel
theorem dLa_law_593 : decode bLa_law 593 = .ok (.ireturn, 1) := by decide +kernel
theorem dLa_law_594 : decode bLa_law 594 = .ok (.iload 5, 2) := by decide +kernel
theorem dLa_law_596 : decode bLa_law 596 = .ok (.ifCond .ne 14, 3) := by decide +kernel
theorem dLa_law_599 : decode bLa_law 599 = .ok (.aload_n 3, 1) := by decide +kernel
theorem dLa_law_600 : decode bLa_law 600 = .ok (.iconst 0, 1) := by decide +kernel
theorem dLa_law_601 : decode bLa_law 601 = .ok (.laload, 1) := by decide +kernel
theorem dLa_law_602 : decode bLa_law 602 = .ok (.lload 6, 2) := by decide +kernel
theorem dLa_law_604 : decode bLa_law 604 = .ok (.lcmp, 1) := by decide +kernel
theorem dLa_law_605 : decode bLa_law 605 = .ok (.ifCond .eq 5, 3) := by decide +kernel
theorem dLa_law_608 : decode bLa_law 608 = .ok (.iconst 0, 1) := by decide +kernel
theorem dLa_law_609 : decode bLa_law 609 = .ok (.ireturn, 1) := by decide +kernel
theorem dLa_law_610 : decode bLa_law 610 = .ok (.goto 284, 3) := by decide +kernel
theorem dLa_law_613 : decode bLa_law 613 = .ok (.aload_n 1, 1) := by decide +kernel
theorem dLa_law_614 : decode bLa_law 614 = .ok (.aload_n 0, 1) := by decide +kernel
theorem dLa_law_615 : decode bLa_law 615 = .ok (.iload 4, 2) := by decide +kernel
theorem dLa_law_617 : decode bLa_law 617 = .ok (.iconst 1, 1) := by decide +kernel
theorem dLa_law_618 : decode bLa_law 618 = .ok (.iadd, 1) := by decide +kernel
theorem dLa_law_619 : decode bLa_law 619 = .ok (.iaload, 1) := by decide +kernel
theorem dLa_law_620 : decode bLa_law 620 = .ok (.aload_n 3, 1) := by decide +kernel
theorem dLa_law_621 : decode bLa_law 621 = .ok (.invokestatic 105, 3) := by decide +kernel
theorem dLa_law_624 : decode bLa_law 624 = .ok (.istore 5, 2) := by decide +kernel
theorem dLa_law_626 : decode bLa_law 626 = .ok (.aload_n 2, 1) := by decide +kernel
theorem dLa_law_627 : decode bLa_law 627 = .ok (.aload_n 0, 1) := by decide +kernel
theorem dLa_law_628 : decode bLa_law 628 = .ok (.iload 4, 2) := by decide +kernel
theorem dLa_law_630 : decode bLa_law 630 = .ok (.iconst 1, 1) := by decide +kernel
theorem dLa_law_631 : decode bLa_law 631 = .ok (.iadd, 1) := by decide +kernel
theorem dLa_law_632 : decode bLa_law 632 = .ok (.iaload, 1) := by decide +kernel
theorem dLa_law_633 : decode bLa_law 633 = .ok (.invokevirtual 107, 3) := by decide +kernel
theorem dLa_law_636 : decode bLa_law 636 = .ok (.istore 6, 2) := by decide +kernel
theorem dLa_law_638 : decode bLa_law 638 = .ok (.aload_n 2, 1) := by decide +kernel
theorem dLa_law_639 : decode bLa_law 639 = .ok (.invokevirtual 70, 3) := by decide +kernel
theorem dLa_law_642 : decode bLa_law 642 = .ok (.iload 5, 2) := by decide +kernel
theorem dLa_law_644 : decode bLa_law 644 = .ok (.if_icmp .eq 5, 3) := by decide +kernel
theorem dLa_law_647 : decode bLa_law 647 = .ok (.iconst 0, 1) := by decide +kernel
theorem dLa_law_648 : decode bLa_law 648 = .ok (.ireturn, 1) := by decide +kernel
theorem dLa_law_649 : decode bLa_law 649 = .ok (.iload 5, 2) := by decide +kernel
theorem dLa_law_651 : decode bLa_law 651 = .ok (.ifCond .ne 15, 3) := by decide +kernel
theorem dLa_law_654 : decode bLa_law 654 = .ok (.aload_n 3, 1) := by decide +kernel
theorem dLa_law_655 : decode bLa_law 655 = .ok (.iconst 0, 1) := by decide +kernel
theorem dLa_law_656 : decode bLa_law 656 = .ok (.laload, 1) := by decide +kernel
theorem dLa_law_657 : decode bLa_law 657 = .ok (.iload 6, 2) := by decide +kernel
theorem dLa_law_659 : decode bLa_law 659 = .ok (.i2l, 1) := by decide +kernel
theorem dLa_law_660 : decode bLa_law 660 = .ok (.lcmp, 1) := by decide +kernel
theorem dLa_law_661 : decode bLa_law 661 = .ok (.ifCond .eq 5, 3) := by decide +kernel
theorem dLa_law_664 : decode bLa_law 664 = .ok (.iconst 0, 1) := by decide +kernel
theorem dLa_law_665 : decode bLa_law 665 = .ok (.ireturn, 1) := by decide +kernel
theorem dLa_law_666 : decode bLa_law 666 = .ok (.goto 228, 3) := by decide +kernel
theorem dLa_law_669 : decode bLa_law 669 = .ok (.aload_n 1, 1) := by decide +kernel
theorem dLa_law_670 : decode bLa_law 670 = .ok (.aload_n 0, 1) := by decide +kernel
theorem dLa_law_671 : decode bLa_law 671 = .ok (.iload 4, 2) := by decide +kernel
theorem dLa_law_673 : decode bLa_law 673 = .ok (.iconst 1, 1) := by decide +kernel
theorem dLa_law_674 : decode bLa_law 674 = .ok (.iadd, 1) := by decide +kernel
theorem dLa_law_675 : decode bLa_law 675 = .ok (.iaload, 1) := by decide +kernel
theorem dLa_law_676 : decode bLa_law 676 = .ok (.aload_n 3, 1) := by decide +kernel
theorem dLa_law_677 : decode bLa_law 677 = .ok (.invokestatic 108, 3) := by decide +kernel
theorem dLa_law_680 : decode bLa_law 680 = .ok (.istore 5, 2) := by decide +kernel
theorem dLa_law_682 : decode bLa_law 682 = .ok (.aload_n 2, 1) := by decide +kernel
theorem dLa_law_683 : decode bLa_law 683 = .ok (.aload_n 0, 1) := by decide +kernel
theorem dLa_law_684 : decode bLa_law 684 = .ok (.iload 4, 2) := by decide +kernel
theorem dLa_law_686 : decode bLa_law 686 = .ok (.iconst 1, 1) := by decide +kernel
theorem dLa_law_687 : decode bLa_law 687 = .ok (.iadd, 1) := by decide +kernel
theorem dLa_law_688 : decode bLa_law 688 = .ok (.iaload, 1) := by decide +kernel
theorem dLa_law_689 : decode bLa_law 689 = .ok (.invokevirtual 110, 3) := by decide +kernel
theorem dLa_law_692 : decode bLa_law 692 = .ok (.istore 6, 2) := by decide +kernel
theorem dLa_law_694 : decode bLa_law 694 = .ok (.aload_n 2, 1) := by decide +kernel
theorem dLa_law_695 : decode bLa_law 695 = .ok (.invokevirtual 70, 3) := by decide +kernel
theorem dLa_law_698 : decode bLa_law 698 = .ok (.iload 5, 2) := by decide +kernel
theorem dLa_law_700 : decode bLa_law 700 = .ok (.if_icmp .eq 5, 3) := by decide +kernel
theorem dLa_law_703 : decode bLa_law 703 = .ok (.iconst 0, 1) := by decide +kernel
theorem dLa_law_704 : decode bLa_law 704 = .ok (.ireturn, 1) := by decide +kernel
theorem dLa_law_705 : decode bLa_law 705 = .ok (.iload 5, 2) := by decide +kernel
theorem dLa_law_707 : decode bLa_law 707 = .ok (.ifCond .ne 15, 3) := by decide +kernel
theorem dLa_law_710 : decode bLa_law 710 = .ok (.aload_n 3, 1) := by decide +kernel
theorem dLa_law_711 : decode bLa_law 711 = .ok (.iconst 0, 1) := by decide +kernel
theorem dLa_law_712 : decode bLa_law 712 = .ok (.laload, 1) := by decide +kernel
theorem dLa_law_713 : decode bLa_law 713 = .ok (.iload 6, 2) := by decide +kernel
theorem dLa_law_715 : decode bLa_law 715 = .ok (.i2l, 1) := by decide +kernel
theorem dLa_law_716 : decode bLa_law 716 = .ok (.lcmp, 1) := by decide +kernel
theorem dLa_law_717 : decode bLa_law 717 = .ok (.ifCond .eq 5, 3) := by decide +kernel
theorem dLa_law_720 : decode bLa_law 720 = .ok (.iconst 0, 1) := by decide +kernel
theorem dLa_law_721 : decode bLa_law 721 = .ok (.ireturn, 1) := by decide +kernel
theorem dLa_law_722 : decode bLa_law 722 = .ok (.goto 172, 3) := by decide +kernel
theorem dLa_law_725 : decode bLa_law 725 = .ok (.aload_n 1, 1) := by decide +kernel
theorem dLa_law_726 : decode bLa_law 726 = .ok (.invokevirtual 111, 3) := by decide +kernel
theorem dLa_law_729 : decode bLa_law 729 = .ok (.aload_n 2, 1) := by decide +kernel
theorem dLa_law_730 : decode bLa_law 730 = .ok (.invokevirtual 114, 3) := by decide +kernel
theorem dLa_law_733 : decode bLa_law 733 = .ok (.if_icmp .eq 161, 3) := by decide +kernel
theorem dLa_law_736 : decode bLa_law 736 = .ok (.iconst 0, 1) := by decide +kernel
theorem dLa_law_737 : decode bLa_law 737 = .ok (.ireturn, 1) := by decide +kernel
theorem dLa_law_738 : decode bLa_law 738 = .ok (.aload_n 1, 1) := by decide +kernel
theorem dLa_law_739 : decode bLa_law 739 = .ok (.aload_n 3, 1) := by decide +kernel
theorem dLa_law_740 : decode bLa_law 740 = .ok (.invokestatic 115, 3) := by decide +kernel
theorem dLa_law_743 : decode bLa_law 743 = .ok (.istore 5, 2) := by decide +kernel
theorem dLa_law_745 : decode bLa_law 745 = .ok (.aload_n 2, 1) := by decide +kernel
theorem dLa_law_746 : decode bLa_law 746 = .ok (.invokevirtual 118, 3) := by decide +kernel
theorem dLa_law_749 : decode bLa_law 749 = .ok (.istore 6, 2) := by decide +kernel
theorem dLa_law_751 : decode bLa_law 751 = .ok (.aload_n 2, 1) := by decide +kernel
theorem dLa_law_752 : decode bLa_law 752 = .ok (.invokevirtual 70, 3) := by decide +kernel
theorem dLa_law_755 : decode bLa_law 755 = .ok (.iload 5, 2) := by decide +kernel
theorem dLa_law_757 : decode bLa_law 757 = .ok (.if_icmp .eq 5, 3) := by decide +kernel
theorem dLa_law_760 : decode bLa_law 760 = .ok (.iconst 0, 1) := by decide +kernel
theorem dLa_law_761 : decode bLa_law 761 = .ok (.ireturn, 1) := by decide +kernel
theorem dLa_law_762 : decode bLa_law 762 = .ok (.iload 5, 2) := by decide +kernel
theorem dLa_law_764 : decode bLa_law 764 = .ok (.ifCond .ne 15, 3) := by decide +kernel
theorem dLa_law_767 : decode bLa_law 767 = .ok (.aload_n 3, 1) := by decide +kernel
theorem dLa_law_768 : decode bLa_law 768 = .ok (.iconst 0, 1) := by decide +kernel
theorem dLa_law_769 : decode bLa_law 769 = .ok (.laload, 1) := by decide +kernel
theorem dLa_law_770 : decode bLa_law 770 = .ok (.iload 6, 2) := by decide +kernel
theorem dLa_law_772 : decode bLa_law 772 = .ok (.i2l, 1) := by decide +kernel
theorem dLa_law_773 : decode bLa_law 773 = .ok (.lcmp, 1) := by decide +kernel
theorem dLa_law_774 : decode bLa_law 774 = .ok (.ifCond .eq 5, 3) := by decide +kernel
theorem dLa_law_777 : decode bLa_law 777 = .ok (.iconst 0, 1) := by decide +kernel
theorem dLa_law_778 : decode bLa_law 778 = .ok (.ireturn, 1) := by decide +kernel
theorem dLa_law_779 : decode bLa_law 779 = .ok (.goto 115, 3) := by decide +kernel
theorem dLa_law_782 : decode bLa_law 782 = .ok (.aload_n 1, 1) := by decide +kernel
theorem dLa_law_783 : decode bLa_law 783 = .ok (.aload_n 0, 1) := by decide +kernel
theorem dLa_law_784 : decode bLa_law 784 = .ok (.iload 4, 2) := by decide +kernel
theorem dLa_law_786 : decode bLa_law 786 = .ok (.iconst 1, 1) := by decide +kernel
theorem dLa_law_787 : decode bLa_law 787 = .ok (.iadd, 1) := by decide +kernel
theorem dLa_law_788 : decode bLa_law 788 = .ok (.iaload, 1) := by decide +kernel
theorem dLa_law_789 : decode bLa_law 789 = .ok (.aload_n 3, 1) := by decide +kernel
theorem dLa_law_790 : decode bLa_law 790 = .ok (.invokestatic 119, 3) := by decide +kernel
theorem dLa_law_793 : decode bLa_law 793 = .ok (.istore 5, 2) := by decide +kernel
theorem dLa_law_795 : decode bLa_law 795 = .ok (.aload_n 2, 1) := by decide +kernel
theorem dLa_law_796 : decode bLa_law 796 = .ok (.aload_n 0, 1) := by decide +kernel
theorem dLa_law_797 : decode bLa_law 797 = .ok (.iload 4, 2) := by decide +kernel
theorem dLa_law_799 : decode bLa_law 799 = .ok (.iconst 1, 1) := by decide +kernel
theorem dLa_law_800 : decode bLa_law 800 = .ok (.iadd, 1) := by decide +kernel
theorem dLa_law_801 : decode bLa_law 801 = .ok (.iaload, 1) := by decide +kernel
theorem dLa_law_802 : decode bLa_law 802 = .ok (.invokevirtual 121, 3) := by decide +kernel
theorem dLa_law_805 : decode bLa_law 805 = .ok (.istore 6, 2) := by decide +kernel
theorem dLa_law_807 : decode bLa_law 807 = .ok (.aload_n 2, 1) := by decide +kernel
theorem dLa_law_808 : decode bLa_law 808 = .ok (.invokevirtual 70, 3) := by decide +kernel
theorem dLa_law_811 : decode bLa_law 811 = .ok (.iload 5, 2) := by decide +kernel
theorem dLa_law_813 : decode bLa_law 813 = .ok (.if_icmp .eq 5, 3) := by decide +kernel
theorem dLa_law_816 : decode bLa_law 816 = .ok (.iconst 0, 1) := by decide +kernel
theorem dLa_law_817 : decode bLa_law 817 = .ok (.ireturn, 1) := by decide +kernel
theorem dLa_law_818 : decode bLa_law 818 = .ok (.iload 5, 2) := by decide +kernel
theorem dLa_law_820 : decode bLa_law 820 = .ok (.ifCond .ne 15, 3) := by decide +kernel
theorem dLa_law_823 : decode bLa_law 823 = .ok (.aload_n 3, 1) := by decide +kernel
theorem dLa_law_824 : decode bLa_law 824 = .ok (.iconst 0, 1) := by decide +kernel
theorem dLa_law_825 : decode bLa_law 825 = .ok (.laload, 1) := by decide +kernel
theorem dLa_law_826 : decode bLa_law 826 = .ok (.iload 6, 2) := by decide +kernel
theorem dLa_law_828 : decode bLa_law 828 = .ok (.i2l, 1) := by decide +kernel
theorem dLa_law_829 : decode bLa_law 829 = .ok (.lcmp, 1) := by decide +kernel
theorem dLa_law_830 : decode bLa_law 830 = .ok (.ifCond .eq 5, 3) := by decide +kernel
theorem dLa_law_833 : decode bLa_law 833 = .ok (.iconst 0, 1) := by decide +kernel
theorem dLa_law_834 : decode bLa_law 834 = .ok (.ireturn, 1) := by decide +kernel
theorem dLa_law_835 : decode bLa_law 835 = .ok (.goto 59, 3) := by decide +kernel
theorem dLa_law_838 : decode bLa_law 838 = .ok (.aload_n 1, 1) := by decide +kernel
theorem dLa_law_839 : decode bLa_law 839 = .ok (.aload_n 0, 1) := by decide +kernel
theorem dLa_law_840 : decode bLa_law 840 = .ok (.iload 4, 2) := by decide +kernel
theorem dLa_law_842 : decode bLa_law 842 = .ok (.iconst 1, 1) := by decide +kernel
theorem dLa_law_843 : decode bLa_law 843 = .ok (.iadd, 1) := by decide +kernel
theorem dLa_law_844 : decode bLa_law 844 = .ok (.iaload, 1) := by decide +kernel
theorem dLa_law_845 : decode bLa_law 845 = .ok (.aload_n 3, 1) := by decide +kernel
theorem dLa_law_846 : decode bLa_law 846 = .ok (.invokestatic 122, 3) := by decide +kernel
theorem dLa_law_849 : decode bLa_law 849 = .ok (.istore 5, 2) := by decide +kernel
theorem dLa_law_851 : decode bLa_law 851 = .ok (.aload_n 2, 1) := by decide +kernel
theorem dLa_law_852 : decode bLa_law 852 = .ok (.aload_n 0, 1) := by decide +kernel
theorem dLa_law_853 : decode bLa_law 853 = .ok (.iload 4, 2) := by decide +kernel
theorem dLa_law_855 : decode bLa_law 855 = .ok (.iconst 1, 1) := by decide +kernel
theorem dLa_law_856 : decode bLa_law 856 = .ok (.iadd, 1) := by decide +kernel
theorem dLa_law_857 : decode bLa_law 857 = .ok (.iaload, 1) := by decide +kernel
theorem dLa_law_858 : decode bLa_law 858 = .ok (.invokevirtual 124, 3) := by decide +kernel
theorem dLa_law_861 : decode bLa_law 861 = .ok (.istore 6, 2) := by decide +kernel
theorem dLa_law_863 : decode bLa_law 863 = .ok (.aload_n 2, 1) := by decide +kernel
theorem dLa_law_864 : decode bLa_law 864 = .ok (.invokevirtual 70, 3) := by decide +kernel
theorem dLa_law_867 : decode bLa_law 867 = .ok (.iload 5, 2) := by decide +kernel
theorem dLa_law_869 : decode bLa_law 869 = .ok (.if_icmp .eq 5, 3) := by decide +kernel
theorem dLa_law_872 : decode bLa_law 872 = .ok (.iconst 0, 1) := by decide +kernel
theorem dLa_law_873 : decode bLa_law 873 = .ok (.ireturn, 1) := by decide +kernel
theorem dLa_law_874 : decode bLa_law 874 = .ok (.iload 5, 2) := by decide +kernel
theorem dLa_law_876 : decode bLa_law 876 = .ok (.ifCond .ne 15, 3) := by decide +kernel
theorem dLa_law_879 : decode bLa_law 879 = .ok (.aload_n 3, 1) := by decide +kernel
theorem dLa_law_880 : decode bLa_law 880 = .ok (.iconst 0, 1) := by decide +kernel
theorem dLa_law_881 : decode bLa_law 881 = .ok (.laload, 1) := by decide +kernel
theorem dLa_law_882 : decode bLa_law 882 = .ok (.iload 6, 2) := by decide +kernel
theorem dLa_law_884 : decode bLa_law 884 = .ok (.i2l, 1) := by decide +kernel
theorem dLa_law_885 : decode bLa_law 885 = .ok (.lcmp, 1) := by decide +kernel
theorem dLa_law_886 : decode bLa_law 886 = .ok (.ifCond .eq 5, 3) := by decide +kernel
theorem dLa_law_889 : decode bLa_law 889 = .ok (.iconst 0, 1) := by decide +kernel
theorem dLa_law_890 : decode bLa_law 890 = .ok (.ireturn, 1) := by decide +kernel
theorem dLa_law_891 : decode bLa_law 891 = .ok (.goto 3, 3) := by decide +kernel
theorem dLa_law_894 : decode bLa_law 894 = .ok (.iinc 4 6, 3) := by decide +kernel
theorem dLa_law_897 : decode bLa_law 897 = .ok (.goto (-874), 3) := by decide +kernel
theorem dLa_law_900 : decode bLa_law 900 = .ok (.iconst 1, 1) := by decide +kernel
theorem dLa_law_901 : decode bLa_law 901 = .ok (.ireturn, 1) := by decide +kernel
