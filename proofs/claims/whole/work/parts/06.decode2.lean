theorem dX9_init_0 : decode cX9_init 0 = .ok (.aload_n 0, 1) := by decide +kernel
theorem dX9_init_1 : decode cX9_init 1 = .ok (.invokespecial 1, 3) := by decide +kernel
theorem dX9_init_4 : decode cX9_init 4 = .ok (.aload_n 0, 1) := by decide +kernel
theorem dX9_init_5 : decode cX9_init 5 = .ok (.iload_n 1, 1) := by decide +kernel
theorem dX9_init_6 : decode cX9_init 6 = .ok (.putfield 7, 3) := by decide +kernel
theorem dX9_init_9 : decode cX9_init 9 = .ok (.aload_n 0, 1) := by decide +kernel
theorem dX9_init_10 : decode cX9_init 10 = .ok (.iload_n 2, 1) := by decide +kernel
theorem dX9_init_11 : decode cX9_init 11 = .ok (.putfield 13, 3) := by decide +kernel
theorem dX9_init_14 : decode cX9_init 14 = .ok (.return_, 1) := by decide +kernel
theorem dX10_init_0 : decode cX10_init 0 = .ok (.aload_n 0, 1) := by decide +kernel
theorem dX10_init_1 : decode cX10_init 1 = .ok (.invokespecial 3, 3) := by decide +kernel
theorem dX10_init_4 : decode cX10_init 4 = .ok (.aload_n 0, 1) := by decide +kernel
theorem dX10_init_5 : decode cX10_init 5 = .ok (.bipush 17, 2) := by decide +kernel
theorem dX10_init_7 : decode cX10_init 7 = .ok (.newarray .long, 2) := by decide +kernel
theorem dX10_init_9 : decode cX10_init 9 = .ok (.putfield 9, 3) := by decide +kernel
theorem dX10_init_12 : decode cX10_init 12 = .ok (.aload_n 0, 1) := by decide +kernel
theorem dX10_init_13 : decode cX10_init 13 = .ok (.sipush 1500, 3) := by decide +kernel
theorem dX10_init_16 : decode cX10_init 16 = .ok (.newarray .int, 2) := by decide +kernel
theorem dX10_init_18 : decode cX10_init 18 = .ok (.putfield 13, 3) := by decide +kernel
theorem dX10_init_21 : decode cX10_init 21 = .ok (.aload_n 0, 1) := by decide +kernel
theorem dX10_init_22 : decode cX10_init 22 = .ok (.sipush 1501, 3) := by decide +kernel
theorem dX10_init_25 : decode cX10_init 25 = .ok (.newarray .int, 2) := by decide +kernel
theorem dX10_init_27 : decode cX10_init 27 = .ok (.putfield 17, 3) := by decide +kernel
theorem dX10_init_30 : decode cX10_init 30 = .ok (.aload_n 0, 1) := by decide +kernel
theorem dX10_init_31 : decode cX10_init 31 = .ok (.sipush 1501, 3) := by decide +kernel
theorem dX10_init_34 : decode cX10_init 34 = .ok (.newarray .int, 2) := by decide +kernel
theorem dX10_init_36 : decode cX10_init 36 = .ok (.putfield 20, 3) := by decide +kernel
theorem dX10_init_39 : decode cX10_init 39 = .ok (.aload_n 0, 1) := by decide +kernel
theorem dX10_init_40 : decode cX10_init 40 = .ok (.sipush 1501, 3) := by decide +kernel
theorem dX10_init_43 : decode cX10_init 43 = .ok (.newarray .long, 2) := by decide +kernel
theorem dX10_init_45 : decode cX10_init 45 = .ok (.putfield 23, 3) := by decide +kernel
theorem dX10_init_48 : decode cX10_init 48 = .ok (.aload_n 0, 1) := by decide +kernel
theorem dX10_init_49 : decode cX10_init 49 = .ok (.bipush 25, 2) := by decide +kernel
theorem dX10_init_51 : decode cX10_init 51 = .ok (.newarray .long, 2) := by decide +kernel
theorem dX10_init_53 : decode cX10_init 53 = .ok (.putfield 26, 3) := by decide +kernel
theorem dX10_init_56 : decode cX10_init 56 = .ok (.aload_n 0, 1) := by decide +kernel
theorem dX10_init_57 : decode cX10_init 57 = .ok (.bipush 6, 2) := by decide +kernel
theorem dX10_init_59 : decode cX10_init 59 = .ok (.newarray .long, 2) := by decide +kernel
theorem dX10_init_61 : decode cX10_init 61 = .ok (.putfield 29, 3) := by decide +kernel
theorem dX10_init_64 : decode cX10_init 64 = .ok (.aload_n 0, 1) := by decide +kernel
theorem dX10_init_65 : decode cX10_init 65 = .ok (.bipush 6, 2) := by decide +kernel
theorem dX10_init_67 : decode cX10_init 67 = .ok (.newarray .int, 2) := by decide +kernel
theorem dX10_init_69 : decode cX10_init 69 = .ok (.putfield 32, 3) := by decide +kernel
theorem dX10_init_72 : decode cX10_init 72 = .ok (.aload_n 0, 1) := by decide +kernel
theorem dX10_init_73 : decode cX10_init 73 = .ok (.bipush 6, 2) := by decide +kernel
theorem dX10_init_75 : decode cX10_init 75 = .ok (.newarray .int, 2) := by decide +kernel
theorem dX10_init_77 : decode cX10_init 77 = .ok (.putfield 35, 3) := by decide +kernel
theorem dX10_init_80 : decode cX10_init 80 = .ok (.aload_n 0, 1) := by decide +kernel
theorem dX10_init_81 : decode cX10_init 81 = .ok (.bipush 6, 2) := by decide +kernel
theorem dX10_init_83 : decode cX10_init 83 = .ok (.newarray .int, 2) := by decide +kernel
theorem dX10_init_85 : decode cX10_init 85 = .ok (.putfield 38, 3) := by decide +kernel
theorem dX10_init_88 : decode cX10_init 88 = .ok (.aload_n 0, 1) := by decide +kernel
theorem dX10_init_89 : decode cX10_init 89 = .ok (.iconst 3, 1) := by decide +kernel
theorem dX10_init_90 : decode cX10_init 90 = .ok (.newarray .int, 2) := by decide +kernel
theorem dX10_init_92 : decode cX10_init 92 = .ok (.putfield 41, 3) := by decide +kernel
theorem dX10_init_95 : decode cX10_init 95 = .ok (.aload_n 0, 1) := by decide +kernel
theorem dX10_init_96 : decode cX10_init 96 = .ok (.iconst 3, 1) := by decide +kernel
theorem dX10_init_97 : decode cX10_init 97 = .ok (.newarray .long, 2) := by decide +kernel
theorem dX10_init_99 : decode cX10_init 99 = .ok (.putfield 44, 3) := by decide +kernel
theorem dX10_init_102 : decode cX10_init 102 = .ok (.aload_n 0, 1) := by decide +kernel
theorem dX10_init_103 : decode cX10_init 103 = .ok (.bipush 16, 2) := by decide +kernel
theorem dX10_init_105 : decode cX10_init 105 = .ok (.newarray .long, 2) := by decide +kernel
theorem dX10_init_107 : decode cX10_init 107 = .ok (.putfield 47, 3) := by decide +kernel
theorem dX10_init_110 : decode cX10_init 110 = .ok (.aload_n 0, 1) := by decide +kernel
theorem dX10_init_111 : decode cX10_init 111 = .ok (.bipush 16, 2) := by decide +kernel
theorem dX10_init_113 : decode cX10_init 113 = .ok (.newarray .int, 2) := by decide +kernel
theorem dX10_init_115 : decode cX10_init 115 = .ok (.putfield 50, 3) := by decide +kernel
theorem dX10_init_118 : decode cX10_init 118 = .ok (.aload_n 0, 1) := by decide +kernel
theorem dX10_init_119 : decode cX10_init 119 = .ok (.bipush 16, 2) := by decide +kernel
theorem dX10_init_121 : decode cX10_init 121 = .ok (.newarray .int, 2) := by decide +kernel
theorem dX10_init_123 : decode cX10_init 123 = .ok (.putfield 53, 3) := by decide +kernel
theorem dX10_init_126 : decode cX10_init 126 = .ok (.aload_n 0, 1) := by decide +kernel
theorem dX10_init_127 : decode cX10_init 127 = .ok (.bipush 16, 2) := by decide +kernel
theorem dX10_init_129 : decode cX10_init 129 = .ok (.newarray .int, 2) := by decide +kernel
theorem dX10_init_131 : decode cX10_init 131 = .ok (.putfield 56, 3) := by decide +kernel
theorem dX10_init_134 : decode cX10_init 134 = .ok (.aload_n 0, 1) := by decide +kernel
theorem dX10_init_135 : decode cX10_init 135 = .ok (.bipush 64, 2) := by decide +kernel
theorem dX10_init_137 : decode cX10_init 137 = .ok (.newarray .int, 2) := by decide +kernel
theorem dX10_init_139 : decode cX10_init 139 = .ok (.putfield 59, 3) := by decide +kernel
theorem dX10_init_142 : decode cX10_init 142 = .ok (.aload_n 0, 1) := by decide +kernel
theorem dX10_init_143 : decode cX10_init 143 = .ok (.sipush 384, 3) := by decide +kernel
theorem dX10_init_146 : decode cX10_init 146 = .ok (.newarray .int, 2) := by decide +kernel
theorem dX10_init_148 : decode cX10_init 148 = .ok (.putfield 62, 3) := by decide +kernel
theorem dX10_init_151 : decode cX10_init 151 = .ok (.aload_n 0, 1) := by decide +kernel
theorem dX10_init_152 : decode cX10_init 152 = .ok (.sipush 3004, 3) := by decide +kernel
theorem dX10_init_155 : decode cX10_init 155 = .ok (.newarray .int, 2) := by decide +kernel
theorem dX10_init_157 : decode cX10_init 157 = .ok (.putfield 65, 3) := by decide +kernel
theorem dX10_init_160 : decode cX10_init 160 = .ok (.aload_n 0, 1) := by decide +kernel
theorem dX10_init_161 : decode cX10_init 161 = .ok (.sipush 3004, 3) := by decide +kernel
theorem dX10_init_164 : decode cX10_init 164 = .ok (.newarray .long, 2) := by decide +kernel
theorem dX10_init_166 : decode cX10_init 166 = .ok (.putfield 68, 3) := by decide +kernel
theorem dX10_init_169 : decode cX10_init 169 = .ok (.aload_n 0, 1) := by decide +kernel
theorem dX10_init_170 : decode cX10_init 170 = .ok (.iconst (-1), 1) := by decide +kernel
theorem dX10_init_171 : decode cX10_init 171 = .ok (.putfield 71, 3) := by decide +kernel
theorem dX10_init_174 : decode cX10_init 174 = .ok (.aload_n 0, 1) := by decide +kernel
theorem dX10_init_175 : decode cX10_init 175 = .ok (.sipush 600, 3) := by decide +kernel
theorem dX10_init_178 : decode cX10_init 178 = .ok (.newarray .int, 2) := by decide +kernel
theorem dX10_init_180 : decode cX10_init 180 = .ok (.putfield 75, 3) := by decide +kernel
theorem dX10_init_183 : decode cX10_init 183 = .ok (.aload_n 0, 1) := by decide +kernel
theorem dX10_init_184 : decode cX10_init 184 = .ok (.bipush 100, 2) := by decide +kernel
theorem dX10_init_186 : decode cX10_init 186 = .ok (.newarray .boolean, 2) := by decide +kernel
theorem dX10_init_188 : decode cX10_init 188 = .ok (.putfield 78, 3) := by decide +kernel
theorem dX10_init_191 : decode cX10_init 191 = .ok (.aload_n 0, 1) := by decide +kernel
theorem dX10_init_192 : decode cX10_init 192 = .ok (.bipush 100, 2) := by decide +kernel
theorem dX10_init_194 : decode cX10_init 194 = .ok (.newarray .int, 2) := by decide +kernel
theorem dX10_init_196 : decode cX10_init 196 = .ok (.putfield 82, 3) := by decide +kernel
theorem dX10_init_199 : decode cX10_init 199 = .ok (.aload_n 0, 1) := by decide +kernel
theorem dX10_init_200 : decode cX10_init 200 = .ok (.sipush 1600, 3) := by decide +kernel
theorem dX10_init_203 : decode cX10_init 203 = .ok (.newarray .int, 2) := by decide +kernel
theorem dX10_init_205 : decode cX10_init 205 = .ok (.putfield 85, 3) := by decide +kernel
theorem dX10_init_208 : decode cX10_init 208 = .ok (.aload_n 0, 1) := by decide +kernel
theorem dX10_init_209 : decode cX10_init 209 = .ok (.sipush 4800, 3) := by decide +kernel
theorem dX10_init_212 : decode cX10_init 212 = .ok (.newarray .long, 2) := by decide +kernel
theorem dX10_init_214 : decode cX10_init 214 = .ok (.putfield 88, 3) := by decide +kernel
theorem dX10_init_217 : decode cX10_init 217 = .ok (.aload_n 0, 1) := by decide +kernel
theorem dX10_init_218 : decode cX10_init 218 = .ok (.sipush 6400, 3) := by decide +kernel
theorem dX10_init_221 : decode cX10_init 221 = .ok (.newarray .int, 2) := by decide +kernel
theorem dX10_init_223 : decode cX10_init 223 = .ok (.putfield 91, 3) := by decide +kernel
theorem dX10_init_226 : decode cX10_init 226 = .ok (.aload_n 0, 1) := by decide +kernel
theorem dX10_init_227 : decode cX10_init 227 = .ok (.bipush 64, 2) := by decide +kernel
theorem dX10_init_229 : decode cX10_init 229 = .ok (.newarray .long, 2) := by decide +kernel
theorem dX10_init_231 : decode cX10_init 231 = .ok (.putfield 94, 3) := by decide +kernel
theorem dX10_init_234 : decode cX10_init 234 = .ok (.aload_n 0, 1) := by decide +kernel
theorem dX10_init_235 : decode cX10_init 235 = .ok (.bipush 6, 2) := by decide +kernel
theorem dX10_init_237 : decode cX10_init 237 = .ok (.newarray .int, 2) := by decide +kernel
theorem dX10_init_239 : decode cX10_init 239 = .ok (.putfield 97, 3) := by decide +kernel
theorem dX10_init_242 : decode cX10_init 242 = .ok (.aload_n 0, 1) := by decide +kernel
theorem dX10_init_243 : decode cX10_init 243 = .ok (.iconst 3, 1) := by decide +kernel
theorem dX10_init_244 : decode cX10_init 244 = .ok (.newarray .int, 2) := by decide +kernel
theorem dX10_init_246 : decode cX10_init 246 = .ok (.putfield 100, 3) := by decide +kernel
theorem dX10_init_249 : decode cX10_init 249 = .ok (.aload_n 0, 1) := by decide +kernel
theorem dX10_init_250 : decode cX10_init 250 = .ok (.bipush 22, 2) := by decide +kernel
theorem dX10_init_252 : decode cX10_init 252 = .ok (.newarray .int, 2) := by decide +kernel
theorem dX10_init_254 : decode cX10_init 254 = .ok (.putfield 103, 3) := by decide +kernel
theorem dX10_init_257 : decode cX10_init 257 = .ok (.aload_n 0, 1) := by decide +kernel
theorem dX10_init_258 : decode cX10_init 258 = .ok (.ldc 106, 2) := by decide +kernel
theorem dX10_init_260 : decode cX10_init 260 = .ok (.newarray .int, 2) := by decide +kernel
theorem dX10_init_262 : decode cX10_init 262 = .ok (.putfield 107, 3) := by decide +kernel
theorem dX10_init_265 : decode cX10_init 265 = .ok (.aload_n 0, 1) := by decide +kernel
theorem dX10_init_266 : decode cX10_init 266 = .ok (.ldc 106, 2) := by decide +kernel
theorem dX10_init_268 : decode cX10_init 268 = .ok (.newarray .long, 2) := by decide +kernel
theorem dX10_init_270 : decode cX10_init 270 = .ok (.putfield 110, 3) := by decide +kernel
theorem dX10_init_273 : decode cX10_init 273 = .ok (.aload_n 0, 1) := by decide +kernel
theorem dX10_init_274 : decode cX10_init 274 = .ok (.bipush 66, 2) := by decide +kernel
theorem dX10_init_276 : decode cX10_init 276 = .ok (.newarray .long, 2) := by decide +kernel
theorem dX10_init_278 : decode cX10_init 278 = .ok (.putfield 113, 3) := by decide +kernel
theorem dX10_init_281 : decode cX10_init 281 = .ok (.aload_n 0, 1) := by decide +kernel
theorem dX10_init_282 : decode cX10_init 282 = .ok (.bipush 22, 2) := by decide +kernel
theorem dX10_init_284 : decode cX10_init 284 = .ok (.newarray .int, 2) := by decide +kernel
theorem dX10_init_286 : decode cX10_init 286 = .ok (.putfield 116, 3) := by decide +kernel
theorem dX10_init_289 : decode cX10_init 289 = .ok (.aload_n 0, 1) := by decide +kernel
theorem dX10_init_290 : decode cX10_init 290 = .ok (.bipush 100, 2) := by decide +kernel
theorem dX10_init_292 : decode cX10_init 292 = .ok (.newarray .long, 2) := by decide +kernel
theorem dX10_init_294 : decode cX10_init 294 = .ok (.putfield 119, 3) := by decide +kernel
theorem dX10_init_297 : decode cX10_init 297 = .ok (.aload_n 0, 1) := by decide +kernel
theorem dX10_init_298 : decode cX10_init 298 = .ok (.bipush 100, 2) := by decide +kernel
theorem dX10_init_300 : decode cX10_init 300 = .ok (.newarray .long, 2) := by decide +kernel
theorem dX10_init_302 : decode cX10_init 302 = .ok (.putfield 122, 3) := by decide +kernel
theorem dX10_init_305 : decode cX10_init 305 = .ok (.aload_n 0, 1) := by decide +kernel
theorem dX10_init_306 : decode cX10_init 306 = .ok (.iconst 4, 1) := by decide +kernel
theorem dX10_init_307 : decode cX10_init 307 = .ok (.newarray .long, 2) := by decide +kernel
theorem dX10_init_309 : decode cX10_init 309 = .ok (.putfield 125, 3) := by decide +kernel
theorem dX10_init_312 : decode cX10_init 312 = .ok (.iconst 0, 1) := by decide +kernel
theorem dX10_init_313 : decode cX10_init 313 = .ok (.istore_n 1, 1) := by decide +kernel
theorem dX10_init_314 : decode cX10_init 314 = .ok (.iconst 0, 1) := by decide +kernel
theorem dX10_init_315 : decode cX10_init 315 = .ok (.istore_n 2, 1) := by decide +kernel
theorem dX10_init_316 : decode cX10_init 316 = .ok (.iload_n 2, 1) := by decide +kernel
theorem dX10_init_317 : decode cX10_init 317 = .ok (.aload_n 0, 1) := by decide +kernel
theorem dX10_init_318 : decode cX10_init 318 = .ok (.getfield 9, 3) := by decide +kernel
theorem dX10_init_321 : decode cX10_init 321 = .ok (.arraylength, 1) := by decide +kernel
theorem dX10_init_322 : decode cX10_init 322 = .ok (.if_icmp .ge 61, 3) := by decide +kernel
theorem dX10_init_325 : decode cX10_init 325 = .ok (.ldc 128, 2) := by decide +kernel
theorem dX10_init_327 : decode cX10_init 327 = .ok (.bipush 32, 2) := by decide +kernel
theorem dX10_init_329 : decode cX10_init 329 = .ok (.iload_n 1, 1) := by decide +kernel
theorem dX10_init_330 : decode cX10_init 330 = .ok (.invokevirtual 130, 3) := by decide +kernel
theorem dX10_init_333 : decode cX10_init 333 = .ok (.istore_n 3, 1) := by decide +kernel
theorem dX10_init_334 : decode cX10_init 334 = .ok (.iload_n 1, 1) := by decide +kernel
theorem dX10_init_335 : decode cX10_init 335 = .ok (.istore 4, 2) := by decide +kernel
theorem dX10_init_337 : decode cX10_init 337 = .ok (.iload 4, 2) := by decide +kernel
theorem dX10_init_339 : decode cX10_init 339 = .ok (.iload_n 3, 1) := by decide +kernel
theorem dX10_init_340 : decode cX10_init 340 = .ok (.if_icmp .ge 33, 3) := by decide +kernel
theorem dX10_init_343 : decode cX10_init 343 = .ok (.aload_n 0, 1) := by decide +kernel
theorem dX10_init_344 : decode cX10_init 344 = .ok (.getfield 9, 3) := by decide +kernel
theorem dX10_init_347 : decode cX10_init 347 = .ok (.iload_n 2, 1) := by decide +kernel
theorem dX10_init_348 : decode cX10_init 348 = .ok (.aload_n 0, 1) := by decide +kernel
theorem dX10_init_349 : decode cX10_init 349 = .ok (.getfield 9, 3) := by decide +kernel
theorem dX10_init_352 : decode cX10_init 352 = .ok (.iload_n 2, 1) := by decide +kernel
theorem dX10_init_353 : decode cX10_init 353 = .ok (.laload, 1) := by decide +kernel
theorem dX10_init_354 : decode cX10_init 354 = .ok (.bipush 8, 2) := by decide +kernel
theorem dX10_init_356 : decode cX10_init 356 = .ok (.lshl, 1) := by decide +kernel
theorem dX10_init_357 : decode cX10_init 357 = .ok (.ldc 128, 2) := by decide +kernel
theorem dX10_init_359 : decode cX10_init 359 = .ok (.iload 4, 2) := by decide +kernel
theorem dX10_init_361 : decode cX10_init 361 = .ok (.invokevirtual 136, 3) := by decide +kernel
theorem dX10_init_364 : decode cX10_init 364 = .ok (.i2l, 1) := by decide +kernel
theorem dX10_init_365 : decode cX10_init 365 = .ok (.lor, 1) := by decide +kernel
theorem dX10_init_366 : decode cX10_init 366 = .ok (.lastore, 1) := by decide +kernel
theorem dX10_init_367 : decode cX10_init 367 = .ok (.iinc 4 1, 3) := by decide +kernel
theorem dX10_init_370 : decode cX10_init 370 = .ok (.goto (-33), 3) := by decide +kernel
theorem dX10_init_373 : decode cX10_init 373 = .ok (.iload_n 3, 1) := by decide +kernel
theorem dX10_init_374 : decode cX10_init 374 = .ok (.iconst 1, 1) := by decide +kernel
theorem dX10_init_375 : decode cX10_init 375 = .ok (.iadd, 1) := by decide +kernel
theorem dX10_init_376 : decode cX10_init 376 = .ok (.istore_n 1, 1) := by decide +kernel
theorem dX10_init_377 : decode cX10_init 377 = .ok (.iinc 2 1, 3) := by decide +kernel
theorem dX10_init_380 : decode cX10_init 380 = .ok (.goto (-64), 3) := by decide +kernel
theorem dX10_init_383 : decode cX10_init 383 = .ok (.return_, 1) := by decide +kernel
theorem dX10_thrown_0 : decode cX10_thrown 0 = .ok (.aload_n 0, 1) := by decide +kernel
theorem dX10_thrown_1 : decode cX10_thrown 1 = .ok (.getfield 140, 3) := by decide +kernel
theorem dX10_thrown_4 : decode cX10_thrown 4 = .ok (.ireturn, 1) := by decide +kernel
theorem dX10_fail_0 : decode cX10_fail 0 = .ok (.aload_n 0, 1) := by decide +kernel
theorem dX10_fail_1 : decode cX10_fail 1 = .ok (.iload_n 1, 1) := by decide +kernel
theorem dX10_fail_2 : decode cX10_fail 2 = .ok (.putfield 140, 3) := by decide +kernel
theorem dX10_fail_5 : decode cX10_fail 5 = .ok (.iconst 0, 1) := by decide +kernel
theorem dX10_fail_6 : decode cX10_fail 6 = .ok (.ireturn, 1) := by decide +kernel
theorem dX10_isIn_0 : decode cX10_isIn 0 = .ok (.lload_n 0, 1) := by decide +kernel
theorem dX10_isIn_1 : decode cX10_isIn 1 = .ok (.lload_n 2, 1) := by decide +kernel
theorem dX10_isIn_2 : decode cX10_isIn 2 = .ok (.lcmp, 1) := by decide +kernel
theorem dX10_isIn_3 : decode cX10_isIn 3 = .ok (.ifCond .lt 14, 3) := by decide +kernel
theorem dX10_isIn_6 : decode cX10_isIn 6 = .ok (.lload_n 0, 1) := by decide +kernel
theorem dX10_isIn_7 : decode cX10_isIn 7 = .ok (.lload 4, 2) := by decide +kernel
theorem dX10_isIn_9 : decode cX10_isIn 9 = .ok (.lcmp, 1) := by decide +kernel
theorem dX10_isIn_10 : decode cX10_isIn 10 = .ok (.ifCond .gt 7, 3) := by decide +kernel
theorem dX10_isIn_13 : decode cX10_isIn 13 = .ok (.iconst 1, 1) := by decide +kernel
theorem dX10_isIn_14 : decode cX10_isIn 14 = .ok (.goto 4, 3) := by decide +kernel
theorem dX10_isIn_17 : decode cX10_isIn 17 = .ok (.iconst 0, 1) := by decide +kernel
theorem dX10_isIn_18 : decode cX10_isIn 18 = .ok (.ireturn, 1) := by decide +kernel
theorem dX10_indexOf_0 : decode cX10_indexOf 0 = .ok (.iconst 0, 1) := by decide +kernel
theorem dX10_indexOf_1 : decode cX10_indexOf 1 = .ok (.istore 4, 2) := by decide +kernel
theorem dX10_indexOf_3 : decode cX10_indexOf 3 = .ok (.iload 4, 2) := by decide +kernel
theorem dX10_indexOf_5 : decode cX10_indexOf 5 = .ok (.iload_n 1, 1) := by decide +kernel
theorem dX10_indexOf_6 : decode cX10_indexOf 6 = .ok (.if_icmp .ge 21, 3) := by decide +kernel
theorem dX10_indexOf_9 : decode cX10_indexOf 9 = .ok (.aload_n 0, 1) := by decide +kernel
theorem dX10_indexOf_10 : decode cX10_indexOf 10 = .ok (.iload 4, 2) := by decide +kernel
theorem dX10_indexOf_12 : decode cX10_indexOf 12 = .ok (.laload, 1) := by decide +kernel
theorem dX10_indexOf_13 : decode cX10_indexOf 13 = .ok (.lload_n 2, 1) := by decide +kernel
theorem dX10_indexOf_14 : decode cX10_indexOf 14 = .ok (.lcmp, 1) := by decide +kernel
theorem dX10_indexOf_15 : decode cX10_indexOf 15 = .ok (.ifCond .ne 6, 3) := by decide +kernel
theorem dX10_indexOf_18 : decode cX10_indexOf 18 = .ok (.iload 4, 2) := by decide +kernel
theorem dX10_indexOf_20 : decode cX10_indexOf 20 = .ok (.ireturn, 1) := by decide +kernel
theorem dX10_indexOf_21 : decode cX10_indexOf 21 = .ok (.iinc 4 1, 3) := by decide +kernel
theorem dX10_indexOf_24 : decode cX10_indexOf 24 = .ok (.goto (-21), 3) := by decide +kernel
theorem dX10_indexOf_27 : decode cX10_indexOf 27 = .ok (.iconst (-1), 1) := by decide +kernel
theorem dX10_indexOf_28 : decode cX10_indexOf 28 = .ok (.ireturn, 1) := by decide +kernel
theorem dX10_feed_0 : decode cX10_feed 0 = .ok (.aload_n 0, 1) := by decide +kernel
theorem dX10_feed_1 : decode cX10_feed 1 = .ok (.iconst 0, 1) := by decide +kernel
theorem dX10_feed_2 : decode cX10_feed 2 = .ok (.putfield 140, 3) := by decide +kernel
theorem dX10_feed_5 : decode cX10_feed 5 = .ok (.aload_n 0, 1) := by decide +kernel
theorem dX10_feed_6 : decode cX10_feed 6 = .ok (.getfield 143, 3) := by decide +kernel
theorem dX10_feed_9 : decode cX10_feed 9 = .ok (.bipush 20, 2) := by decide +kernel
theorem dX10_feed_11 : decode cX10_feed 11 = .ok (.iadd, 1) := by decide +kernel
theorem dX10_feed_12 : decode cX10_feed 12 = .ok (.sipush 1500, 3) := by decide +kernel
theorem dX10_feed_15 : decode cX10_feed 15 = .ok (.if_icmp .le 9, 3) := by decide +kernel
theorem dX10_feed_18 : decode cX10_feed 18 = .ok (.aload_n 0, 1) := by decide +kernel
theorem dX10_feed_19 : decode cX10_feed 19 = .ok (.iconst 1, 1) := by decide +kernel
theorem dX10_feed_20 : decode cX10_feed 20 = .ok (.invokevirtual 146, 3) := by decide +kernel
theorem dX10_feed_23 : decode cX10_feed 23 = .ok (.ireturn, 1) := by decide +kernel
theorem dX10_feed_24 : decode cX10_feed 24 = .ok (.aload_n 0, 1) := by decide +kernel
theorem dX10_feed_25 : decode cX10_feed 25 = .ok (.iload_n 1, 1) := by decide +kernel
theorem dX10_feed_26 : decode cX10_feed 26 = .ok (.invokevirtual 150, 3) := by decide +kernel
theorem dX10_feed_29 : decode cX10_feed 29 = .ok (.aload_n 0, 1) := by decide +kernel
theorem dX10_feed_30 : decode cX10_feed 30 = .ok (.iload_n 2, 1) := by decide +kernel
theorem dX10_feed_31 : decode cX10_feed 31 = .ok (.invokevirtual 150, 3) := by decide +kernel
theorem dX10_feed_34 : decode cX10_feed 34 = .ok (.aload_n 0, 1) := by decide +kernel
theorem dX10_feed_35 : decode cX10_feed 35 = .ok (.iload_n 3, 1) := by decide +kernel
theorem dX10_feed_36 : decode cX10_feed 36 = .ok (.invokevirtual 150, 3) := by decide +kernel
theorem dX10_feed_39 : decode cX10_feed 39 = .ok (.aload_n 0, 1) := by decide +kernel
theorem dX10_feed_40 : decode cX10_feed 40 = .ok (.iload 4, 2) := by decide +kernel
theorem dX10_feed_42 : decode cX10_feed 42 = .ok (.invokevirtual 150, 3) := by decide +kernel
theorem dX10_feed_45 : decode cX10_feed 45 = .ok (.aload_n 0, 1) := by decide +kernel
theorem dX10_feed_46 : decode cX10_feed 46 = .ok (.iload 5, 2) := by decide +kernel
theorem dX10_feed_48 : decode cX10_feed 48 = .ok (.invokevirtual 150, 3) := by decide +kernel
theorem dX10_feed_51 : decode cX10_feed 51 = .ok (.aload_n 0, 1) := by decide +kernel
theorem dX10_feed_52 : decode cX10_feed 52 = .ok (.getfield 143, 3) := by decide +kernel
theorem dX10_feed_55 : decode cX10_feed 55 = .ok (.ireturn, 1) := by decide +kernel
theorem dX10_four_0 : decode cX10_four 0 = .ok (.bipush 24, 2) := by decide +kernel
theorem dX10_four_2 : decode cX10_four 2 = .ok (.istore_n 2, 1) := by decide +kernel
theorem dX10_four_3 : decode cX10_four 3 = .ok (.iload_n 2, 1) := by decide +kernel
theorem dX10_four_4 : decode cX10_four 4 = .ok (.ifCond .lt 35, 3) := by decide +kernel
theorem dX10_four_7 : decode cX10_four 7 = .ok (.aload_n 0, 1) := by decide +kernel
theorem dX10_four_8 : decode cX10_four 8 = .ok (.getfield 13, 3) := by decide +kernel
theorem dX10_four_11 : decode cX10_four 11 = .ok (.aload_n 0, 1) := by decide +kernel
theorem dX10_four_12 : decode cX10_four 12 = .ok (.getfield 143, 3) := by decide +kernel
theorem dX10_four_15 : decode cX10_four 15 = .ok (.iload_n 1, 1) := by decide +kernel
theorem dX10_four_16 : decode cX10_four 16 = .ok (.iload_n 2, 1) := by decide +kernel
theorem dX10_four_17 : decode cX10_four 17 = .ok (.ishr, 1) := by decide +kernel
theorem dX10_four_18 : decode cX10_four 18 = .ok (.sipush 255, 3) := by decide +kernel
theorem dX10_four_21 : decode cX10_four 21 = .ok (.iand, 1) := by decide +kernel
theorem dX10_four_22 : decode cX10_four 22 = .ok (.iastore, 1) := by decide +kernel
theorem dX10_four_23 : decode cX10_four 23 = .ok (.aload_n 0, 1) := by decide +kernel
theorem dX10_four_24 : decode cX10_four 24 = .ok (.dup, 1) := by decide +kernel
theorem dX10_four_25 : decode cX10_four 25 = .ok (.getfield 143, 3) := by decide +kernel
theorem dX10_four_28 : decode cX10_four 28 = .ok (.iconst 1, 1) := by decide +kernel
theorem dX10_four_29 : decode cX10_four 29 = .ok (.iadd, 1) := by decide +kernel
theorem dX10_four_30 : decode cX10_four 30 = .ok (.putfield 143, 3) := by decide +kernel
theorem dX10_four_33 : decode cX10_four 33 = .ok (.iinc 2 (-8), 3) := by decide +kernel
theorem dX10_four_36 : decode cX10_four 36 = .ok (.goto (-33), 3) := by decide +kernel
theorem dX10_four_39 : decode cX10_four 39 = .ok (.return_, 1) := by decide +kernel
theorem dX10_trim_0 : decode cX10_trim 0 = .ok (.aload_n 0, 1) := by decide +kernel
theorem dX10_trim_1 : decode cX10_trim 1 = .ok (.iconst 0, 1) := by decide +kernel
theorem dX10_trim_2 : decode cX10_trim 2 = .ok (.putfield 140, 3) := by decide +kernel
theorem dX10_trim_5 : decode cX10_trim 5 = .ok (.iload_n 1, 1) := by decide +kernel
theorem dX10_trim_6 : decode cX10_trim 6 = .ok (.i2l, 1) := by decide +kernel
theorem dX10_trim_7 : decode cX10_trim 7 = .ok (.lconst 0, 1) := by decide +kernel
theorem dX10_trim_8 : decode cX10_trim 8 = .ok (.aload_n 0, 1) := by decide +kernel
theorem dX10_trim_9 : decode cX10_trim 9 = .ok (.getfield 143, 3) := by decide +kernel
theorem dX10_trim_12 : decode cX10_trim 12 = .ok (.i2l, 1) := by decide +kernel
theorem dX10_trim_13 : decode cX10_trim 13 = .ok (.invokestatic 154, 3) := by decide +kernel
theorem dX10_trim_16 : decode cX10_trim 16 = .ok (.ifCond .ne 9, 3) := by decide +kernel
theorem dX10_trim_19 : decode cX10_trim 19 = .ok (.aload_n 0, 1) := by decide +kernel
theorem dX10_trim_20 : decode cX10_trim 20 = .ok (.iconst 1, 1) := by decide +kernel
theorem dX10_trim_21 : decode cX10_trim 21 = .ok (.invokevirtual 146, 3) := by decide +kernel
theorem dX10_trim_24 : decode cX10_trim 24 = .ok (.ireturn, 1) := by decide +kernel
theorem dX10_trim_25 : decode cX10_trim 25 = .ok (.aload_n 0, 1) := by decide +kernel
theorem dX10_trim_26 : decode cX10_trim 26 = .ok (.iload_n 1, 1) := by decide +kernel
theorem dX10_trim_27 : decode cX10_trim 27 = .ok (.putfield 143, 3) := by decide +kernel
theorem dX10_trim_30 : decode cX10_trim 30 = .ok (.iload_n 1, 1) := by decide +kernel
theorem dX10_trim_31 : decode cX10_trim 31 = .ok (.ireturn, 1) := by decide +kernel
theorem dX10_byteAt_0 : decode cX10_byteAt 0 = .ok (.iload_n 1, 1) := by decide +kernel
theorem dX10_byteAt_1 : decode cX10_byteAt 1 = .ok (.aload_n 0, 1) := by decide +kernel
theorem dX10_byteAt_2 : decode cX10_byteAt 2 = .ok (.getfield 143, 3) := by decide +kernel
theorem dX10_byteAt_5 : decode cX10_byteAt 5 = .ok (.if_icmp .ge 12, 3) := by decide +kernel
theorem dX10_byteAt_8 : decode cX10_byteAt 8 = .ok (.aload_n 0, 1) := by decide +kernel
theorem dX10_byteAt_9 : decode cX10_byteAt 9 = .ok (.getfield 13, 3) := by decide +kernel
theorem dX10_byteAt_12 : decode cX10_byteAt 12 = .ok (.iload_n 1, 1) := by decide +kernel
theorem dX10_byteAt_13 : decode cX10_byteAt 13 = .ok (.iaload, 1) := by decide +kernel
theorem dX10_byteAt_14 : decode cX10_byteAt 14 = .ok (.goto 4, 3) := by decide +kernel
theorem dX10_byteAt_17 : decode cX10_byteAt 17 = .ok (.iconst (-1), 1) := by decide +kernel
theorem dX10_byteAt_18 : decode cX10_byteAt 18 = .ok (.ireturn, 1) := by decide +kernel
theorem dX10_isLetter_0 : decode cX10_isLetter 0 = .ok (.iload_n 0, 1) := by decide +kernel
theorem dX10_isLetter_1 : decode cX10_isLetter 1 = .ok (.i2l, 1) := by decide +kernel
theorem dX10_isLetter_2 : decode cX10_isLetter 2 = .ok (.ldc2_w 158, 3) := by decide +kernel
theorem dX10_isLetter_5 : decode cX10_isLetter 5 = .ok (.ldc2_w 160, 3) := by decide +kernel
theorem dX10_isLetter_8 : decode cX10_isLetter 8 = .ok (.invokestatic 154, 3) := by decide +kernel
theorem dX10_isLetter_11 : decode cX10_isLetter 11 = .ok (.ireturn, 1) := by decide +kernel
theorem dX10_isDigit_0 : decode cX10_isDigit 0 = .ok (.iload_n 0, 1) := by decide +kernel
theorem dX10_isDigit_1 : decode cX10_isDigit 1 = .ok (.i2l, 1) := by decide +kernel
theorem dX10_isDigit_2 : decode cX10_isDigit 2 = .ok (.ldc2_w 162, 3) := by decide +kernel
theorem dX10_isDigit_5 : decode cX10_isDigit 5 = .ok (.ldc2_w 164, 3) := by decide +kernel
theorem dX10_isDigit_8 : decode cX10_isDigit 8 = .ok (.invokestatic 154, 3) := by decide +kernel
theorem dX10_isDigit_11 : decode cX10_isDigit 11 = .ok (.ireturn, 1) := by decide +kernel
theorem dX10_token_0 : decode cX10_token 0 = .ok (.aload_n 0, 1) := by decide +kernel
theorem dX10_token_1 : decode cX10_token 1 = .ok (.getfield 17, 3) := by decide +kernel
theorem dX10_token_4 : decode cX10_token 4 = .ok (.aload_n 0, 1) := by decide +kernel
theorem dX10_token_5 : decode cX10_token 5 = .ok (.getfield 166, 3) := by decide +kernel
theorem dX10_token_8 : decode cX10_token 8 = .ok (.iload_n 1, 1) := by decide +kernel
theorem dX10_token_9 : decode cX10_token 9 = .ok (.iastore, 1) := by decide +kernel
theorem dX10_token_10 : decode cX10_token 10 = .ok (.aload_n 0, 1) := by decide +kernel
theorem dX10_token_11 : decode cX10_token 11 = .ok (.getfield 20, 3) := by decide +kernel
theorem dX10_token_14 : decode cX10_token 14 = .ok (.aload_n 0, 1) := by decide +kernel
theorem dX10_token_15 : decode cX10_token 15 = .ok (.getfield 166, 3) := by decide +kernel
theorem dX10_token_18 : decode cX10_token 18 = .ok (.iload_n 2, 1) := by decide +kernel
theorem dX10_token_19 : decode cX10_token 19 = .ok (.iastore, 1) := by decide +kernel
theorem dX10_token_20 : decode cX10_token 20 = .ok (.aload_n 0, 1) := by decide +kernel
theorem dX10_token_21 : decode cX10_token 21 = .ok (.getfield 23, 3) := by decide +kernel
theorem dX10_token_24 : decode cX10_token 24 = .ok (.aload_n 0, 1) := by decide +kernel
theorem dX10_token_25 : decode cX10_token 25 = .ok (.getfield 166, 3) := by decide +kernel
theorem dX10_token_28 : decode cX10_token 28 = .ok (.lload_n 3, 1) := by decide +kernel
theorem dX10_token_29 : decode cX10_token 29 = .ok (.lastore, 1) := by decide +kernel
theorem dX10_token_30 : decode cX10_token 30 = .ok (.aload_n 0, 1) := by decide +kernel
theorem dX10_token_31 : decode cX10_token 31 = .ok (.dup, 1) := by decide +kernel
theorem dX10_token_32 : decode cX10_token 32 = .ok (.getfield 166, 3) := by decide +kernel
theorem dX10_token_35 : decode cX10_token 35 = .ok (.iconst 1, 1) := by decide +kernel
theorem dX10_token_36 : decode cX10_token 36 = .ok (.iadd, 1) := by decide +kernel
theorem dX10_token_37 : decode cX10_token 37 = .ok (.putfield 166, 3) := by decide +kernel
theorem dX10_token_40 : decode cX10_token 40 = .ok (.return_, 1) := by decide +kernel
theorem dX10_cutTokens_0 : decode cX10_cutTokens 0 = .ok (.aload_n 0, 1) := by decide +kernel
theorem dX10_cutTokens_1 : decode cX10_cutTokens 1 = .ok (.iconst 0, 1) := by decide +kernel
theorem dX10_cutTokens_2 : decode cX10_cutTokens 2 = .ok (.putfield 166, 3) := by decide +kernel
theorem dX10_cutTokens_5 : decode cX10_cutTokens 5 = .ok (.iconst 0, 1) := by decide +kernel
theorem dX10_cutTokens_6 : decode cX10_cutTokens 6 = .ok (.istore_n 1, 1) := by decide +kernel
theorem dX10_cutTokens_7 : decode cX10_cutTokens 7 = .ok (.aload_n 0, 1) := by decide +kernel
theorem dX10_cutTokens_8 : decode cX10_cutTokens 8 = .ok (.getfield 166, 3) := by decide +kernel
theorem dX10_cutTokens_11 : decode cX10_cutTokens 11 = .ok (.ifCond .eq 20, 3) := by decide +kernel
theorem dX10_cutTokens_14 : decode cX10_cutTokens 14 = .ok (.aload_n 0, 1) := by decide +kernel
theorem dX10_cutTokens_15 : decode cX10_cutTokens 15 = .ok (.getfield 17, 3) := by decide +kernel
theorem dX10_cutTokens_18 : decode cX10_cutTokens 18 = .ok (.aload_n 0, 1) := by decide +kernel
theorem dX10_cutTokens_19 : decode cX10_cutTokens 19 = .ok (.getfield 166, 3) := by decide +kernel
theorem dX10_cutTokens_22 : decode cX10_cutTokens 22 = .ok (.iconst 1, 1) := by decide +kernel
theorem dX10_cutTokens_23 : decode cX10_cutTokens 23 = .ok (.isub, 1) := by decide +kernel
theorem dX10_cutTokens_24 : decode cX10_cutTokens 24 = .ok (.iaload, 1) := by decide +kernel
theorem dX10_cutTokens_25 : decode cX10_cutTokens 25 = .ok (.sipush 202, 3) := by decide +kernel
theorem dX10_cutTokens_28 : decode cX10_cutTokens 28 = .ok (.if_icmp .ge 254, 3) := by decide +kernel
theorem dX10_cutTokens_31 : decode cX10_cutTokens 31 = .ok (.aload_n 0, 1) := by decide +kernel
theorem dX10_cutTokens_32 : decode cX10_cutTokens 32 = .ok (.iload_n 1, 1) := by decide +kernel
theorem dX10_cutTokens_33 : decode cX10_cutTokens 33 = .ok (.invokevirtual 169, 3) := by decide +kernel
theorem dX10_cutTokens_36 : decode cX10_cutTokens 36 = .ok (.bipush 32, 2) := by decide +kernel
theorem dX10_cutTokens_38 : decode cX10_cutTokens 38 = .ok (.if_icmp .eq 13, 3) := by decide +kernel
theorem dX10_cutTokens_41 : decode cX10_cutTokens 41 = .ok (.aload_n 0, 1) := by decide +kernel
theorem dX10_cutTokens_42 : decode cX10_cutTokens 42 = .ok (.iload_n 1, 1) := by decide +kernel
theorem dX10_cutTokens_43 : decode cX10_cutTokens 43 = .ok (.invokevirtual 169, 3) := by decide +kernel
theorem dX10_cutTokens_46 : decode cX10_cutTokens 46 = .ok (.bipush 10, 2) := by decide +kernel
theorem dX10_cutTokens_48 : decode cX10_cutTokens 48 = .ok (.if_icmp .ne 9, 3) := by decide +kernel
theorem dX10_cutTokens_51 : decode cX10_cutTokens 51 = .ok (.iinc 1 1, 3) := by decide +kernel
theorem dX10_cutTokens_54 : decode cX10_cutTokens 54 = .ok (.goto (-23), 3) := by decide +kernel
theorem dX10_cutTokens_57 : decode cX10_cutTokens 57 = .ok (.aload_n 0, 1) := by decide +kernel
theorem dX10_cutTokens_58 : decode cX10_cutTokens 58 = .ok (.iload_n 1, 1) := by decide +kernel
theorem dX10_cutTokens_59 : decode cX10_cutTokens 59 = .ok (.invokevirtual 169, 3) := by decide +kernel
theorem dX10_cutTokens_62 : decode cX10_cutTokens 62 = .ok (.istore_n 2, 1) := by decide +kernel
theorem dX10_cutTokens_63 : decode cX10_cutTokens 63 = .ok (.iload_n 1, 1) := by decide +kernel
theorem dX10_cutTokens_64 : decode cX10_cutTokens 64 = .ok (.istore_n 3, 1) := by decide +kernel
theorem dX10_cutTokens_65 : decode cX10_cutTokens 65 = .ok (.lconst 0, 1) := by decide +kernel
theorem dX10_cutTokens_66 : decode cX10_cutTokens 66 = .ok (.lstore 4, 2) := by decide +kernel
theorem dX10_cutTokens_68 : decode cX10_cutTokens 68 = .ok (.iload_n 2, 1) := by decide +kernel
theorem dX10_cutTokens_69 : decode cX10_cutTokens 69 = .ok (.iconst (-1), 1) := by decide +kernel
theorem dX10_cutTokens_70 : decode cX10_cutTokens 70 = .ok (.if_icmp .ne 18, 3) := by decide +kernel
theorem dX10_cutTokens_73 : decode cX10_cutTokens 73 = .ok (.aload_n 0, 1) := by decide +kernel
theorem dX10_cutTokens_74 : decode cX10_cutTokens 74 = .ok (.sipush 202, 3) := by decide +kernel
theorem dX10_cutTokens_77 : decode cX10_cutTokens 77 = .ok (.aload_n 0, 1) := by decide +kernel
theorem dX10_cutTokens_78 : decode cX10_cutTokens 78 = .ok (.getfield 143, 3) := by decide +kernel
theorem dX10_cutTokens_81 : decode cX10_cutTokens 81 = .ok (.lconst 0, 1) := by decide +kernel
theorem dX10_cutTokens_82 : decode cX10_cutTokens 82 = .ok (.invokevirtual 172, 3) := by decide +kernel
theorem dX10_cutTokens_85 : decode cX10_cutTokens 85 = .ok (.goto 194, 3) := by decide +kernel
theorem dX10_cutTokens_88 : decode cX10_cutTokens 88 = .ok (.iload_n 2, 1) := by decide +kernel
theorem dX10_cutTokens_89 : decode cX10_cutTokens 89 = .ok (.invokestatic 176, 3) := by decide +kernel
theorem dX10_cutTokens_92 : decode cX10_cutTokens 92 = .ok (.ifCond .eq 99, 3) := by decide +kernel
theorem dX10_cutTokens_95 : decode cX10_cutTokens 95 = .ok (.aload_n 0, 1) := by decide +kernel
theorem dX10_cutTokens_96 : decode cX10_cutTokens 96 = .ok (.iload_n 1, 1) := by decide +kernel
theorem dX10_cutTokens_97 : decode cX10_cutTokens 97 = .ok (.invokevirtual 169, 3) := by decide +kernel
theorem dX10_cutTokens_100 : decode cX10_cutTokens 100 = .ok (.invokestatic 176, 3) := by decide +kernel
theorem dX10_cutTokens_103 : decode cX10_cutTokens 103 = .ok (.ifCond .ne 14, 3) := by decide +kernel
theorem dX10_cutTokens_106 : decode cX10_cutTokens 106 = .ok (.aload_n 0, 1) := by decide +kernel
theorem dX10_cutTokens_107 : decode cX10_cutTokens 107 = .ok (.iload_n 1, 1) := by decide +kernel
theorem dX10_cutTokens_108 : decode cX10_cutTokens 108 = .ok (.invokevirtual 169, 3) := by decide +kernel
theorem dX10_cutTokens_111 : decode cX10_cutTokens 111 = .ok (.invokestatic 180, 3) := by decide +kernel
theorem dX10_cutTokens_114 : decode cX10_cutTokens 114 = .ok (.ifCond .eq 23, 3) := by decide +kernel
theorem dX10_cutTokens_117 : decode cX10_cutTokens 117 = .ok (.lload 4, 2) := by decide +kernel
theorem dX10_cutTokens_119 : decode cX10_cutTokens 119 = .ok (.bipush 8, 2) := by decide +kernel
theorem dX10_cutTokens_121 : decode cX10_cutTokens 121 = .ok (.lshl, 1) := by decide +kernel
theorem dX10_cutTokens_122 : decode cX10_cutTokens 122 = .ok (.aload_n 0, 1) := by decide +kernel
theorem dX10_cutTokens_123 : decode cX10_cutTokens 123 = .ok (.iload_n 1, 1) := by decide +kernel
theorem dX10_cutTokens_124 : decode cX10_cutTokens 124 = .ok (.invokevirtual 169, 3) := by decide +kernel
theorem dX10_cutTokens_127 : decode cX10_cutTokens 127 = .ok (.i2l, 1) := by decide +kernel
theorem dX10_cutTokens_128 : decode cX10_cutTokens 128 = .ok (.lor, 1) := by decide +kernel
theorem dX10_cutTokens_129 : decode cX10_cutTokens 129 = .ok (.lstore 4, 2) := by decide +kernel
theorem dX10_cutTokens_131 : decode cX10_cutTokens 131 = .ok (.iinc 1 1, 3) := by decide +kernel
theorem dX10_cutTokens_134 : decode cX10_cutTokens 134 = .ok (.goto (-39), 3) := by decide +kernel
theorem dX10_cutTokens_137 : decode cX10_cutTokens 137 = .ok (.aload_n 0, 1) := by decide +kernel
theorem dX10_cutTokens_138 : decode cX10_cutTokens 138 = .ok (.getfield 9, 3) := by decide +kernel
theorem dX10_cutTokens_141 : decode cX10_cutTokens 141 = .ok (.aload_n 0, 1) := by decide +kernel
theorem dX10_cutTokens_142 : decode cX10_cutTokens 142 = .ok (.getfield 9, 3) := by decide +kernel
theorem dX10_cutTokens_145 : decode cX10_cutTokens 145 = .ok (.arraylength, 1) := by decide +kernel
theorem dX10_cutTokens_146 : decode cX10_cutTokens 146 = .ok (.lload 4, 2) := by decide +kernel
theorem dX10_cutTokens_148 : decode cX10_cutTokens 148 = .ok (.invokestatic 183, 3) := by decide +kernel
theorem dX10_cutTokens_151 : decode cX10_cutTokens 151 = .ok (.istore 6, 2) := by decide +kernel
theorem dX10_cutTokens_153 : decode cX10_cutTokens 153 = .ok (.aload_n 0, 1) := by decide +kernel
theorem dX10_cutTokens_154 : decode cX10_cutTokens 154 = .ok (.iload_n 1, 1) := by decide +kernel
theorem dX10_cutTokens_155 : decode cX10_cutTokens 155 = .ok (.iload_n 3, 1) := by decide +kernel
theorem dX10_cutTokens_156 : decode cX10_cutTokens 156 = .ok (.isub, 1) := by decide +kernel
theorem dX10_cutTokens_157 : decode cX10_cutTokens 157 = .ok (.bipush 8, 2) := by decide +kernel
theorem dX10_cutTokens_159 : decode cX10_cutTokens 159 = .ok (.if_icmp .le 9, 3) := by decide +kernel
theorem dX10_cutTokens_162 : decode cX10_cutTokens 162 = .ok (.sipush 203, 3) := by decide +kernel
theorem dX10_cutTokens_165 : decode cX10_cutTokens 165 = .ok (.goto 17, 3) := by decide +kernel
theorem dX10_cutTokens_168 : decode cX10_cutTokens 168 = .ok (.iload 6, 2) := by decide +kernel
theorem dX10_cutTokens_170 : decode cX10_cutTokens 170 = .ok (.iconst (-1), 1) := by decide +kernel
theorem dX10_cutTokens_171 : decode cX10_cutTokens 171 = .ok (.if_icmp .ne 9, 3) := by decide +kernel
theorem dX10_cutTokens_174 : decode cX10_cutTokens 174 = .ok (.sipush 200, 3) := by decide +kernel
theorem dX10_cutTokens_177 : decode cX10_cutTokens 177 = .ok (.goto 5, 3) := by decide +kernel
theorem dX10_cutTokens_180 : decode cX10_cutTokens 180 = .ok (.iload 6, 2) := by decide +kernel
theorem dX10_cutTokens_182 : decode cX10_cutTokens 182 = .ok (.iload_n 3, 1) := by decide +kernel
theorem dX10_cutTokens_183 : decode cX10_cutTokens 183 = .ok (.lload 4, 2) := by decide +kernel
theorem dX10_cutTokens_185 : decode cX10_cutTokens 185 = .ok (.invokevirtual 172, 3) := by decide +kernel
theorem dX10_cutTokens_188 : decode cX10_cutTokens 188 = .ok (.goto 91, 3) := by decide +kernel
theorem dX10_cutTokens_191 : decode cX10_cutTokens 191 = .ok (.iload_n 2, 1) := by decide +kernel
theorem dX10_cutTokens_192 : decode cX10_cutTokens 192 = .ok (.invokestatic 180, 3) := by decide +kernel
theorem dX10_cutTokens_195 : decode cX10_cutTokens 195 = .ok (.ifCond .eq 78, 3) := by decide +kernel
theorem dX10_cutTokens_198 : decode cX10_cutTokens 198 = .ok (.aload_n 0, 1) := by decide +kernel
theorem dX10_cutTokens_199 : decode cX10_cutTokens 199 = .ok (.iload_n 1, 1) := by decide +kernel
theorem dX10_cutTokens_200 : decode cX10_cutTokens 200 = .ok (.invokevirtual 169, 3) := by decide +kernel
theorem dX10_cutTokens_203 : decode cX10_cutTokens 203 = .ok (.invokestatic 180, 3) := by decide +kernel
theorem dX10_cutTokens_206 : decode cX10_cutTokens 206 = .ok (.ifCond .eq 40, 3) := by decide +kernel
theorem dX10_cutTokens_209 : decode cX10_cutTokens 209 = .ok (.iload_n 1, 1) := by decide +kernel
theorem dX10_cutTokens_210 : decode cX10_cutTokens 210 = .ok (.iload_n 3, 1) := by decide +kernel
theorem dX10_cutTokens_211 : decode cX10_cutTokens 211 = .ok (.isub, 1) := by decide +kernel
theorem dX10_cutTokens_212 : decode cX10_cutTokens 212 = .ok (.bipush 6, 2) := by decide +kernel
theorem dX10_cutTokens_214 : decode cX10_cutTokens 214 = .ok (.if_icmp .ge 23, 3) := by decide +kernel
theorem dX10_cutTokens_217 : decode cX10_cutTokens 217 = .ok (.ldc2_w 186, 3) := by decide +kernel
theorem dX10_cutTokens_220 : decode cX10_cutTokens 220 = .ok (.lload 4, 2) := by decide +kernel
theorem dX10_cutTokens_222 : decode cX10_cutTokens 222 = .ok (.lmul, 1) := by decide +kernel
theorem dX10_cutTokens_223 : decode cX10_cutTokens 223 = .ok (.aload_n 0, 1) := by decide +kernel
theorem dX10_cutTokens_224 : decode cX10_cutTokens 224 = .ok (.iload_n 1, 1) := by decide +kernel
theorem dX10_cutTokens_225 : decode cX10_cutTokens 225 = .ok (.invokevirtual 169, 3) := by decide +kernel
theorem dX10_cutTokens_228 : decode cX10_cutTokens 228 = .ok (.i2l, 1) := by decide +kernel
theorem dX10_cutTokens_229 : decode cX10_cutTokens 229 = .ok (.ladd, 1) := by decide +kernel
theorem dX10_cutTokens_230 : decode cX10_cutTokens 230 = .ok (.ldc2_w 162, 3) := by decide +kernel
theorem dX10_cutTokens_233 : decode cX10_cutTokens 233 = .ok (.lsub, 1) := by decide +kernel
theorem dX10_cutTokens_234 : decode cX10_cutTokens 234 = .ok (.goto 4, 3) := by decide +kernel
theorem dX10_cutTokens_237 : decode cX10_cutTokens 237 = .ok (.lconst 0, 1) := by decide +kernel
theorem dX10_cutTokens_238 : decode cX10_cutTokens 238 = .ok (.lstore 4, 2) := by decide +kernel
theorem dX10_cutTokens_240 : decode cX10_cutTokens 240 = .ok (.iinc 1 1, 3) := by decide +kernel
theorem dX10_cutTokens_243 : decode cX10_cutTokens 243 = .ok (.goto (-45), 3) := by decide +kernel
theorem dX10_cutTokens_246 : decode cX10_cutTokens 246 = .ok (.aload_n 0, 1) := by decide +kernel
theorem dX10_cutTokens_247 : decode cX10_cutTokens 247 = .ok (.iload_n 1, 1) := by decide +kernel
theorem dX10_cutTokens_248 : decode cX10_cutTokens 248 = .ok (.iload_n 3, 1) := by decide +kernel
theorem dX10_cutTokens_249 : decode cX10_cutTokens 249 = .ok (.isub, 1) := by decide +kernel
theorem dX10_cutTokens_250 : decode cX10_cutTokens 250 = .ok (.bipush 6, 2) := by decide +kernel
theorem dX10_cutTokens_252 : decode cX10_cutTokens 252 = .ok (.if_icmp .le 9, 3) := by decide +kernel
theorem dX10_cutTokens_255 : decode cX10_cutTokens 255 = .ok (.sipush 203, 3) := by decide +kernel
theorem dX10_cutTokens_258 : decode cX10_cutTokens 258 = .ok (.goto 6, 3) := by decide +kernel
theorem dX10_cutTokens_261 : decode cX10_cutTokens 261 = .ok (.sipush 201, 3) := by decide +kernel
theorem dX10_cutTokens_264 : decode cX10_cutTokens 264 = .ok (.iload_n 3, 1) := by decide +kernel
theorem dX10_cutTokens_265 : decode cX10_cutTokens 265 = .ok (.lload 4, 2) := by decide +kernel
theorem dX10_cutTokens_267 : decode cX10_cutTokens 267 = .ok (.invokevirtual 172, 3) := by decide +kernel
theorem dX10_cutTokens_270 : decode cX10_cutTokens 270 = .ok (.goto 9, 3) := by decide +kernel
theorem dX10_cutTokens_273 : decode cX10_cutTokens 273 = .ok (.aload_n 0, 1) := by decide +kernel
theorem dX10_cutTokens_274 : decode cX10_cutTokens 274 = .ok (.iload_n 1, 1) := by decide +kernel
theorem dX10_cutTokens_275 : decode cX10_cutTokens 275 = .ok (.invokevirtual 188, 3) := by decide +kernel
theorem dX10_cutTokens_278 : decode cX10_cutTokens 278 = .ok (.istore_n 1, 1) := by decide +kernel
theorem dX10_cutTokens_279 : decode cX10_cutTokens 279 = .ok (.goto (-272), 3) := by decide +kernel
theorem dX10_cutTokens_282 : decode cX10_cutTokens 282 = .ok (.return_, 1) := by decide +kernel
theorem dX10_symbol_0 : decode cX10_symbol 0 = .ok (.aload_n 0, 1) := by decide +kernel
theorem dX10_symbol_1 : decode cX10_symbol 1 = .ok (.iload_n 1, 1) := by decide +kernel
theorem dX10_symbol_2 : decode cX10_symbol 2 = .ok (.invokevirtual 169, 3) := by decide +kernel
theorem dX10_symbol_5 : decode cX10_symbol 5 = .ok (.istore_n 2, 1) := by decide +kernel
theorem dX10_symbol_6 : decode cX10_symbol 6 = .ok (.aload_n 0, 1) := by decide +kernel
theorem dX10_symbol_7 : decode cX10_symbol 7 = .ok (.iload_n 1, 1) := by decide +kernel
theorem dX10_symbol_8 : decode cX10_symbol 8 = .ok (.iconst 1, 1) := by decide +kernel
theorem dX10_symbol_9 : decode cX10_symbol 9 = .ok (.iadd, 1) := by decide +kernel
theorem dX10_symbol_10 : decode cX10_symbol 10 = .ok (.invokevirtual 169, 3) := by decide +kernel
theorem dX10_symbol_13 : decode cX10_symbol 13 = .ok (.istore_n 3, 1) := by decide +kernel
theorem dX10_symbol_14 : decode cX10_symbol 14 = .ok (.iload_n 2, 1) := by decide +kernel
theorem dX10_symbol_15 : decode cX10_symbol 15 = .ok (.bipush 60, 2) := by decide +kernel
theorem dX10_symbol_17 : decode cX10_symbol 17 = .ok (.if_icmp .eq 9, 3) := by decide +kernel
theorem dX10_symbol_20 : decode cX10_symbol 20 = .ok (.iload_n 2, 1) := by decide +kernel
theorem dX10_symbol_21 : decode cX10_symbol 21 = .ok (.bipush 62, 2) := by decide +kernel
theorem dX10_symbol_23 : decode cX10_symbol 23 = .ok (.if_icmp .ne 9, 3) := by decide +kernel
theorem dX10_symbol_26 : decode cX10_symbol 26 = .ok (.iload_n 3, 1) := by decide +kernel
theorem dX10_symbol_27 : decode cX10_symbol 27 = .ok (.bipush 61, 2) := by decide +kernel
theorem dX10_symbol_29 : decode cX10_symbol 29 = .ok (.if_icmp .eq 15, 3) := by decide +kernel
theorem dX10_symbol_32 : decode cX10_symbol 32 = .ok (.iload_n 2, 1) := by decide +kernel
theorem dX10_symbol_33 : decode cX10_symbol 33 = .ok (.bipush 60, 2) := by decide +kernel
theorem dX10_symbol_35 : decode cX10_symbol 35 = .ok (.if_icmp .ne 13, 3) := by decide +kernel
theorem dX10_symbol_38 : decode cX10_symbol 38 = .ok (.iload_n 3, 1) := by decide +kernel
theorem dX10_symbol_39 : decode cX10_symbol 39 = .ok (.bipush 62, 2) := by decide +kernel
theorem dX10_symbol_41 : decode cX10_symbol 41 = .ok (.if_icmp .ne 7, 3) := by decide +kernel
theorem dX10_symbol_44 : decode cX10_symbol 44 = .ok (.iconst 1, 1) := by decide +kernel
theorem dX10_symbol_45 : decode cX10_symbol 45 = .ok (.goto 4, 3) := by decide +kernel
theorem dX10_symbol_48 : decode cX10_symbol 48 = .ok (.iconst 0, 1) := by decide +kernel
theorem dX10_symbol_49 : decode cX10_symbol 49 = .ok (.istore 4, 2) := by decide +kernel
theorem dX10_symbol_51 : decode cX10_symbol 51 = .ok (.ldc 191, 2) := by decide +kernel
theorem dX10_symbol_53 : decode cX10_symbol 53 = .ok (.iload_n 2, 1) := by decide +kernel
theorem dX10_symbol_54 : decode cX10_symbol 54 = .ok (.invokevirtual 193, 3) := by decide +kernel
theorem dX10_symbol_57 : decode cX10_symbol 57 = .ok (.istore 5, 2) := by decide +kernel
theorem dX10_symbol_59 : decode cX10_symbol 59 = .ok (.iload 4, 2) := by decide +kernel
theorem dX10_symbol_61 : decode cX10_symbol 61 = .ok (.ifCond .eq 36, 3) := by decide +kernel
theorem dX10_symbol_64 : decode cX10_symbol 64 = .ok (.aload_n 0, 1) := by decide +kernel
theorem dX10_symbol_65 : decode cX10_symbol 65 = .ok (.iload_n 2, 1) := by decide +kernel
theorem dX10_symbol_66 : decode cX10_symbol 66 = .ok (.bipush 62, 2) := by decide +kernel
theorem dX10_symbol_68 : decode cX10_symbol 68 = .ok (.if_icmp .ne 8, 3) := by decide +kernel
theorem dX10_symbol_71 : decode cX10_symbol 71 = .ok (.bipush 114, 2) := by decide +kernel
theorem dX10_symbol_73 : decode cX10_symbol 73 = .ok (.goto 16, 3) := by decide +kernel
theorem dX10_symbol_76 : decode cX10_symbol 76 = .ok (.iload_n 3, 1) := by decide +kernel
theorem dX10_symbol_77 : decode cX10_symbol 77 = .ok (.bipush 61, 2) := by decide +kernel
theorem dX10_symbol_79 : decode cX10_symbol 79 = .ok (.if_icmp .ne 8, 3) := by decide +kernel
theorem dX10_symbol_82 : decode cX10_symbol 82 = .ok (.bipush 113, 2) := by decide +kernel
theorem dX10_symbol_84 : decode cX10_symbol 84 = .ok (.goto 5, 3) := by decide +kernel
theorem dX10_symbol_87 : decode cX10_symbol 87 = .ok (.bipush 115, 2) := by decide +kernel
theorem dX10_symbol_89 : decode cX10_symbol 89 = .ok (.iload_n 1, 1) := by decide +kernel
theorem dX10_symbol_90 : decode cX10_symbol 90 = .ok (.lconst 0, 1) := by decide +kernel
theorem dX10_symbol_91 : decode cX10_symbol 91 = .ok (.invokevirtual 172, 3) := by decide +kernel
theorem dX10_symbol_94 : decode cX10_symbol 94 = .ok (.goto 25, 3) := by decide +kernel
theorem dX10_symbol_97 : decode cX10_symbol 97 = .ok (.aload_n 0, 1) := by decide +kernel
theorem dX10_symbol_98 : decode cX10_symbol 98 = .ok (.iload 5, 2) := by decide +kernel
theorem dX10_symbol_100 : decode cX10_symbol 100 = .ok (.ifCond .ge 9, 3) := by decide +kernel
theorem dX10_symbol_103 : decode cX10_symbol 103 = .ok (.sipush 203, 3) := by decide +kernel
theorem dX10_symbol_106 : decode cX10_symbol 106 = .ok (.goto 8, 3) := by decide +kernel
theorem dX10_symbol_109 : decode cX10_symbol 109 = .ok (.bipush 100, 2) := by decide +kernel
theorem dX10_symbol_111 : decode cX10_symbol 111 = .ok (.iload 5, 2) := by decide +kernel
theorem dX10_symbol_113 : decode cX10_symbol 113 = .ok (.iadd, 1) := by decide +kernel
theorem dX10_symbol_114 : decode cX10_symbol 114 = .ok (.iload_n 1, 1) := by decide +kernel
theorem dX10_symbol_115 : decode cX10_symbol 115 = .ok (.lconst 0, 1) := by decide +kernel
theorem dX10_symbol_116 : decode cX10_symbol 116 = .ok (.invokevirtual 172, 3) := by decide +kernel
theorem dX10_symbol_119 : decode cX10_symbol 119 = .ok (.iload 4, 2) := by decide +kernel
theorem dX10_symbol_121 : decode cX10_symbol 121 = .ok (.ifCond .eq 9, 3) := by decide +kernel
theorem dX10_symbol_124 : decode cX10_symbol 124 = .ok (.iload_n 1, 1) := by decide +kernel
theorem dX10_symbol_125 : decode cX10_symbol 125 = .ok (.iconst 2, 1) := by decide +kernel
theorem dX10_symbol_126 : decode cX10_symbol 126 = .ok (.iadd, 1) := by decide +kernel
theorem dX10_symbol_127 : decode cX10_symbol 127 = .ok (.goto 6, 3) := by decide +kernel
theorem dX10_symbol_130 : decode cX10_symbol 130 = .ok (.iload_n 1, 1) := by decide +kernel
theorem dX10_symbol_131 : decode cX10_symbol 131 = .ok (.iconst 1, 1) := by decide +kernel
theorem dX10_symbol_132 : decode cX10_symbol 132 = .ok (.iadd, 1) := by decide +kernel
theorem dX10_symbol_133 : decode cX10_symbol 133 = .ok (.ireturn, 1) := by decide +kernel
theorem dX10_clearProgram_0 : decode cX10_clearProgram 0 = .ok (.aload_n 0, 1) := by decide +kernel
theorem dX10_clearProgram_1 : decode cX10_clearProgram 1 = .ok (.iconst 0, 1) := by decide +kernel
theorem dX10_clearProgram_2 : decode cX10_clearProgram 2 = .ok (.putfield 195, 3) := by decide +kernel
theorem dX10_clearProgram_5 : decode cX10_clearProgram 5 = .ok (.aload_n 0, 1) := by decide +kernel
theorem dX10_clearProgram_6 : decode cX10_clearProgram 6 = .ok (.iconst 0, 1) := by decide +kernel
theorem dX10_clearProgram_7 : decode cX10_clearProgram 7 = .ok (.putfield 198, 3) := by decide +kernel
theorem dX10_clearProgram_10 : decode cX10_clearProgram 10 = .ok (.aload_n 0, 1) := by decide +kernel
theorem dX10_clearProgram_11 : decode cX10_clearProgram 11 = .ok (.iconst 0, 1) := by decide +kernel
theorem dX10_clearProgram_12 : decode cX10_clearProgram 12 = .ok (.putfield 201, 3) := by decide +kernel
theorem dX10_clearProgram_15 : decode cX10_clearProgram 15 = .ok (.aload_n 0, 1) := by decide +kernel
theorem dX10_clearProgram_16 : decode cX10_clearProgram 16 = .ok (.iconst (-1), 1) := by decide +kernel
theorem dX10_clearProgram_17 : decode cX10_clearProgram 17 = .ok (.putfield 204, 3) := by decide +kernel
theorem dX10_clearProgram_20 : decode cX10_clearProgram 20 = .ok (.aload_n 0, 1) := by decide +kernel
theorem dX10_clearProgram_21 : decode cX10_clearProgram 21 = .ok (.iconst 0, 1) := by decide +kernel
theorem dX10_clearProgram_22 : decode cX10_clearProgram 22 = .ok (.putfield 207, 3) := by decide +kernel
theorem dX10_clearProgram_25 : decode cX10_clearProgram 25 = .ok (.aload_n 0, 1) := by decide +kernel
theorem dX10_clearProgram_26 : decode cX10_clearProgram 26 = .ok (.iconst 0, 1) := by decide +kernel
theorem dX10_clearProgram_27 : decode cX10_clearProgram 27 = .ok (.putfield 210, 3) := by decide +kernel
theorem dX10_clearProgram_30 : decode cX10_clearProgram 30 = .ok (.aload_n 0, 1) := by decide +kernel
theorem dX10_clearProgram_31 : decode cX10_clearProgram 31 = .ok (.iconst 0, 1) := by decide +kernel
theorem dX10_clearProgram_32 : decode cX10_clearProgram 32 = .ok (.putfield 213, 3) := by decide +kernel
theorem dX10_clearProgram_35 : decode cX10_clearProgram 35 = .ok (.aload_n 0, 1) := by decide +kernel
theorem dX10_clearProgram_36 : decode cX10_clearProgram 36 = .ok (.iconst 0, 1) := by decide +kernel
theorem dX10_clearProgram_37 : decode cX10_clearProgram 37 = .ok (.putfield 216, 3) := by decide +kernel
theorem dX10_clearProgram_40 : decode cX10_clearProgram 40 = .ok (.iconst 0, 1) := by decide +kernel
theorem dX10_clearProgram_41 : decode cX10_clearProgram 41 = .ok (.istore_n 1, 1) := by decide +kernel
theorem dX10_clearProgram_42 : decode cX10_clearProgram 42 = .ok (.iload_n 1, 1) := by decide +kernel
theorem dX10_clearProgram_43 : decode cX10_clearProgram 43 = .ok (.iconst 3, 1) := by decide +kernel
theorem dX10_clearProgram_44 : decode cX10_clearProgram 44 = .ok (.if_icmp .ge 16, 3) := by decide +kernel
theorem dX10_clearProgram_47 : decode cX10_clearProgram 47 = .ok (.aload_n 0, 1) := by decide +kernel
theorem dX10_clearProgram_48 : decode cX10_clearProgram 48 = .ok (.getfield 100, 3) := by decide +kernel
theorem dX10_clearProgram_51 : decode cX10_clearProgram 51 = .ok (.iload_n 1, 1) := by decide +kernel
theorem dX10_clearProgram_52 : decode cX10_clearProgram 52 = .ok (.iconst 0, 1) := by decide +kernel
theorem dX10_clearProgram_53 : decode cX10_clearProgram 53 = .ok (.iastore, 1) := by decide +kernel
theorem dX10_clearProgram_54 : decode cX10_clearProgram 54 = .ok (.iinc 1 1, 3) := by decide +kernel
theorem dX10_clearProgram_57 : decode cX10_clearProgram 57 = .ok (.goto (-15), 3) := by decide +kernel
theorem dX10_clearProgram_60 : decode cX10_clearProgram 60 = .ok (.iconst 0, 1) := by decide +kernel
theorem dX10_clearProgram_61 : decode cX10_clearProgram 61 = .ok (.istore_n 1, 1) := by decide +kernel
theorem dX10_clearProgram_62 : decode cX10_clearProgram 62 = .ok (.iload_n 1, 1) := by decide +kernel
theorem dX10_clearProgram_63 : decode cX10_clearProgram 63 = .ok (.aload_n 0, 1) := by decide +kernel
theorem dX10_clearProgram_64 : decode cX10_clearProgram 64 = .ok (.getfield 125, 3) := by decide +kernel
theorem dX10_clearProgram_67 : decode cX10_clearProgram 67 = .ok (.arraylength, 1) := by decide +kernel
theorem dX10_clearProgram_68 : decode cX10_clearProgram 68 = .ok (.if_icmp .ge 16, 3) := by decide +kernel
theorem dX10_clearProgram_71 : decode cX10_clearProgram 71 = .ok (.aload_n 0, 1) := by decide +kernel
theorem dX10_clearProgram_72 : decode cX10_clearProgram 72 = .ok (.getfield 125, 3) := by decide +kernel
theorem dX10_clearProgram_75 : decode cX10_clearProgram 75 = .ok (.iload_n 1, 1) := by decide +kernel
theorem dX10_clearProgram_76 : decode cX10_clearProgram 76 = .ok (.lconst 0, 1) := by decide +kernel
theorem dX10_clearProgram_77 : decode cX10_clearProgram 77 = .ok (.lastore, 1) := by decide +kernel
theorem dX10_clearProgram_78 : decode cX10_clearProgram 78 = .ok (.iinc 1 1, 3) := by decide +kernel
theorem dX10_clearProgram_81 : decode cX10_clearProgram 81 = .ok (.goto (-19), 3) := by decide +kernel
theorem dX10_clearProgram_84 : decode cX10_clearProgram 84 = .ok (.return_, 1) := by decide +kernel
theorem dX10_is_0 : decode cX10_is 0 = .ok (.aload_n 0, 1) := by decide +kernel
theorem dX10_is_1 : decode cX10_is 1 = .ok (.getfield 17, 3) := by decide +kernel
theorem dX10_is_4 : decode cX10_is 4 = .ok (.aload_n 0, 1) := by decide +kernel
theorem dX10_is_5 : decode cX10_is 5 = .ok (.getfield 219, 3) := by decide +kernel
theorem dX10_is_8 : decode cX10_is 8 = .ok (.iaload, 1) := by decide +kernel
theorem dX10_is_9 : decode cX10_is 9 = .ok (.iload_n 1, 1) := by decide +kernel
theorem dX10_is_10 : decode cX10_is 10 = .ok (.if_icmp .ne 7, 3) := by decide +kernel
theorem dX10_is_13 : decode cX10_is 13 = .ok (.iconst 1, 1) := by decide +kernel
theorem dX10_is_14 : decode cX10_is 14 = .ok (.goto 4, 3) := by decide +kernel
theorem dX10_is_17 : decode cX10_is 17 = .ok (.iconst 0, 1) := by decide +kernel
theorem dX10_is_18 : decode cX10_is 18 = .ok (.ireturn, 1) := by decide +kernel
theorem dX10_wrong_0 : decode cX10_wrong 0 = .ok (.new 222, 3) := by decide +kernel
theorem dX10_wrong_3 : decode cX10_wrong 3 = .ok (.dup, 1) := by decide +kernel
theorem dX10_wrong_4 : decode cX10_wrong 4 = .ok (.iconst 1, 1) := by decide +kernel
theorem dX10_wrong_5 : decode cX10_wrong 5 = .ok (.aload_n 0, 1) := by decide +kernel
theorem dX10_wrong_6 : decode cX10_wrong 6 = .ok (.getfield 20, 3) := by decide +kernel
theorem dX10_wrong_9 : decode cX10_wrong 9 = .ok (.aload_n 0, 1) := by decide +kernel
theorem dX10_wrong_10 : decode cX10_wrong 10 = .ok (.getfield 219, 3) := by decide +kernel
theorem dX10_wrong_13 : decode cX10_wrong 13 = .ok (.iaload, 1) := by decide +kernel
theorem dX10_wrong_14 : decode cX10_wrong 14 = .ok (.invokespecial 224, 3) := by decide +kernel
theorem dX10_wrong_17 : decode cX10_wrong 17 = .ok (.areturn, 1) := by decide +kernel
theorem dX10_must_0 : decode cX10_must 0 = .ok (.aload_n 0, 1) := by decide +kernel
theorem dX10_must_1 : decode cX10_must 1 = .ok (.getfield 227, 3) := by decide +kernel
theorem dX10_must_4 : decode cX10_must 4 = .ok (.ifCond .eq 17, 3) := by decide +kernel
theorem dX10_must_7 : decode cX10_must 7 = .ok (.iload_n 1, 1) := by decide +kernel
theorem dX10_must_8 : decode cX10_must 8 = .ok (.ifCond .ne 13, 3) := by decide +kernel
theorem dX10_must_11 : decode cX10_must 11 = .ok (.new 222, 3) := by decide +kernel
theorem dX10_must_14 : decode cX10_must 14 = .ok (.dup, 1) := by decide +kernel
theorem dX10_must_15 : decode cX10_must 15 = .ok (.iload_n 2, 1) := by decide +kernel
theorem dX10_must_16 : decode cX10_must 16 = .ok (.iload_n 3, 1) := by decide +kernel
theorem dX10_must_17 : decode cX10_must 17 = .ok (.invokespecial 224, 3) := by decide +kernel
theorem dX10_must_20 : decode cX10_must 20 = .ok (.athrow, 1) := by decide +kernel
theorem dX10_must_21 : decode cX10_must 21 = .ok (.return_, 1) := by decide +kernel
theorem dX10_take_0 : decode cX10_take 0 = .ok (.aload_n 0, 1) := by decide +kernel
theorem dX10_take_1 : decode cX10_take 1 = .ok (.getfield 231, 3) := by decide +kernel
theorem dX10_take_4 : decode cX10_take 4 = .ok (.ifCond .ne 8, 3) := by decide +kernel
theorem dX10_take_7 : decode cX10_take 7 = .ok (.aload_n 0, 1) := by decide +kernel
theorem dX10_take_8 : decode cX10_take 8 = .ok (.invokevirtual 234, 3) := by decide +kernel
theorem dX10_take_11 : decode cX10_take 11 = .ok (.athrow, 1) := by decide +kernel
theorem dX10_take_12 : decode cX10_take 12 = .ok (.aload_n 0, 1) := by decide +kernel
theorem dX10_take_13 : decode cX10_take 13 = .ok (.getfield 231, 3) := by decide +kernel
theorem dX10_take_16 : decode cX10_take 16 = .ok (.ifCond .le 13, 3) := by decide +kernel
theorem dX10_take_19 : decode cX10_take 19 = .ok (.aload_n 0, 1) := by decide +kernel
theorem dX10_take_20 : decode cX10_take 20 = .ok (.dup, 1) := by decide +kernel
theorem dX10_take_21 : decode cX10_take 21 = .ok (.getfield 231, 3) := by decide +kernel
theorem dX10_take_24 : decode cX10_take 24 = .ok (.iconst 1, 1) := by decide +kernel
theorem dX10_take_25 : decode cX10_take 25 = .ok (.isub, 1) := by decide +kernel
theorem dX10_take_26 : decode cX10_take 26 = .ok (.putfield 231, 3) := by decide +kernel
theorem dX10_take_29 : decode cX10_take 29 = .ok (.aload_n 0, 1) := by decide +kernel
theorem dX10_take_30 : decode cX10_take 30 = .ok (.dup, 1) := by decide +kernel
theorem dX10_take_31 : decode cX10_take 31 = .ok (.getfield 219, 3) := by decide +kernel
theorem dX10_take_34 : decode cX10_take 34 = .ok (.iconst 1, 1) := by decide +kernel
theorem dX10_take_35 : decode cX10_take 35 = .ok (.iadd, 1) := by decide +kernel
theorem dX10_take_36 : decode cX10_take 36 = .ok (.putfield 219, 3) := by decide +kernel
theorem dX10_take_39 : decode cX10_take 39 = .ok (.return_, 1) := by decide +kernel
theorem dX10_take__0 : decode cX10_take_ 0 = .ok (.aload_n 0, 1) := by decide +kernel
theorem dX10_take__1 : decode cX10_take_ 1 = .ok (.iload_n 1, 1) := by decide +kernel
theorem dX10_take__2 : decode cX10_take_ 2 = .ok (.invokevirtual 238, 3) := by decide +kernel
theorem dX10_take__5 : decode cX10_take_ 5 = .ok (.ifCond .ne 8, 3) := by decide +kernel
theorem dX10_take__8 : decode cX10_take_ 8 = .ok (.aload_n 0, 1) := by decide +kernel
theorem dX10_take__9 : decode cX10_take_ 9 = .ok (.invokevirtual 234, 3) := by decide +kernel
theorem dX10_take__12 : decode cX10_take_ 12 = .ok (.athrow, 1) := by decide +kernel
theorem dX10_take__13 : decode cX10_take_ 13 = .ok (.aload_n 0, 1) := by decide +kernel
theorem dX10_take__14 : decode cX10_take_ 14 = .ok (.invokevirtual 241, 3) := by decide +kernel
theorem dX10_take__17 : decode cX10_take_ 17 = .ok (.return_, 1) := by decide +kernel
theorem dX10_deeper_0 : decode cX10_deeper 0 = .ok (.aload_n 0, 1) := by decide +kernel
theorem dX10_deeper_1 : decode cX10_deeper 1 = .ok (.getfield 244, 3) := by decide +kernel
theorem dX10_deeper_4 : decode cX10_deeper 4 = .ok (.bipush 8, 2) := by decide +kernel
theorem dX10_deeper_6 : decode cX10_deeper 6 = .ok (.if_icmp .ne 8, 3) := by decide +kernel
theorem dX10_deeper_9 : decode cX10_deeper 9 = .ok (.aload_n 0, 1) := by decide +kernel
theorem dX10_deeper_10 : decode cX10_deeper 10 = .ok (.invokevirtual 234, 3) := by decide +kernel
theorem dX10_deeper_13 : decode cX10_deeper 13 = .ok (.athrow, 1) := by decide +kernel
theorem dX10_deeper_14 : decode cX10_deeper 14 = .ok (.aload_n 0, 1) := by decide +kernel
theorem dX10_deeper_15 : decode cX10_deeper 15 = .ok (.dup, 1) := by decide +kernel
theorem dX10_deeper_16 : decode cX10_deeper 16 = .ok (.getfield 244, 3) := by decide +kernel
theorem dX10_deeper_19 : decode cX10_deeper 19 = .ok (.iconst 1, 1) := by decide +kernel
theorem dX10_deeper_20 : decode cX10_deeper 20 = .ok (.iadd, 1) := by decide +kernel
theorem dX10_deeper_21 : decode cX10_deeper 21 = .ok (.putfield 244, 3) := by decide +kernel
theorem dX10_deeper_24 : decode cX10_deeper 24 = .ok (.return_, 1) := by decide +kernel
theorem dX10_emit_0 : decode cX10_emit 0 = .ok (.aload_n 0, 1) := by decide +kernel
theorem dX10_emit_1 : decode cX10_emit 1 = .ok (.getfield 227, 3) := by decide +kernel
theorem dX10_emit_4 : decode cX10_emit 4 = .ok (.ifCond .ne 4, 3) := by decide +kernel
theorem dX10_emit_7 : decode cX10_emit 7 = .ok (.return_, 1) := by decide +kernel
theorem dX10_emit_8 : decode cX10_emit 8 = .ok (.aload_n 0, 1) := by decide +kernel
theorem dX10_emit_9 : decode cX10_emit 9 = .ok (.getfield 65, 3) := by decide +kernel
theorem dX10_emit_12 : decode cX10_emit 12 = .ok (.aload_n 0, 1) := by decide +kernel
theorem dX10_emit_13 : decode cX10_emit 13 = .ok (.getfield 210, 3) := by decide +kernel
theorem dX10_emit_16 : decode cX10_emit 16 = .ok (.iload_n 1, 1) := by decide +kernel
theorem dX10_emit_17 : decode cX10_emit 17 = .ok (.iastore, 1) := by decide +kernel
theorem dX10_emit_18 : decode cX10_emit 18 = .ok (.aload_n 0, 1) := by decide +kernel
theorem dX10_emit_19 : decode cX10_emit 19 = .ok (.getfield 68, 3) := by decide +kernel
theorem dX10_emit_22 : decode cX10_emit 22 = .ok (.aload_n 0, 1) := by decide +kernel
theorem dX10_emit_23 : decode cX10_emit 23 = .ok (.getfield 210, 3) := by decide +kernel
theorem dX10_emit_26 : decode cX10_emit 26 = .ok (.lload_n 2, 1) := by decide +kernel
theorem dX10_emit_27 : decode cX10_emit 27 = .ok (.lastore, 1) := by decide +kernel
theorem dX10_emit_28 : decode cX10_emit 28 = .ok (.aload_n 0, 1) := by decide +kernel
theorem dX10_emit_29 : decode cX10_emit 29 = .ok (.dup, 1) := by decide +kernel
theorem dX10_emit_30 : decode cX10_emit 30 = .ok (.getfield 210, 3) := by decide +kernel
theorem dX10_emit_33 : decode cX10_emit 33 = .ok (.iconst 1, 1) := by decide +kernel
theorem dX10_emit_34 : decode cX10_emit 34 = .ok (.iadd, 1) := by decide +kernel
theorem dX10_emit_35 : decode cX10_emit 35 = .ok (.putfield 210, 3) := by decide +kernel
theorem dX10_emit_38 : decode cX10_emit 38 = .ok (.return_, 1) := by decide +kernel
theorem dX10_whole_0 : decode cX10_whole 0 = .ok (.aload_n 0, 1) := by decide +kernel
theorem dX10_whole_1 : decode cX10_whole 1 = .ok (.getfield 210, 3) := by decide +kernel
theorem dX10_whole_4 : decode cX10_whole 4 = .ok (.istore_n 1, 1) := by decide +kernel
theorem dX10_whole_5 : decode cX10_whole 5 = .ok (.aload_n 0, 1) := by decide +kernel
theorem dX10_whole_6 : decode cX10_whole 6 = .ok (.bipush 60, 2) := by decide +kernel
theorem dX10_whole_8 : decode cX10_whole 8 = .ok (.putfield 231, 3) := by decide +kernel
theorem dX10_whole_11 : decode cX10_whole 11 = .ok (.aload_n 0, 1) := by decide +kernel
theorem dX10_whole_12 : decode cX10_whole 12 = .ok (.invokevirtual 247, 3) := by decide +kernel
theorem dX10_whole_15 : decode cX10_whole 15 = .ok (.aload_n 0, 1) := by decide +kernel
theorem dX10_whole_16 : decode cX10_whole 16 = .ok (.iconst (-1), 1) := by decide +kernel
theorem dX10_whole_17 : decode cX10_whole 17 = .ok (.putfield 231, 3) := by decide +kernel
theorem dX10_whole_20 : decode cX10_whole 20 = .ok (.aload_n 0, 1) := by decide +kernel
theorem dX10_whole_21 : decode cX10_whole 21 = .ok (.bipush 50, 2) := by decide +kernel
theorem dX10_whole_23 : decode cX10_whole 23 = .ok (.lconst 0, 1) := by decide +kernel
theorem dX10_whole_24 : decode cX10_whole 24 = .ok (.invokevirtual 250, 3) := by decide +kernel
theorem dX10_whole_27 : decode cX10_whole 27 = .ok (.iload_n 1, 1) := by decide +kernel
theorem dX10_whole_28 : decode cX10_whole 28 = .ok (.ireturn, 1) := by decide +kernel
theorem dX10_expression_0 : decode cX10_expression 0 = .ok (.aload_n 0, 1) := by decide +kernel
theorem dX10_expression_1 : decode cX10_expression 1 = .ok (.invokevirtual 254, 3) := by decide +kernel
theorem dX10_expression_4 : decode cX10_expression 4 = .ok (.aload_n 0, 1) := by decide +kernel
theorem dX10_expression_5 : decode cX10_expression 5 = .ok (.bipush 12, 2) := by decide +kernel
theorem dX10_expression_7 : decode cX10_expression 7 = .ok (.invokevirtual 238, 3) := by decide +kernel
theorem dX10_expression_10 : decode cX10_expression 10 = .ok (.ifCond .eq 21, 3) := by decide +kernel
theorem dX10_expression_13 : decode cX10_expression 13 = .ok (.aload_n 0, 1) := by decide +kernel
theorem dX10_expression_14 : decode cX10_expression 14 = .ok (.invokevirtual 241, 3) := by decide +kernel
theorem dX10_expression_17 : decode cX10_expression 17 = .ok (.aload_n 0, 1) := by decide +kernel
theorem dX10_expression_18 : decode cX10_expression 18 = .ok (.invokevirtual 254, 3) := by decide +kernel
theorem dX10_expression_21 : decode cX10_expression 21 = .ok (.aload_n 0, 1) := by decide +kernel
theorem dX10_expression_22 : decode cX10_expression 22 = .ok (.bipush 31, 2) := by decide +kernel
theorem dX10_expression_24 : decode cX10_expression 24 = .ok (.lconst 0, 1) := by decide +kernel
theorem dX10_expression_25 : decode cX10_expression 25 = .ok (.invokevirtual 250, 3) := by decide +kernel
theorem dX10_expression_28 : decode cX10_expression 28 = .ok (.goto (-24), 3) := by decide +kernel
theorem dX10_expression_31 : decode cX10_expression 31 = .ok (.return_, 1) := by decide +kernel
theorem dX10_both_0 : decode cX10_both 0 = .ok (.aload_n 0, 1) := by decide +kernel
theorem dX10_both_1 : decode cX10_both 1 = .ok (.invokevirtual 257, 3) := by decide +kernel
theorem dX10_both_4 : decode cX10_both 4 = .ok (.aload_n 0, 1) := by decide +kernel
theorem dX10_both_5 : decode cX10_both 5 = .ok (.bipush 11, 2) := by decide +kernel
theorem dX10_both_7 : decode cX10_both 7 = .ok (.invokevirtual 238, 3) := by decide +kernel
theorem dX10_both_10 : decode cX10_both 10 = .ok (.ifCond .eq 21, 3) := by decide +kernel
theorem dX10_both_13 : decode cX10_both 13 = .ok (.aload_n 0, 1) := by decide +kernel
theorem dX10_both_14 : decode cX10_both 14 = .ok (.invokevirtual 241, 3) := by decide +kernel
theorem dX10_both_17 : decode cX10_both 17 = .ok (.aload_n 0, 1) := by decide +kernel
theorem dX10_both_18 : decode cX10_both 18 = .ok (.invokevirtual 257, 3) := by decide +kernel
theorem dX10_both_21 : decode cX10_both 21 = .ok (.aload_n 0, 1) := by decide +kernel
theorem dX10_both_22 : decode cX10_both 22 = .ok (.bipush 30, 2) := by decide +kernel
theorem dX10_both_24 : decode cX10_both 24 = .ok (.lconst 0, 1) := by decide +kernel
theorem dX10_both_25 : decode cX10_both 25 = .ok (.invokevirtual 250, 3) := by decide +kernel
theorem dX10_both_28 : decode cX10_both 28 = .ok (.goto (-24), 3) := by decide +kernel
theorem dX10_both_31 : decode cX10_both 31 = .ok (.return_, 1) := by decide +kernel
theorem dX10_relation_0 : decode cX10_relation 0 = .ok (.aload_n 0, 1) := by decide +kernel
theorem dX10_relation_1 : decode cX10_relation 1 = .ok (.invokevirtual 260, 3) := by decide +kernel
theorem dX10_relation_4 : decode cX10_relation 4 = .ok (.aload_n 0, 1) := by decide +kernel
theorem dX10_relation_5 : decode cX10_relation 5 = .ok (.bipush 105, 2) := by decide +kernel
theorem dX10_relation_7 : decode cX10_relation 7 = .ok (.invokevirtual 238, 3) := by decide +kernel
theorem dX10_relation_10 : decode cX10_relation 10 = .ok (.ifCond .eq 7, 3) := by decide +kernel
theorem dX10_relation_13 : decode cX10_relation 13 = .ok (.iconst 0, 1) := by decide +kernel
theorem dX10_relation_14 : decode cX10_relation 14 = .ok (.goto 69, 3) := by decide +kernel
theorem dX10_relation_17 : decode cX10_relation 17 = .ok (.aload_n 0, 1) := by decide +kernel
theorem dX10_relation_18 : decode cX10_relation 18 = .ok (.bipush 115, 2) := by decide +kernel
theorem dX10_relation_20 : decode cX10_relation 20 = .ok (.invokevirtual 238, 3) := by decide +kernel
theorem dX10_relation_23 : decode cX10_relation 23 = .ok (.ifCond .eq 7, 3) := by decide +kernel
theorem dX10_relation_26 : decode cX10_relation 26 = .ok (.iconst 1, 1) := by decide +kernel
theorem dX10_relation_27 : decode cX10_relation 27 = .ok (.goto 56, 3) := by decide +kernel
theorem dX10_relation_30 : decode cX10_relation 30 = .ok (.aload_n 0, 1) := by decide +kernel
theorem dX10_relation_31 : decode cX10_relation 31 = .ok (.bipush 111, 2) := by decide +kernel
theorem dX10_relation_33 : decode cX10_relation 33 = .ok (.invokevirtual 238, 3) := by decide +kernel
theorem dX10_relation_36 : decode cX10_relation 36 = .ok (.ifCond .eq 7, 3) := by decide +kernel
theorem dX10_relation_39 : decode cX10_relation 39 = .ok (.iconst 2, 1) := by decide +kernel
theorem dX10_relation_40 : decode cX10_relation 40 = .ok (.goto 43, 3) := by decide +kernel
theorem dX10_relation_43 : decode cX10_relation 43 = .ok (.aload_n 0, 1) := by decide +kernel
theorem dX10_relation_44 : decode cX10_relation 44 = .ok (.bipush 112, 2) := by decide +kernel
theorem dX10_relation_46 : decode cX10_relation 46 = .ok (.invokevirtual 238, 3) := by decide +kernel
theorem dX10_relation_49 : decode cX10_relation 49 = .ok (.ifCond .eq 7, 3) := by decide +kernel
theorem dX10_relation_52 : decode cX10_relation 52 = .ok (.iconst 3, 1) := by decide +kernel
theorem dX10_relation_53 : decode cX10_relation 53 = .ok (.goto 30, 3) := by decide +kernel
theorem dX10_relation_56 : decode cX10_relation 56 = .ok (.aload_n 0, 1) := by decide +kernel
theorem dX10_relation_57 : decode cX10_relation 57 = .ok (.bipush 113, 2) := by decide +kernel
theorem dX10_relation_59 : decode cX10_relation 59 = .ok (.invokevirtual 238, 3) := by decide +kernel
theorem dX10_relation_62 : decode cX10_relation 62 = .ok (.ifCond .eq 7, 3) := by decide +kernel
theorem dX10_relation_65 : decode cX10_relation 65 = .ok (.iconst 4, 1) := by decide +kernel
theorem dX10_relation_66 : decode cX10_relation 66 = .ok (.goto 17, 3) := by decide +kernel
theorem dX10_relation_69 : decode cX10_relation 69 = .ok (.aload_n 0, 1) := by decide +kernel
theorem dX10_relation_70 : decode cX10_relation 70 = .ok (.bipush 114, 2) := by decide +kernel
theorem dX10_relation_72 : decode cX10_relation 72 = .ok (.invokevirtual 238, 3) := by decide +kernel
theorem dX10_relation_75 : decode cX10_relation 75 = .ok (.ifCond .eq 7, 3) := by decide +kernel
theorem dX10_relation_78 : decode cX10_relation 78 = .ok (.iconst 5, 1) := by decide +kernel
theorem dX10_relation_79 : decode cX10_relation 79 = .ok (.goto 4, 3) := by decide +kernel
theorem dX10_relation_82 : decode cX10_relation 82 = .ok (.iconst (-1), 1) := by decide +kernel
theorem dX10_relation_83 : decode cX10_relation 83 = .ok (.istore_n 1, 1) := by decide +kernel
theorem dX10_relation_84 : decode cX10_relation 84 = .ok (.iload_n 1, 1) := by decide +kernel
theorem dX10_relation_85 : decode cX10_relation 85 = .ok (.iconst (-1), 1) := by decide +kernel
theorem dX10_relation_86 : decode cX10_relation 86 = .ok (.if_icmp .ne 4, 3) := by decide +kernel
theorem dX10_relation_89 : decode cX10_relation 89 = .ok (.return_, 1) := by decide +kernel
theorem dX10_relation_90 : decode cX10_relation 90 = .ok (.aload_n 0, 1) := by decide +kernel
theorem dX10_relation_91 : decode cX10_relation 91 = .ok (.invokevirtual 241, 3) := by decide +kernel
theorem dX10_relation_94 : decode cX10_relation 94 = .ok (.aload_n 0, 1) := by decide +kernel
theorem dX10_relation_95 : decode cX10_relation 95 = .ok (.invokevirtual 260, 3) := by decide +kernel
theorem dX10_relation_98 : decode cX10_relation 98 = .ok (.aload_n 0, 1) := by decide +kernel
theorem dX10_relation_99 : decode cX10_relation 99 = .ok (.bipush 20, 2) := by decide +kernel
theorem dX10_relation_101 : decode cX10_relation 101 = .ok (.iload_n 1, 1) := by decide +kernel
theorem dX10_relation_102 : decode cX10_relation 102 = .ok (.iadd, 1) := by decide +kernel
theorem dX10_relation_103 : decode cX10_relation 103 = .ok (.lconst 0, 1) := by decide +kernel
theorem dX10_relation_104 : decode cX10_relation 104 = .ok (.invokevirtual 250, 3) := by decide +kernel
theorem dX10_relation_107 : decode cX10_relation 107 = .ok (.return_, 1) := by decide +kernel
theorem dX10_sum_0 : decode cX10_sum 0 = .ok (.aload_n 0, 1) := by decide +kernel
theorem dX10_sum_1 : decode cX10_sum 1 = .ok (.invokevirtual 263, 3) := by decide +kernel
theorem dX10_sum_4 : decode cX10_sum 4 = .ok (.aload_n 0, 1) := by decide +kernel
theorem dX10_sum_5 : decode cX10_sum 5 = .ok (.bipush 106, 2) := by decide +kernel
theorem dX10_sum_7 : decode cX10_sum 7 = .ok (.invokevirtual 238, 3) := by decide +kernel
theorem dX10_sum_10 : decode cX10_sum 10 = .ok (.ifCond .ne 12, 3) := by decide +kernel
theorem dX10_sum_13 : decode cX10_sum 13 = .ok (.aload_n 0, 1) := by decide +kernel
theorem dX10_sum_14 : decode cX10_sum 14 = .ok (.bipush 107, 2) := by decide +kernel
theorem dX10_sum_16 : decode cX10_sum 16 = .ok (.invokevirtual 238, 3) := by decide +kernel
theorem dX10_sum_19 : decode cX10_sum 19 = .ok (.ifCond .eq 36, 3) := by decide +kernel
theorem dX10_sum_22 : decode cX10_sum 22 = .ok (.aload_n 0, 1) := by decide +kernel
theorem dX10_sum_23 : decode cX10_sum 23 = .ok (.getfield 17, 3) := by decide +kernel
theorem dX10_sum_26 : decode cX10_sum 26 = .ok (.aload_n 0, 1) := by decide +kernel
theorem dX10_sum_27 : decode cX10_sum 27 = .ok (.getfield 219, 3) := by decide +kernel
theorem dX10_sum_30 : decode cX10_sum 30 = .ok (.iaload, 1) := by decide +kernel
theorem dX10_sum_31 : decode cX10_sum 31 = .ok (.bipush 106, 2) := by decide +kernel
theorem dX10_sum_33 : decode cX10_sum 33 = .ok (.isub, 1) := by decide +kernel
theorem dX10_sum_34 : decode cX10_sum 34 = .ok (.istore_n 1, 1) := by decide +kernel
theorem dX10_sum_35 : decode cX10_sum 35 = .ok (.aload_n 0, 1) := by decide +kernel
theorem dX10_sum_36 : decode cX10_sum 36 = .ok (.invokevirtual 241, 3) := by decide +kernel
theorem dX10_sum_39 : decode cX10_sum 39 = .ok (.aload_n 0, 1) := by decide +kernel
theorem dX10_sum_40 : decode cX10_sum 40 = .ok (.invokevirtual 263, 3) := by decide +kernel
theorem dX10_sum_43 : decode cX10_sum 43 = .ok (.aload_n 0, 1) := by decide +kernel
theorem dX10_sum_44 : decode cX10_sum 44 = .ok (.bipush 10, 2) := by decide +kernel
theorem dX10_sum_46 : decode cX10_sum 46 = .ok (.iload_n 1, 1) := by decide +kernel
theorem dX10_sum_47 : decode cX10_sum 47 = .ok (.iadd, 1) := by decide +kernel
theorem dX10_sum_48 : decode cX10_sum 48 = .ok (.lconst 0, 1) := by decide +kernel
theorem dX10_sum_49 : decode cX10_sum 49 = .ok (.invokevirtual 250, 3) := by decide +kernel
theorem dX10_sum_52 : decode cX10_sum 52 = .ok (.goto (-48), 3) := by decide +kernel
theorem dX10_sum_55 : decode cX10_sum 55 = .ok (.return_, 1) := by decide +kernel
theorem dX10_product_0 : decode cX10_product 0 = .ok (.aload_n 0, 1) := by decide +kernel
theorem dX10_product_1 : decode cX10_product 1 = .ok (.invokevirtual 266, 3) := by decide +kernel
theorem dX10_product_4 : decode cX10_product 4 = .ok (.aload_n 0, 1) := by decide +kernel
theorem dX10_product_5 : decode cX10_product 5 = .ok (.getfield 17, 3) := by decide +kernel
theorem dX10_product_8 : decode cX10_product 8 = .ok (.aload_n 0, 1) := by decide +kernel
theorem dX10_product_9 : decode cX10_product 9 = .ok (.getfield 219, 3) := by decide +kernel
theorem dX10_product_12 : decode cX10_product 12 = .ok (.iaload, 1) := by decide +kernel
theorem dX10_product_13 : decode cX10_product 13 = .ok (.i2l, 1) := by decide +kernel
theorem dX10_product_14 : decode cX10_product 14 = .ok (.ldc2_w 269, 3) := by decide +kernel
theorem dX10_product_17 : decode cX10_product 17 = .ok (.ldc2_w 271, 3) := by decide +kernel
theorem dX10_product_20 : decode cX10_product 20 = .ok (.invokestatic 154, 3) := by decide +kernel
theorem dX10_product_23 : decode cX10_product 23 = .ok (.ifCond .eq 36, 3) := by decide +kernel
theorem dX10_product_26 : decode cX10_product 26 = .ok (.aload_n 0, 1) := by decide +kernel
theorem dX10_product_27 : decode cX10_product 27 = .ok (.getfield 17, 3) := by decide +kernel
theorem dX10_product_30 : decode cX10_product 30 = .ok (.aload_n 0, 1) := by decide +kernel
theorem dX10_product_31 : decode cX10_product 31 = .ok (.getfield 219, 3) := by decide +kernel
theorem dX10_product_34 : decode cX10_product 34 = .ok (.iaload, 1) := by decide +kernel
theorem dX10_product_35 : decode cX10_product 35 = .ok (.bipush 106, 2) := by decide +kernel
theorem dX10_product_37 : decode cX10_product 37 = .ok (.isub, 1) := by decide +kernel
theorem dX10_product_38 : decode cX10_product 38 = .ok (.istore_n 1, 1) := by decide +kernel
theorem dX10_product_39 : decode cX10_product 39 = .ok (.aload_n 0, 1) := by decide +kernel
theorem dX10_product_40 : decode cX10_product 40 = .ok (.invokevirtual 241, 3) := by decide +kernel
theorem dX10_product_43 : decode cX10_product 43 = .ok (.aload_n 0, 1) := by decide +kernel
theorem dX10_product_44 : decode cX10_product 44 = .ok (.invokevirtual 266, 3) := by decide +kernel
theorem dX10_product_47 : decode cX10_product 47 = .ok (.aload_n 0, 1) := by decide +kernel
theorem dX10_product_48 : decode cX10_product 48 = .ok (.bipush 10, 2) := by decide +kernel
theorem dX10_product_50 : decode cX10_product 50 = .ok (.iload_n 1, 1) := by decide +kernel
theorem dX10_product_51 : decode cX10_product 51 = .ok (.iadd, 1) := by decide +kernel
theorem dX10_product_52 : decode cX10_product 52 = .ok (.lconst 0, 1) := by decide +kernel
theorem dX10_product_53 : decode cX10_product 53 = .ok (.invokevirtual 250, 3) := by decide +kernel
theorem dX10_product_56 : decode cX10_product 56 = .ok (.goto (-52), 3) := by decide +kernel
theorem dX10_product_59 : decode cX10_product 59 = .ok (.return_, 1) := by decide +kernel
theorem dX10_factor_0 : decode cX10_factor 0 = .ok (.aload_n 0, 1) := by decide +kernel
theorem dX10_factor_1 : decode cX10_factor 1 = .ok (.sipush 201, 3) := by decide +kernel
theorem dX10_factor_4 : decode cX10_factor 4 = .ok (.invokevirtual 238, 3) := by decide +kernel
theorem dX10_factor_7 : decode cX10_factor 7 = .ok (.ifCond .eq 24, 3) := by decide +kernel
theorem dX10_factor_10 : decode cX10_factor 10 = .ok (.aload_n 0, 1) := by decide +kernel
theorem dX10_factor_11 : decode cX10_factor 11 = .ok (.iconst 0, 1) := by decide +kernel
theorem dX10_factor_12 : decode cX10_factor 12 = .ok (.aload_n 0, 1) := by decide +kernel
theorem dX10_factor_13 : decode cX10_factor 13 = .ok (.getfield 23, 3) := by decide +kernel
theorem dX10_factor_16 : decode cX10_factor 16 = .ok (.aload_n 0, 1) := by decide +kernel
theorem dX10_factor_17 : decode cX10_factor 17 = .ok (.getfield 219, 3) := by decide +kernel
theorem dX10_factor_20 : decode cX10_factor 20 = .ok (.laload, 1) := by decide +kernel
theorem dX10_factor_21 : decode cX10_factor 21 = .ok (.invokevirtual 250, 3) := by decide +kernel
theorem dX10_factor_24 : decode cX10_factor 24 = .ok (.aload_n 0, 1) := by decide +kernel
theorem dX10_factor_25 : decode cX10_factor 25 = .ok (.invokevirtual 241, 3) := by decide +kernel
theorem dX10_factor_28 : decode cX10_factor 28 = .ok (.goto 230, 3) := by decide +kernel
theorem dX10_factor_31 : decode cX10_factor 31 = .ok (.aload_n 0, 1) := by decide +kernel
theorem dX10_factor_32 : decode cX10_factor 32 = .ok (.sipush 200, 3) := by decide +kernel
theorem dX10_factor_35 : decode cX10_factor 35 = .ok (.invokevirtual 238, 3) := by decide +kernel
theorem dX10_factor_38 : decode cX10_factor 38 = .ok (.ifCond .eq 20, 3) := by decide +kernel
theorem dX10_factor_41 : decode cX10_factor 41 = .ok (.aload_n 0, 1) := by decide +kernel
theorem dX10_factor_42 : decode cX10_factor 42 = .ok (.iconst 1, 1) := by decide +kernel
theorem dX10_factor_43 : decode cX10_factor 43 = .ok (.aload_n 0, 1) := by decide +kernel
theorem dX10_factor_44 : decode cX10_factor 44 = .ok (.invokevirtual 273, 3) := by decide +kernel
theorem dX10_factor_47 : decode cX10_factor 47 = .ok (.i2l, 1) := by decide +kernel
theorem dX10_factor_48 : decode cX10_factor 48 = .ok (.invokevirtual 250, 3) := by decide +kernel
theorem dX10_factor_51 : decode cX10_factor 51 = .ok (.aload_n 0, 1) := by decide +kernel
theorem dX10_factor_52 : decode cX10_factor 52 = .ok (.invokevirtual 241, 3) := by decide +kernel
theorem dX10_factor_55 : decode cX10_factor 55 = .ok (.goto 203, 3) := by decide +kernel
theorem dX10_factor_58 : decode cX10_factor 58 = .ok (.aload_n 0, 1) := by decide +kernel
theorem dX10_factor_59 : decode cX10_factor 59 = .ok (.bipush 107, 2) := by decide +kernel
theorem dX10_factor_61 : decode cX10_factor 61 = .ok (.invokevirtual 238, 3) := by decide +kernel
theorem dX10_factor_64 : decode cX10_factor 64 = .ok (.ifCond .ne 12, 3) := by decide +kernel
theorem dX10_factor_67 : decode cX10_factor 67 = .ok (.aload_n 0, 1) := by decide +kernel
theorem dX10_factor_68 : decode cX10_factor 68 = .ok (.bipush 13, 2) := by decide +kernel
theorem dX10_factor_70 : decode cX10_factor 70 = .ok (.invokevirtual 238, 3) := by decide +kernel
theorem dX10_factor_73 : decode cX10_factor 73 = .ok (.ifCond .eq 51, 3) := by decide +kernel
theorem dX10_factor_76 : decode cX10_factor 76 = .ok (.aload_n 0, 1) := by decide +kernel
theorem dX10_factor_77 : decode cX10_factor 77 = .ok (.bipush 107, 2) := by decide +kernel
theorem dX10_factor_79 : decode cX10_factor 79 = .ok (.invokevirtual 238, 3) := by decide +kernel
theorem dX10_factor_82 : decode cX10_factor 82 = .ok (.ifCond .eq 8, 3) := by decide +kernel
theorem dX10_factor_85 : decode cX10_factor 85 = .ok (.bipush 41, 2) := by decide +kernel
theorem dX10_factor_87 : decode cX10_factor 87 = .ok (.goto 5, 3) := by decide +kernel
theorem dX10_factor_90 : decode cX10_factor 90 = .ok (.bipush 40, 2) := by decide +kernel
theorem dX10_factor_92 : decode cX10_factor 92 = .ok (.istore_n 1, 1) := by decide +kernel
theorem dX10_factor_93 : decode cX10_factor 93 = .ok (.aload_n 0, 1) := by decide +kernel
theorem dX10_factor_94 : decode cX10_factor 94 = .ok (.invokevirtual 277, 3) := by decide +kernel
theorem dX10_factor_97 : decode cX10_factor 97 = .ok (.aload_n 0, 1) := by decide +kernel
theorem dX10_factor_98 : decode cX10_factor 98 = .ok (.invokevirtual 241, 3) := by decide +kernel
theorem dX10_factor_101 : decode cX10_factor 101 = .ok (.aload_n 0, 1) := by decide +kernel
theorem dX10_factor_102 : decode cX10_factor 102 = .ok (.invokevirtual 266, 3) := by decide +kernel
theorem dX10_factor_105 : decode cX10_factor 105 = .ok (.aload_n 0, 1) := by decide +kernel
theorem dX10_factor_106 : decode cX10_factor 106 = .ok (.dup, 1) := by decide +kernel
theorem dX10_factor_107 : decode cX10_factor 107 = .ok (.getfield 244, 3) := by decide +kernel
theorem dX10_factor_110 : decode cX10_factor 110 = .ok (.iconst 1, 1) := by decide +kernel
theorem dX10_factor_111 : decode cX10_factor 111 = .ok (.isub, 1) := by decide +kernel
theorem dX10_factor_112 : decode cX10_factor 112 = .ok (.putfield 244, 3) := by decide +kernel
theorem dX10_factor_115 : decode cX10_factor 115 = .ok (.aload_n 0, 1) := by decide +kernel
theorem dX10_factor_116 : decode cX10_factor 116 = .ok (.iload_n 1, 1) := by decide +kernel
theorem dX10_factor_117 : decode cX10_factor 117 = .ok (.lconst 0, 1) := by decide +kernel
theorem dX10_factor_118 : decode cX10_factor 118 = .ok (.invokevirtual 250, 3) := by decide +kernel
theorem dX10_factor_121 : decode cX10_factor 121 = .ok (.goto 137, 3) := by decide +kernel
theorem dX10_factor_124 : decode cX10_factor 124 = .ok (.aload_n 0, 1) := by decide +kernel
theorem dX10_factor_125 : decode cX10_factor 125 = .ok (.bipush 100, 2) := by decide +kernel
theorem dX10_factor_127 : decode cX10_factor 127 = .ok (.invokevirtual 238, 3) := by decide +kernel
theorem dX10_factor_130 : decode cX10_factor 130 = .ok (.ifCond .eq 18, 3) := by decide +kernel
theorem dX10_factor_133 : decode cX10_factor 133 = .ok (.aload_n 0, 1) := by decide +kernel
theorem dX10_factor_134 : decode cX10_factor 134 = .ok (.invokevirtual 280, 3) := by decide +kernel
theorem dX10_factor_137 : decode cX10_factor 137 = .ok (.aload_n 0, 1) := by decide +kernel
theorem dX10_factor_138 : decode cX10_factor 138 = .ok (.invokevirtual 247, 3) := by decide +kernel
theorem dX10_factor_141 : decode cX10_factor 141 = .ok (.aload_n 0, 1) := by decide +kernel
theorem dX10_factor_142 : decode cX10_factor 142 = .ok (.invokevirtual 283, 3) := by decide +kernel
theorem dX10_factor_145 : decode cX10_factor 145 = .ok (.goto 113, 3) := by decide +kernel
theorem dX10_factor_148 : decode cX10_factor 148 = .ok (.aload_n 0, 1) := by decide +kernel
theorem dX10_factor_149 : decode cX10_factor 149 = .ok (.bipush 16, 2) := by decide +kernel
theorem dX10_factor_151 : decode cX10_factor 151 = .ok (.invokevirtual 238, 3) := by decide +kernel
theorem dX10_factor_154 : decode cX10_factor 154 = .ok (.ifCond .eq 29, 3) := by decide +kernel
theorem dX10_factor_157 : decode cX10_factor 157 = .ok (.aload_n 0, 1) := by decide +kernel
theorem dX10_factor_158 : decode cX10_factor 158 = .ok (.invokevirtual 241, 3) := by decide +kernel
theorem dX10_factor_161 : decode cX10_factor 161 = .ok (.aload_n 0, 1) := by decide +kernel
theorem dX10_factor_162 : decode cX10_factor 162 = .ok (.invokevirtual 280, 3) := by decide +kernel
theorem dX10_factor_165 : decode cX10_factor 165 = .ok (.aload_n 0, 1) := by decide +kernel
theorem dX10_factor_166 : decode cX10_factor 166 = .ok (.invokevirtual 247, 3) := by decide +kernel
theorem dX10_factor_169 : decode cX10_factor 169 = .ok (.aload_n 0, 1) := by decide +kernel
theorem dX10_factor_170 : decode cX10_factor 170 = .ok (.invokevirtual 283, 3) := by decide +kernel
theorem dX10_factor_173 : decode cX10_factor 173 = .ok (.aload_n 0, 1) := by decide +kernel
theorem dX10_factor_174 : decode cX10_factor 174 = .ok (.bipush 42, 2) := by decide +kernel
theorem dX10_factor_176 : decode cX10_factor 176 = .ok (.lconst 0, 1) := by decide +kernel
theorem dX10_factor_177 : decode cX10_factor 177 = .ok (.invokevirtual 250, 3) := by decide +kernel
theorem dX10_factor_180 : decode cX10_factor 180 = .ok (.goto 78, 3) := by decide +kernel
theorem dX10_factor_183 : decode cX10_factor 183 = .ok (.aload_n 0, 1) := by decide +kernel
theorem dX10_factor_184 : decode cX10_factor 184 = .ok (.bipush 14, 2) := by decide +kernel
theorem dX10_factor_186 : decode cX10_factor 186 = .ok (.invokevirtual 238, 3) := by decide +kernel
theorem dX10_factor_189 : decode cX10_factor 189 = .ok (.ifCond .ne 12, 3) := by decide +kernel
theorem dX10_factor_192 : decode cX10_factor 192 = .ok (.aload_n 0, 1) := by decide +kernel
theorem dX10_factor_193 : decode cX10_factor 193 = .ok (.bipush 15, 2) := by decide +kernel
theorem dX10_factor_195 : decode cX10_factor 195 = .ok (.invokevirtual 238, 3) := by decide +kernel
theorem dX10_factor_198 : decode cX10_factor 198 = .ok (.ifCond .eq 55, 3) := by decide +kernel
theorem dX10_factor_201 : decode cX10_factor 201 = .ok (.aload_n 0, 1) := by decide +kernel
theorem dX10_factor_202 : decode cX10_factor 202 = .ok (.bipush 14, 2) := by decide +kernel
theorem dX10_factor_204 : decode cX10_factor 204 = .ok (.invokevirtual 238, 3) := by decide +kernel
theorem dX10_factor_207 : decode cX10_factor 207 = .ok (.ifCond .eq 8, 3) := by decide +kernel
theorem dX10_factor_210 : decode cX10_factor 210 = .ok (.bipush 32, 2) := by decide +kernel
theorem dX10_factor_212 : decode cX10_factor 212 = .ok (.goto 5, 3) := by decide +kernel
theorem dX10_factor_215 : decode cX10_factor 215 = .ok (.bipush 33, 2) := by decide +kernel
theorem dX10_factor_217 : decode cX10_factor 217 = .ok (.istore_n 1, 1) := by decide +kernel
theorem dX10_factor_218 : decode cX10_factor 218 = .ok (.aload_n 0, 1) := by decide +kernel
theorem dX10_factor_219 : decode cX10_factor 219 = .ok (.invokevirtual 241, 3) := by decide +kernel
theorem dX10_factor_222 : decode cX10_factor 222 = .ok (.aload_n 0, 1) := by decide +kernel
theorem dX10_factor_223 : decode cX10_factor 223 = .ok (.invokevirtual 280, 3) := by decide +kernel
theorem dX10_factor_226 : decode cX10_factor 226 = .ok (.aload_n 0, 1) := by decide +kernel
theorem dX10_factor_227 : decode cX10_factor 227 = .ok (.invokevirtual 247, 3) := by decide +kernel
theorem dX10_factor_230 : decode cX10_factor 230 = .ok (.aload_n 0, 1) := by decide +kernel
theorem dX10_factor_231 : decode cX10_factor 231 = .ok (.bipush 104, 2) := by decide +kernel
theorem dX10_factor_233 : decode cX10_factor 233 = .ok (.invokevirtual 286, 3) := by decide +kernel
theorem dX10_factor_236 : decode cX10_factor 236 = .ok (.aload_n 0, 1) := by decide +kernel
theorem dX10_factor_237 : decode cX10_factor 237 = .ok (.invokevirtual 247, 3) := by decide +kernel
theorem dX10_factor_240 : decode cX10_factor 240 = .ok (.aload_n 0, 1) := by decide +kernel
theorem dX10_factor_241 : decode cX10_factor 241 = .ok (.invokevirtual 283, 3) := by decide +kernel
theorem dX10_factor_244 : decode cX10_factor 244 = .ok (.aload_n 0, 1) := by decide +kernel
theorem dX10_factor_245 : decode cX10_factor 245 = .ok (.iload_n 1, 1) := by decide +kernel
theorem dX10_factor_246 : decode cX10_factor 246 = .ok (.lconst 0, 1) := by decide +kernel
theorem dX10_factor_247 : decode cX10_factor 247 = .ok (.invokevirtual 250, 3) := by decide +kernel
theorem dX10_factor_250 : decode cX10_factor 250 = .ok (.goto 8, 3) := by decide +kernel
theorem dX10_factor_253 : decode cX10_factor 253 = .ok (.aload_n 0, 1) := by decide +kernel
theorem dX10_factor_254 : decode cX10_factor 254 = .ok (.invokevirtual 234, 3) := by decide +kernel
theorem dX10_factor_257 : decode cX10_factor 257 = .ok (.athrow, 1) := by decide +kernel
theorem dX10_factor_258 : decode cX10_factor 258 = .ok (.return_, 1) := by decide +kernel
theorem dX10_open_0 : decode cX10_open 0 = .ok (.aload_n 0, 1) := by decide +kernel
theorem dX10_open_1 : decode cX10_open 1 = .ok (.bipush 100, 2) := by decide +kernel
theorem dX10_open_3 : decode cX10_open 3 = .ok (.invokevirtual 238, 3) := by decide +kernel
theorem dX10_open_6 : decode cX10_open 6 = .ok (.ifCond .ne 8, 3) := by decide +kernel
theorem dX10_open_9 : decode cX10_open 9 = .ok (.aload_n 0, 1) := by decide +kernel
theorem dX10_open_10 : decode cX10_open 10 = .ok (.invokevirtual 234, 3) := by decide +kernel
theorem dX10_open_13 : decode cX10_open 13 = .ok (.athrow, 1) := by decide +kernel
theorem dX10_open_14 : decode cX10_open 14 = .ok (.aload_n 0, 1) := by decide +kernel
theorem dX10_open_15 : decode cX10_open 15 = .ok (.invokevirtual 277, 3) := by decide +kernel
theorem dX10_open_18 : decode cX10_open 18 = .ok (.aload_n 0, 1) := by decide +kernel
theorem dX10_open_19 : decode cX10_open 19 = .ok (.invokevirtual 241, 3) := by decide +kernel
theorem dX10_open_22 : decode cX10_open 22 = .ok (.return_, 1) := by decide +kernel
theorem dX10_close_0 : decode cX10_close 0 = .ok (.aload_n 0, 1) := by decide +kernel
theorem dX10_close_1 : decode cX10_close 1 = .ok (.bipush 101, 2) := by decide +kernel
theorem dX10_close_3 : decode cX10_close 3 = .ok (.invokevirtual 286, 3) := by decide +kernel
theorem dX10_close_6 : decode cX10_close 6 = .ok (.aload_n 0, 1) := by decide +kernel
theorem dX10_close_7 : decode cX10_close 7 = .ok (.dup, 1) := by decide +kernel
theorem dX10_close_8 : decode cX10_close 8 = .ok (.getfield 244, 3) := by decide +kernel
theorem dX10_close_11 : decode cX10_close 11 = .ok (.iconst 1, 1) := by decide +kernel
theorem dX10_close_12 : decode cX10_close 12 = .ok (.isub, 1) := by decide +kernel
theorem dX10_close_13 : decode cX10_close 13 = .ok (.putfield 244, 3) := by decide +kernel
theorem dX10_close_16 : decode cX10_close 16 = .ok (.return_, 1) := by decide +kernel
theorem dX10_variableHere_0 : decode cX10_variableHere 0 = .ok (.aload_n 0, 1) := by decide +kernel
theorem dX10_variableHere_1 : decode cX10_variableHere 1 = .ok (.getfield 227, 3) := by decide +kernel
theorem dX10_variableHere_4 : decode cX10_variableHere 4 = .ok (.ifCond .eq 26, 3) := by decide +kernel
theorem dX10_variableHere_7 : decode cX10_variableHere 7 = .ok (.aload_n 0, 1) := by decide +kernel
theorem dX10_variableHere_8 : decode cX10_variableHere 8 = .ok (.getfield 29, 3) := by decide +kernel
theorem dX10_variableHere_11 : decode cX10_variableHere 11 = .ok (.aload_n 0, 1) := by decide +kernel
theorem dX10_variableHere_12 : decode cX10_variableHere 12 = .ok (.getfield 198, 3) := by decide +kernel
theorem dX10_variableHere_15 : decode cX10_variableHere 15 = .ok (.aload_n 0, 1) := by decide +kernel
theorem dX10_variableHere_16 : decode cX10_variableHere 16 = .ok (.getfield 23, 3) := by decide +kernel
theorem dX10_variableHere_19 : decode cX10_variableHere 19 = .ok (.aload_n 0, 1) := by decide +kernel
theorem dX10_variableHere_20 : decode cX10_variableHere 20 = .ok (.getfield 219, 3) := by decide +kernel
theorem dX10_variableHere_23 : decode cX10_variableHere 23 = .ok (.laload, 1) := by decide +kernel
theorem dX10_variableHere_24 : decode cX10_variableHere 24 = .ok (.invokestatic 183, 3) := by decide +kernel
theorem dX10_variableHere_27 : decode cX10_variableHere 27 = .ok (.goto 4, 3) := by decide +kernel
theorem dX10_variableHere_30 : decode cX10_variableHere 30 = .ok (.iconst 0, 1) := by decide +kernel
theorem dX10_variableHere_31 : decode cX10_variableHere 31 = .ok (.istore_n 1, 1) := by decide +kernel
theorem dX10_variableHere_32 : decode cX10_variableHere 32 = .ok (.aload_n 0, 1) := by decide +kernel
theorem dX10_variableHere_33 : decode cX10_variableHere 33 = .ok (.iload_n 1, 1) := by decide +kernel
theorem dX10_variableHere_34 : decode cX10_variableHere 34 = .ok (.iconst (-1), 1) := by decide +kernel
theorem dX10_variableHere_35 : decode cX10_variableHere 35 = .ok (.if_icmp .eq 7, 3) := by decide +kernel
theorem dX10_variableHere_38 : decode cX10_variableHere 38 = .ok (.iconst 1, 1) := by decide +kernel
theorem dX10_variableHere_39 : decode cX10_variableHere 39 = .ok (.goto 4, 3) := by decide +kernel
theorem dX10_variableHere_42 : decode cX10_variableHere 42 = .ok (.iconst 0, 1) := by decide +kernel
theorem dX10_variableHere_43 : decode cX10_variableHere 43 = .ok (.iconst 2, 1) := by decide +kernel
theorem dX10_variableHere_44 : decode cX10_variableHere 44 = .ok (.aload_n 0, 1) := by decide +kernel
theorem dX10_variableHere_45 : decode cX10_variableHere 45 = .ok (.getfield 20, 3) := by decide +kernel
theorem dX10_variableHere_48 : decode cX10_variableHere 48 = .ok (.aload_n 0, 1) := by decide +kernel
theorem dX10_variableHere_49 : decode cX10_variableHere 49 = .ok (.getfield 219, 3) := by decide +kernel
theorem dX10_variableHere_52 : decode cX10_variableHere 52 = .ok (.iaload, 1) := by decide +kernel
theorem dX10_variableHere_53 : decode cX10_variableHere 53 = .ok (.invokevirtual 288, 3) := by decide +kernel
theorem dX10_variableHere_56 : decode cX10_variableHere 56 = .ok (.iload_n 1, 1) := by decide +kernel
theorem dX10_variableHere_57 : decode cX10_variableHere 57 = .ok (.ireturn, 1) := by decide +kernel
theorem dX10_newName_0 : decode cX10_newName 0 = .ok (.aload_n 0, 1) := by decide +kernel
theorem dX10_newName_1 : decode cX10_newName 1 = .ok (.sipush 200, 3) := by decide +kernel
theorem dX10_newName_4 : decode cX10_newName 4 = .ok (.invokevirtual 238, 3) := by decide +kernel
theorem dX10_newName_7 : decode cX10_newName 7 = .ok (.ifCond .ne 8, 3) := by decide +kernel
theorem dX10_newName_10 : decode cX10_newName 10 = .ok (.aload_n 0, 1) := by decide +kernel
theorem dX10_newName_11 : decode cX10_newName 11 = .ok (.invokevirtual 234, 3) := by decide +kernel
theorem dX10_newName_14 : decode cX10_newName 14 = .ok (.athrow, 1) := by decide +kernel
theorem dX10_newName_15 : decode cX10_newName 15 = .ok (.aload_n 0, 1) := by decide +kernel
theorem dX10_newName_16 : decode cX10_newName 16 = .ok (.getfield 23, 3) := by decide +kernel
theorem dX10_newName_19 : decode cX10_newName 19 = .ok (.aload_n 0, 1) := by decide +kernel
theorem dX10_newName_20 : decode cX10_newName 20 = .ok (.getfield 219, 3) := by decide +kernel
theorem dX10_newName_23 : decode cX10_newName 23 = .ok (.laload, 1) := by decide +kernel
theorem dX10_newName_24 : decode cX10_newName 24 = .ok (.lstore_n 1, 1) := by decide +kernel
theorem dX10_newName_25 : decode cX10_newName 25 = .ok (.aload_n 0, 1) := by decide +kernel
theorem dX10_newName_26 : decode cX10_newName 26 = .ok (.aload_n 0, 1) := by decide +kernel
theorem dX10_newName_27 : decode cX10_newName 27 = .ok (.getfield 26, 3) := by decide +kernel
theorem dX10_newName_30 : decode cX10_newName 30 = .ok (.aload_n 0, 1) := by decide +kernel
theorem dX10_newName_31 : decode cX10_newName 31 = .ok (.getfield 195, 3) := by decide +kernel
theorem dX10_newName_34 : decode cX10_newName 34 = .ok (.lload_n 1, 1) := by decide +kernel
theorem dX10_newName_35 : decode cX10_newName 35 = .ok (.invokestatic 183, 3) := by decide +kernel
theorem dX10_newName_38 : decode cX10_newName 38 = .ok (.iconst (-1), 1) := by decide +kernel
theorem dX10_newName_39 : decode cX10_newName 39 = .ok (.if_icmp .ne 7, 3) := by decide +kernel
theorem dX10_newName_42 : decode cX10_newName 42 = .ok (.iconst 1, 1) := by decide +kernel
theorem dX10_newName_43 : decode cX10_newName 43 = .ok (.goto 4, 3) := by decide +kernel
theorem dX10_newName_46 : decode cX10_newName 46 = .ok (.iconst 0, 1) := by decide +kernel
theorem dX10_newName_47 : decode cX10_newName 47 = .ok (.iconst 3, 1) := by decide +kernel
theorem dX10_newName_48 : decode cX10_newName 48 = .ok (.aload_n 0, 1) := by decide +kernel
theorem dX10_newName_49 : decode cX10_newName 49 = .ok (.getfield 20, 3) := by decide +kernel
theorem dX10_newName_52 : decode cX10_newName 52 = .ok (.aload_n 0, 1) := by decide +kernel
theorem dX10_newName_53 : decode cX10_newName 53 = .ok (.getfield 219, 3) := by decide +kernel
theorem dX10_newName_56 : decode cX10_newName 56 = .ok (.iaload, 1) := by decide +kernel
theorem dX10_newName_57 : decode cX10_newName 57 = .ok (.invokevirtual 288, 3) := by decide +kernel
theorem dX10_newName_60 : decode cX10_newName 60 = .ok (.aload_n 0, 1) := by decide +kernel
theorem dX10_newName_61 : decode cX10_newName 61 = .ok (.getfield 227, 3) := by decide +kernel
theorem dX10_newName_64 : decode cX10_newName 64 = .ok (.ifCond .eq 23, 3) := by decide +kernel
theorem dX10_newName_67 : decode cX10_newName 67 = .ok (.aload_n 0, 1) := by decide +kernel
theorem dX10_newName_68 : decode cX10_newName 68 = .ok (.getfield 26, 3) := by decide +kernel
theorem dX10_newName_71 : decode cX10_newName 71 = .ok (.aload_n 0, 1) := by decide +kernel
theorem dX10_newName_72 : decode cX10_newName 72 = .ok (.getfield 195, 3) := by decide +kernel
theorem dX10_newName_75 : decode cX10_newName 75 = .ok (.lload_n 1, 1) := by decide +kernel
theorem dX10_newName_76 : decode cX10_newName 76 = .ok (.lastore, 1) := by decide +kernel
theorem dX10_newName_77 : decode cX10_newName 77 = .ok (.aload_n 0, 1) := by decide +kernel
theorem dX10_newName_78 : decode cX10_newName 78 = .ok (.dup, 1) := by decide +kernel
theorem dX10_newName_79 : decode cX10_newName 79 = .ok (.getfield 195, 3) := by decide +kernel
theorem dX10_newName_82 : decode cX10_newName 82 = .ok (.iconst 1, 1) := by decide +kernel
theorem dX10_newName_83 : decode cX10_newName 83 = .ok (.iadd, 1) := by decide +kernel
theorem dX10_newName_84 : decode cX10_newName 84 = .ok (.putfield 195, 3) := by decide +kernel
theorem dX10_newName_87 : decode cX10_newName 87 = .ok (.aload_n 0, 1) := by decide +kernel
theorem dX10_newName_88 : decode cX10_newName 88 = .ok (.invokevirtual 241, 3) := by decide +kernel
theorem dX10_newName_91 : decode cX10_newName 91 = .ok (.lload_n 1, 1) := by decide +kernel
theorem dX10_newName_92 : decode cX10_newName 92 = .ok (.lreturn, 1) := by decide +kernel
theorem dX10_wholeNumber_0 : decode cX10_wholeNumber 0 = .ok (.aload_n 0, 1) := by decide +kernel
theorem dX10_wholeNumber_1 : decode cX10_wholeNumber 1 = .ok (.bipush 107, 2) := by decide +kernel
theorem dX10_wholeNumber_3 : decode cX10_wholeNumber 3 = .ok (.invokevirtual 238, 3) := by decide +kernel
theorem dX10_wholeNumber_6 : decode cX10_wholeNumber 6 = .ok (.istore_n 1, 1) := by decide +kernel
theorem dX10_wholeNumber_7 : decode cX10_wholeNumber 7 = .ok (.iload_n 1, 1) := by decide +kernel
theorem dX10_wholeNumber_8 : decode cX10_wholeNumber 8 = .ok (.ifCond .eq 7, 3) := by decide +kernel
theorem dX10_wholeNumber_11 : decode cX10_wholeNumber 11 = .ok (.aload_n 0, 1) := by decide +kernel
theorem dX10_wholeNumber_12 : decode cX10_wholeNumber 12 = .ok (.invokevirtual 241, 3) := by decide +kernel
theorem dX10_wholeNumber_15 : decode cX10_wholeNumber 15 = .ok (.aload_n 0, 1) := by decide +kernel
theorem dX10_wholeNumber_16 : decode cX10_wholeNumber 16 = .ok (.sipush 201, 3) := by decide +kernel
theorem dX10_wholeNumber_19 : decode cX10_wholeNumber 19 = .ok (.invokevirtual 238, 3) := by decide +kernel
theorem dX10_wholeNumber_22 : decode cX10_wholeNumber 22 = .ok (.ifCond .ne 8, 3) := by decide +kernel
theorem dX10_wholeNumber_25 : decode cX10_wholeNumber 25 = .ok (.aload_n 0, 1) := by decide +kernel
theorem dX10_wholeNumber_26 : decode cX10_wholeNumber 26 = .ok (.invokevirtual 234, 3) := by decide +kernel
theorem dX10_wholeNumber_29 : decode cX10_wholeNumber 29 = .ok (.athrow, 1) := by decide +kernel
theorem dX10_wholeNumber_30 : decode cX10_wholeNumber 30 = .ok (.aload_n 0, 1) := by decide +kernel
theorem dX10_wholeNumber_31 : decode cX10_wholeNumber 31 = .ok (.aload_n 0, 1) := by decide +kernel
theorem dX10_wholeNumber_32 : decode cX10_wholeNumber 32 = .ok (.getfield 20, 3) := by decide +kernel
theorem dX10_wholeNumber_35 : decode cX10_wholeNumber 35 = .ok (.aload_n 0, 1) := by decide +kernel
theorem dX10_wholeNumber_36 : decode cX10_wholeNumber 36 = .ok (.getfield 219, 3) := by decide +kernel
theorem dX10_wholeNumber_39 : decode cX10_wholeNumber 39 = .ok (.iaload, 1) := by decide +kernel
theorem dX10_wholeNumber_40 : decode cX10_wholeNumber 40 = .ok (.putfield 292, 3) := by decide +kernel
theorem dX10_wholeNumber_43 : decode cX10_wholeNumber 43 = .ok (.aload_n 0, 1) := by decide +kernel
theorem dX10_wholeNumber_44 : decode cX10_wholeNumber 44 = .ok (.getfield 23, 3) := by decide +kernel
theorem dX10_wholeNumber_47 : decode cX10_wholeNumber 47 = .ok (.aload_n 0, 1) := by decide +kernel
theorem dX10_wholeNumber_48 : decode cX10_wholeNumber 48 = .ok (.getfield 219, 3) := by decide +kernel
theorem dX10_wholeNumber_51 : decode cX10_wholeNumber 51 = .ok (.laload, 1) := by decide +kernel
theorem dX10_wholeNumber_52 : decode cX10_wholeNumber 52 = .ok (.l2i, 1) := by decide +kernel
theorem dX10_wholeNumber_53 : decode cX10_wholeNumber 53 = .ok (.istore_n 2, 1) := by decide +kernel
theorem dX10_wholeNumber_54 : decode cX10_wholeNumber 54 = .ok (.aload_n 0, 1) := by decide +kernel
theorem dX10_wholeNumber_55 : decode cX10_wholeNumber 55 = .ok (.invokevirtual 241, 3) := by decide +kernel
theorem dX10_wholeNumber_58 : decode cX10_wholeNumber 58 = .ok (.iload_n 1, 1) := by decide +kernel
theorem dX10_wholeNumber_59 : decode cX10_wholeNumber 59 = .ok (.ifCond .eq 8, 3) := by decide +kernel
theorem dX10_wholeNumber_62 : decode cX10_wholeNumber 62 = .ok (.iload_n 2, 1) := by decide +kernel
theorem dX10_wholeNumber_63 : decode cX10_wholeNumber 63 = .ok (.ineg, 1) := by decide +kernel
theorem dX10_wholeNumber_64 : decode cX10_wholeNumber 64 = .ok (.goto 4, 3) := by decide +kernel
theorem dX10_wholeNumber_67 : decode cX10_wholeNumber 67 = .ok (.iload_n 2, 1) := by decide +kernel
theorem dX10_wholeNumber_68 : decode cX10_wholeNumber 68 = .ok (.ireturn, 1) := by decide +kernel
theorem dX10_item_0 : decode cX10_item 0 = .ok (.aload_n 0, 1) := by decide +kernel
theorem dX10_item_1 : decode cX10_item 1 = .ok (.getfield 17, 3) := by decide +kernel
theorem dX10_item_4 : decode cX10_item 4 = .ok (.aload_n 0, 1) := by decide +kernel
theorem dX10_item_5 : decode cX10_item 5 = .ok (.getfield 219, 3) := by decide +kernel
theorem dX10_item_8 : decode cX10_item 8 = .ok (.iaload, 1) := by decide +kernel
theorem dX10_item_9 : decode cX10_item 9 = .ok (.istore_n 1, 1) := by decide +kernel
theorem dX10_item_10 : decode cX10_item 10 = .ok (.aload_n 0, 1) := by decide +kernel
theorem dX10_item_11 : decode cX10_item 11 = .ok (.getfield 20, 3) := by decide +kernel
theorem dX10_item_14 : decode cX10_item 14 = .ok (.aload_n 0, 1) := by decide +kernel
theorem dX10_item_15 : decode cX10_item 15 = .ok (.getfield 219, 3) := by decide +kernel
theorem dX10_item_18 : decode cX10_item 18 = .ok (.iaload, 1) := by decide +kernel
theorem dX10_item_19 : decode cX10_item 19 = .ok (.istore_n 2, 1) := by decide +kernel
theorem dX10_item_20 : decode cX10_item 20 = .ok (.iload_n 1, 1) := by decide +kernel
theorem dX10_item_21 : decode cX10_item 21 = .ok (.ifCond .eq 24, 3) := by decide +kernel
theorem dX10_item_24 : decode cX10_item 24 = .ok (.iload_n 1, 1) := by decide +kernel
theorem dX10_item_25 : decode cX10_item 25 = .ok (.iconst 3, 1) := by decide +kernel
theorem dX10_item_26 : decode cX10_item 26 = .ok (.if_icmp .eq 19, 3) := by decide +kernel
theorem dX10_item_29 : decode cX10_item 29 = .ok (.iload_n 1, 1) := by decide +kernel
theorem dX10_item_30 : decode cX10_item 30 = .ok (.iconst 5, 1) := by decide +kernel
theorem dX10_item_31 : decode cX10_item 31 = .ok (.if_icmp .eq 14, 3) := by decide +kernel
theorem dX10_item_34 : decode cX10_item 34 = .ok (.iload_n 1, 1) := by decide +kernel
theorem dX10_item_35 : decode cX10_item 35 = .ok (.bipush 6, 2) := by decide +kernel
theorem dX10_item_37 : decode cX10_item 37 = .ok (.if_icmp .eq 8, 3) := by decide +kernel
theorem dX10_item_40 : decode cX10_item 40 = .ok (.aload_n 0, 1) := by decide +kernel
theorem dX10_item_41 : decode cX10_item 41 = .ok (.invokevirtual 234, 3) := by decide +kernel
theorem dX10_item_44 : decode cX10_item 44 = .ok (.athrow, 1) := by decide +kernel
theorem dX10_item_45 : decode cX10_item 45 = .ok (.aload_n 0, 1) := by decide +kernel
theorem dX10_item_46 : decode cX10_item 46 = .ok (.invokevirtual 241, 3) := by decide +kernel
theorem dX10_item_49 : decode cX10_item 49 = .ok (.aload_n 0, 1) := by decide +kernel
theorem dX10_item_50 : decode cX10_item 50 = .ok (.iload_n 1, 1) := by decide +kernel
theorem dX10_item_51 : decode cX10_item 51 = .ok (.ifCond .ne 20, 3) := by decide +kernel
theorem dX10_item_54 : decode cX10_item 54 = .ok (.aload_n 0, 1) := by decide +kernel
theorem dX10_item_55 : decode cX10_item 55 = .ok (.getfield 198, 3) := by decide +kernel
theorem dX10_item_58 : decode cX10_item 58 = .ok (.bipush 6, 2) := by decide +kernel
theorem dX10_item_60 : decode cX10_item 60 = .ok (.if_icmp .ge 7, 3) := by decide +kernel
theorem dX10_item_63 : decode cX10_item 63 = .ok (.iconst 1, 1) := by decide +kernel
theorem dX10_item_64 : decode cX10_item 64 = .ok (.goto 64, 3) := by decide +kernel
theorem dX10_item_67 : decode cX10_item 67 = .ok (.iconst 0, 1) := by decide +kernel
theorem dX10_item_68 : decode cX10_item 68 = .ok (.goto 60, 3) := by decide +kernel
theorem dX10_item_71 : decode cX10_item 71 = .ok (.iload_n 1, 1) := by decide +kernel
theorem dX10_item_72 : decode cX10_item 72 = .ok (.iconst 3, 1) := by decide +kernel
theorem dX10_item_73 : decode cX10_item 73 = .ok (.if_icmp .ne 19, 3) := by decide +kernel
theorem dX10_item_76 : decode cX10_item 76 = .ok (.aload_n 0, 1) := by decide +kernel
theorem dX10_item_77 : decode cX10_item 77 = .ok (.getfield 201, 3) := by decide +kernel
theorem dX10_item_80 : decode cX10_item 80 = .ok (.iconst 3, 1) := by decide +kernel
theorem dX10_item_81 : decode cX10_item 81 = .ok (.if_icmp .ge 7, 3) := by decide +kernel
theorem dX10_item_84 : decode cX10_item 84 = .ok (.iconst 1, 1) := by decide +kernel
theorem dX10_item_85 : decode cX10_item 85 = .ok (.goto 43, 3) := by decide +kernel
theorem dX10_item_88 : decode cX10_item 88 = .ok (.iconst 0, 1) := by decide +kernel
theorem dX10_item_89 : decode cX10_item 89 = .ok (.goto 39, 3) := by decide +kernel
theorem dX10_item_92 : decode cX10_item 92 = .ok (.iload_n 1, 1) := by decide +kernel
theorem dX10_item_93 : decode cX10_item 93 = .ok (.bipush 6, 2) := by decide +kernel
theorem dX10_item_95 : decode cX10_item 95 = .ok (.if_icmp .ne 20, 3) := by decide +kernel
theorem dX10_item_98 : decode cX10_item 98 = .ok (.aload_n 0, 1) := by decide +kernel
theorem dX10_item_99 : decode cX10_item 99 = .ok (.getfield 207, 3) := by decide +kernel
theorem dX10_item_102 : decode cX10_item 102 = .ok (.bipush 16, 2) := by decide +kernel
theorem dX10_item_104 : decode cX10_item 104 = .ok (.if_icmp .ge 7, 3) := by decide +kernel
theorem dX10_item_107 : decode cX10_item 107 = .ok (.iconst 1, 1) := by decide +kernel
theorem dX10_item_108 : decode cX10_item 108 = .ok (.goto 20, 3) := by decide +kernel
theorem dX10_item_111 : decode cX10_item 111 = .ok (.iconst 0, 1) := by decide +kernel
theorem dX10_item_112 : decode cX10_item 112 = .ok (.goto 16, 3) := by decide +kernel
theorem dX10_item_115 : decode cX10_item 115 = .ok (.aload_n 0, 1) := by decide +kernel
theorem dX10_item_116 : decode cX10_item 116 = .ok (.getfield 204, 3) := by decide +kernel
theorem dX10_item_119 : decode cX10_item 119 = .ok (.iconst (-1), 1) := by decide +kernel
theorem dX10_item_120 : decode cX10_item 120 = .ok (.if_icmp .ne 7, 3) := by decide +kernel
theorem dX10_item_123 : decode cX10_item 123 = .ok (.iconst 1, 1) := by decide +kernel
theorem dX10_item_124 : decode cX10_item 124 = .ok (.goto 4, 3) := by decide +kernel
theorem dX10_item_127 : decode cX10_item 127 = .ok (.iconst 0, 1) := by decide +kernel
theorem dX10_item_128 : decode cX10_item 128 = .ok (.iconst 4, 1) := by decide +kernel
theorem dX10_item_129 : decode cX10_item 129 = .ok (.iload_n 2, 1) := by decide +kernel
theorem dX10_item_130 : decode cX10_item 130 = .ok (.invokevirtual 288, 3) := by decide +kernel
theorem dX10_item_133 : decode cX10_item 133 = .ok (.iload_n 1, 1) := by decide +kernel
theorem dX10_item_134 : decode cX10_item 134 = .ok (.ifCond .ne 10, 3) := by decide +kernel
theorem dX10_item_137 : decode cX10_item 137 = .ok (.aload_n 0, 1) := by decide +kernel
theorem dX10_item_138 : decode cX10_item 138 = .ok (.invokevirtual 295, 3) := by decide +kernel
theorem dX10_item_141 : decode cX10_item 141 = .ok (.goto 45, 3) := by decide +kernel
theorem dX10_item_144 : decode cX10_item 144 = .ok (.iload_n 1, 1) := by decide +kernel
theorem dX10_item_145 : decode cX10_item 145 = .ok (.iconst 3, 1) := by decide +kernel
theorem dX10_item_146 : decode cX10_item 146 = .ok (.if_icmp .ne 10, 3) := by decide +kernel
theorem dX10_item_149 : decode cX10_item 149 = .ok (.aload_n 0, 1) := by decide +kernel
theorem dX10_item_150 : decode cX10_item 150 = .ok (.invokevirtual 298, 3) := by decide +kernel
theorem dX10_item_153 : decode cX10_item 153 = .ok (.goto 33, 3) := by decide +kernel
theorem dX10_item_156 : decode cX10_item 156 = .ok (.iload_n 1, 1) := by decide +kernel
theorem dX10_item_157 : decode cX10_item 157 = .ok (.bipush 6, 2) := by decide +kernel
theorem dX10_item_159 : decode cX10_item 159 = .ok (.if_icmp .ne 10, 3) := by decide +kernel
theorem dX10_item_162 : decode cX10_item 162 = .ok (.aload_n 0, 1) := by decide +kernel
theorem dX10_item_163 : decode cX10_item 163 = .ok (.invokevirtual 301, 3) := by decide +kernel
theorem dX10_item_166 : decode cX10_item 166 = .ok (.goto 20, 3) := by decide +kernel
theorem dX10_item_169 : decode cX10_item 169 = .ok (.aload_n 0, 1) := by decide +kernel
theorem dX10_item_170 : decode cX10_item 170 = .ok (.invokevirtual 304, 3) := by decide +kernel
theorem dX10_item_173 : decode cX10_item 173 = .ok (.istore_n 3, 1) := by decide +kernel
theorem dX10_item_174 : decode cX10_item 174 = .ok (.aload_n 0, 1) := by decide +kernel
theorem dX10_item_175 : decode cX10_item 175 = .ok (.getfield 227, 3) := by decide +kernel
theorem dX10_item_178 : decode cX10_item 178 = .ok (.ifCond .eq 8, 3) := by decide +kernel
theorem dX10_item_181 : decode cX10_item 181 = .ok (.aload_n 0, 1) := by decide +kernel
theorem dX10_item_182 : decode cX10_item 182 = .ok (.iload_n 3, 1) := by decide +kernel
theorem dX10_item_183 : decode cX10_item 183 = .ok (.putfield 204, 3) := by decide +kernel
theorem dX10_item_186 : decode cX10_item 186 = .ok (.aload_n 0, 1) := by decide +kernel
theorem dX10_item_187 : decode cX10_item 187 = .ok (.bipush 102, 2) := by decide +kernel
theorem dX10_item_189 : decode cX10_item 189 = .ok (.invokevirtual 286, 3) := by decide +kernel
theorem dX10_item_192 : decode cX10_item 192 = .ok (.return_, 1) := by decide +kernel
theorem dX10_variable_0 : decode cX10_variable 0 = .ok (.aload_n 0, 1) := by decide +kernel
theorem dX10_variable_1 : decode cX10_variable 1 = .ok (.invokevirtual 307, 3) := by decide +kernel
theorem dX10_variable_4 : decode cX10_variable 4 = .ok (.lstore_n 1, 1) := by decide +kernel
theorem dX10_variable_5 : decode cX10_variable 5 = .ok (.aload_n 0, 1) := by decide +kernel
theorem dX10_variable_6 : decode cX10_variable 6 = .ok (.bipush 105, 2) := by decide +kernel
theorem dX10_variable_8 : decode cX10_variable 8 = .ok (.invokevirtual 286, 3) := by decide +kernel
theorem dX10_variable_11 : decode cX10_variable 11 = .ok (.aload_n 0, 1) := by decide +kernel
theorem dX10_variable_12 : decode cX10_variable 12 = .ok (.invokevirtual 311, 3) := by decide +kernel
theorem dX10_variable_15 : decode cX10_variable 15 = .ok (.istore_n 3, 1) := by decide +kernel
theorem dX10_variable_16 : decode cX10_variable 16 = .ok (.aload_n 0, 1) := by decide +kernel
theorem dX10_variable_17 : decode cX10_variable 17 = .ok (.getfield 292, 3) := by decide +kernel
theorem dX10_variable_20 : decode cX10_variable 20 = .ok (.istore 4, 2) := by decide +kernel
theorem dX10_variable_22 : decode cX10_variable 22 = .ok (.aload_n 0, 1) := by decide +kernel
theorem dX10_variable_23 : decode cX10_variable 23 = .ok (.iconst 1, 1) := by decide +kernel
theorem dX10_variable_24 : decode cX10_variable 24 = .ok (.invokevirtual 286, 3) := by decide +kernel
theorem dX10_variable_27 : decode cX10_variable 27 = .ok (.aload_n 0, 1) := by decide +kernel
theorem dX10_variable_28 : decode cX10_variable 28 = .ok (.invokevirtual 311, 3) := by decide +kernel
theorem dX10_variable_31 : decode cX10_variable 31 = .ok (.istore 5, 2) := by decide +kernel
theorem dX10_variable_33 : decode cX10_variable 33 = .ok (.aload_n 0, 1) := by decide +kernel
theorem dX10_variable_34 : decode cX10_variable 34 = .ok (.iload 5, 2) := by decide +kernel
theorem dX10_variable_36 : decode cX10_variable 36 = .ok (.i2l, 1) := by decide +kernel
theorem dX10_variable_37 : decode cX10_variable 37 = .ok (.ldc2_w 314, 3) := by decide +kernel
theorem dX10_variable_40 : decode cX10_variable 40 = .ok (.ldc2_w 316, 3) := by decide +kernel
theorem dX10_variable_43 : decode cX10_variable 43 = .ok (.invokestatic 154, 3) := by decide +kernel
theorem dX10_variable_46 : decode cX10_variable 46 = .ok (.iconst 5, 1) := by decide +kernel
theorem dX10_variable_47 : decode cX10_variable 47 = .ok (.aload_n 0, 1) := by decide +kernel
theorem dX10_variable_48 : decode cX10_variable 48 = .ok (.getfield 292, 3) := by decide +kernel
theorem dX10_variable_51 : decode cX10_variable 51 = .ok (.invokevirtual 288, 3) := by decide +kernel
theorem dX10_variable_54 : decode cX10_variable 54 = .ok (.aload_n 0, 1) := by decide +kernel
theorem dX10_variable_55 : decode cX10_variable 55 = .ok (.iconst 2, 1) := by decide +kernel
theorem dX10_variable_56 : decode cX10_variable 56 = .ok (.invokevirtual 286, 3) := by decide +kernel
theorem dX10_variable_59 : decode cX10_variable 59 = .ok (.aload_n 0, 1) := by decide +kernel
theorem dX10_variable_60 : decode cX10_variable 60 = .ok (.invokevirtual 311, 3) := by decide +kernel
theorem dX10_variable_63 : decode cX10_variable 63 = .ok (.istore 6, 2) := by decide +kernel
theorem dX10_variable_65 : decode cX10_variable 65 = .ok (.aload_n 0, 1) := by decide +kernel
theorem dX10_variable_66 : decode cX10_variable 66 = .ok (.iload 6, 2) := by decide +kernel
theorem dX10_variable_68 : decode cX10_variable 68 = .ok (.i2l, 1) := by decide +kernel
theorem dX10_variable_69 : decode cX10_variable 69 = .ok (.ldc2_w 314, 3) := by decide +kernel
theorem dX10_variable_72 : decode cX10_variable 72 = .ok (.ldc2_w 316, 3) := by decide +kernel
theorem dX10_variable_75 : decode cX10_variable 75 = .ok (.invokestatic 154, 3) := by decide +kernel
theorem dX10_variable_78 : decode cX10_variable 78 = .ok (.ifCond .eq 14, 3) := by decide +kernel
theorem dX10_variable_81 : decode cX10_variable 81 = .ok (.iload 6, 2) := by decide +kernel
theorem dX10_variable_83 : decode cX10_variable 83 = .ok (.iload 5, 2) := by decide +kernel
theorem dX10_variable_85 : decode cX10_variable 85 = .ok (.if_icmp .lt 7, 3) := by decide +kernel
theorem dX10_variable_88 : decode cX10_variable 88 = .ok (.iconst 1, 1) := by decide +kernel
theorem dX10_variable_89 : decode cX10_variable 89 = .ok (.goto 4, 3) := by decide +kernel
theorem dX10_variable_92 : decode cX10_variable 92 = .ok (.iconst 0, 1) := by decide +kernel
theorem dX10_variable_93 : decode cX10_variable 93 = .ok (.iconst 5, 1) := by decide +kernel
theorem dX10_variable_94 : decode cX10_variable 94 = .ok (.aload_n 0, 1) := by decide +kernel
theorem dX10_variable_95 : decode cX10_variable 95 = .ok (.getfield 292, 3) := by decide +kernel
theorem dX10_variable_98 : decode cX10_variable 98 = .ok (.invokevirtual 288, 3) := by decide +kernel
theorem dX10_variable_101 : decode cX10_variable 101 = .ok (.aload_n 0, 1) := by decide +kernel
theorem dX10_variable_102 : decode cX10_variable 102 = .ok (.iload_n 3, 1) := by decide +kernel
theorem dX10_variable_103 : decode cX10_variable 103 = .ok (.i2l, 1) := by decide +kernel
theorem dX10_variable_104 : decode cX10_variable 104 = .ok (.iload 5, 2) := by decide +kernel
theorem dX10_variable_106 : decode cX10_variable 106 = .ok (.i2l, 1) := by decide +kernel
theorem dX10_variable_107 : decode cX10_variable 107 = .ok (.iload 6, 2) := by decide +kernel
theorem dX10_variable_109 : decode cX10_variable 109 = .ok (.i2l, 1) := by decide +kernel
theorem dX10_variable_110 : decode cX10_variable 110 = .ok (.invokestatic 154, 3) := by decide +kernel
theorem dX10_variable_113 : decode cX10_variable 113 = .ok (.iconst 5, 1) := by decide +kernel
theorem dX10_variable_114 : decode cX10_variable 114 = .ok (.iload 4, 2) := by decide +kernel
theorem dX10_variable_116 : decode cX10_variable 116 = .ok (.invokevirtual 288, 3) := by decide +kernel
theorem dX10_variable_119 : decode cX10_variable 119 = .ok (.aload_n 0, 1) := by decide +kernel
theorem dX10_variable_120 : decode cX10_variable 120 = .ok (.getfield 227, 3) := by decide +kernel
theorem dX10_variable_123 : decode cX10_variable 123 = .ok (.ifCond .ne 4, 3) := by decide +kernel
theorem dX10_variable_126 : decode cX10_variable 126 = .ok (.return_, 1) := by decide +kernel
theorem dX10_variable_127 : decode cX10_variable 127 = .ok (.aload_n 0, 1) := by decide +kernel
theorem dX10_variable_128 : decode cX10_variable 128 = .ok (.getfield 29, 3) := by decide +kernel
theorem dX10_variable_131 : decode cX10_variable 131 = .ok (.aload_n 0, 1) := by decide +kernel
theorem dX10_variable_132 : decode cX10_variable 132 = .ok (.getfield 198, 3) := by decide +kernel
theorem dX10_variable_135 : decode cX10_variable 135 = .ok (.lload_n 1, 1) := by decide +kernel
theorem dX10_variable_136 : decode cX10_variable 136 = .ok (.lastore, 1) := by decide +kernel
theorem dX10_variable_137 : decode cX10_variable 137 = .ok (.aload_n 0, 1) := by decide +kernel
theorem dX10_variable_138 : decode cX10_variable 138 = .ok (.getfield 32, 3) := by decide +kernel
theorem dX10_variable_141 : decode cX10_variable 141 = .ok (.aload_n 0, 1) := by decide +kernel
theorem dX10_variable_142 : decode cX10_variable 142 = .ok (.getfield 198, 3) := by decide +kernel
theorem dX10_variable_145 : decode cX10_variable 145 = .ok (.iload_n 3, 1) := by decide +kernel
theorem dX10_variable_146 : decode cX10_variable 146 = .ok (.iastore, 1) := by decide +kernel
theorem dX10_variable_147 : decode cX10_variable 147 = .ok (.aload_n 0, 1) := by decide +kernel
theorem dX10_variable_148 : decode cX10_variable 148 = .ok (.getfield 35, 3) := by decide +kernel
theorem dX10_variable_151 : decode cX10_variable 151 = .ok (.aload_n 0, 1) := by decide +kernel
theorem dX10_variable_152 : decode cX10_variable 152 = .ok (.getfield 198, 3) := by decide +kernel
theorem dX10_variable_155 : decode cX10_variable 155 = .ok (.iload 5, 2) := by decide +kernel
theorem dX10_variable_157 : decode cX10_variable 157 = .ok (.iastore, 1) := by decide +kernel
theorem dX10_variable_158 : decode cX10_variable 158 = .ok (.aload_n 0, 1) := by decide +kernel
theorem dX10_variable_159 : decode cX10_variable 159 = .ok (.getfield 38, 3) := by decide +kernel
theorem dX10_variable_162 : decode cX10_variable 162 = .ok (.aload_n 0, 1) := by decide +kernel
theorem dX10_variable_163 : decode cX10_variable 163 = .ok (.getfield 198, 3) := by decide +kernel
theorem dX10_variable_166 : decode cX10_variable 166 = .ok (.iload 6, 2) := by decide +kernel
theorem dX10_variable_168 : decode cX10_variable 168 = .ok (.iastore, 1) := by decide +kernel
theorem dX10_variable_169 : decode cX10_variable 169 = .ok (.aload_n 0, 1) := by decide +kernel
theorem dX10_variable_170 : decode cX10_variable 170 = .ok (.dup, 1) := by decide +kernel
theorem dX10_variable_171 : decode cX10_variable 171 = .ok (.getfield 198, 3) := by decide +kernel
theorem dX10_variable_174 : decode cX10_variable 174 = .ok (.iconst 1, 1) := by decide +kernel
theorem dX10_variable_175 : decode cX10_variable 175 = .ok (.iadd, 1) := by decide +kernel
theorem dX10_variable_176 : decode cX10_variable 176 = .ok (.putfield 198, 3) := by decide +kernel
theorem dX10_variable_179 : decode cX10_variable 179 = .ok (.return_, 1) := by decide +kernel
theorem dX10_isCommand_0 : decode cX10_isCommand 0 = .ok (.iconst 0, 1) := by decide +kernel
theorem dX10_isCommand_1 : decode cX10_isCommand 1 = .ok (.istore_n 3, 1) := by decide +kernel
theorem dX10_isCommand_2 : decode cX10_isCommand 2 = .ok (.iconst 0, 1) := by decide +kernel
theorem dX10_isCommand_3 : decode cX10_isCommand 3 = .ok (.istore 4, 2) := by decide +kernel
theorem dX10_isCommand_5 : decode cX10_isCommand 5 = .ok (.iload 4, 2) := by decide +kernel
theorem dX10_isCommand_7 : decode cX10_isCommand 7 = .ok (.iconst 1, 1) := by decide +kernel
theorem dX10_isCommand_8 : decode cX10_isCommand 8 = .ok (.iadd, 1) := by decide +kernel
theorem dX10_isCommand_9 : decode cX10_isCommand 9 = .ok (.aload_n 0, 1) := by decide +kernel
theorem dX10_isCommand_10 : decode cX10_isCommand 10 = .ok (.getfield 166, 3) := by decide +kernel
theorem dX10_isCommand_13 : decode cX10_isCommand 13 = .ok (.if_icmp .ge 60, 3) := by decide +kernel
theorem dX10_isCommand_16 : decode cX10_isCommand 16 = .ok (.iload_n 3, 1) := by decide +kernel
theorem dX10_isCommand_17 : decode cX10_isCommand 17 = .ok (.ifCond .ne 44, 3) := by decide +kernel
theorem dX10_isCommand_20 : decode cX10_isCommand 20 = .ok (.aload_n 0, 1) := by decide +kernel
theorem dX10_isCommand_21 : decode cX10_isCommand 21 = .ok (.getfield 17, 3) := by decide +kernel
theorem dX10_isCommand_24 : decode cX10_isCommand 24 = .ok (.iload 4, 2) := by decide +kernel
theorem dX10_isCommand_26 : decode cX10_isCommand 26 = .ok (.iaload, 1) := by decide +kernel
theorem dX10_isCommand_27 : decode cX10_isCommand 27 = .ok (.bipush 6, 2) := by decide +kernel
theorem dX10_isCommand_29 : decode cX10_isCommand 29 = .ok (.if_icmp .ne 36, 3) := by decide +kernel
theorem dX10_isCommand_32 : decode cX10_isCommand 32 = .ok (.aload_n 0, 1) := by decide +kernel
theorem dX10_isCommand_33 : decode cX10_isCommand 33 = .ok (.getfield 17, 3) := by decide +kernel
theorem dX10_isCommand_36 : decode cX10_isCommand 36 = .ok (.iload 4, 2) := by decide +kernel
theorem dX10_isCommand_38 : decode cX10_isCommand 38 = .ok (.iconst 1, 1) := by decide +kernel
theorem dX10_isCommand_39 : decode cX10_isCommand 39 = .ok (.iadd, 1) := by decide +kernel
theorem dX10_isCommand_40 : decode cX10_isCommand 40 = .ok (.iaload, 1) := by decide +kernel
theorem dX10_isCommand_41 : decode cX10_isCommand 41 = .ok (.sipush 200, 3) := by decide +kernel
theorem dX10_isCommand_44 : decode cX10_isCommand 44 = .ok (.if_icmp .ne 21, 3) := by decide +kernel
theorem dX10_isCommand_47 : decode cX10_isCommand 47 = .ok (.aload_n 0, 1) := by decide +kernel
theorem dX10_isCommand_48 : decode cX10_isCommand 48 = .ok (.getfield 23, 3) := by decide +kernel
theorem dX10_isCommand_51 : decode cX10_isCommand 51 = .ok (.iload 4, 2) := by decide +kernel
theorem dX10_isCommand_53 : decode cX10_isCommand 53 = .ok (.iconst 1, 1) := by decide +kernel
theorem dX10_isCommand_54 : decode cX10_isCommand 54 = .ok (.iadd, 1) := by decide +kernel
theorem dX10_isCommand_55 : decode cX10_isCommand 55 = .ok (.laload, 1) := by decide +kernel
theorem dX10_isCommand_56 : decode cX10_isCommand 56 = .ok (.lload_n 1, 1) := by decide +kernel
theorem dX10_isCommand_57 : decode cX10_isCommand 57 = .ok (.lcmp, 1) := by decide +kernel
theorem dX10_isCommand_58 : decode cX10_isCommand 58 = .ok (.ifCond .ne 7, 3) := by decide +kernel
theorem dX10_isCommand_61 : decode cX10_isCommand 61 = .ok (.iconst 1, 1) := by decide +kernel
theorem dX10_isCommand_62 : decode cX10_isCommand 62 = .ok (.goto 4, 3) := by decide +kernel
theorem dX10_isCommand_65 : decode cX10_isCommand 65 = .ok (.iconst 0, 1) := by decide +kernel
theorem dX10_isCommand_66 : decode cX10_isCommand 66 = .ok (.istore_n 3, 1) := by decide +kernel
theorem dX10_isCommand_67 : decode cX10_isCommand 67 = .ok (.iinc 4 1, 3) := by decide +kernel
theorem dX10_isCommand_70 : decode cX10_isCommand 70 = .ok (.goto (-65), 3) := by decide +kernel
theorem dX10_isCommand_73 : decode cX10_isCommand 73 = .ok (.iload_n 3, 1) := by decide +kernel
theorem dX10_isCommand_74 : decode cX10_isCommand 74 = .ok (.ireturn, 1) := by decide +kernel
theorem dX10_gain_0 : decode cX10_gain 0 = .ok (.aload_n 0, 1) := by decide +kernel
theorem dX10_gain_1 : decode cX10_gain 1 = .ok (.invokevirtual 307, 3) := by decide +kernel
theorem dX10_gain_4 : decode cX10_gain 4 = .ok (.pop2, 1) := by decide +kernel
theorem dX10_gain_5 : decode cX10_gain 5 = .ok (.lconst 0, 1) := by decide +kernel
theorem dX10_gain_6 : decode cX10_gain 6 = .ok (.lstore_n 1, 1) := by decide +kernel
theorem dX10_gain_7 : decode cX10_gain 7 = .ok (.aload_n 0, 1) := by decide +kernel
theorem dX10_gain_8 : decode cX10_gain 8 = .ok (.iconst 4, 1) := by decide +kernel
theorem dX10_gain_9 : decode cX10_gain 9 = .ok (.invokevirtual 238, 3) := by decide +kernel
theorem dX10_gain_12 : decode cX10_gain 12 = .ok (.ifCond .eq 55, 3) := by decide +kernel
theorem dX10_gain_15 : decode cX10_gain 15 = .ok (.aload_n 0, 1) := by decide +kernel
theorem dX10_gain_16 : decode cX10_gain 16 = .ok (.invokevirtual 241, 3) := by decide +kernel
theorem dX10_gain_19 : decode cX10_gain 19 = .ok (.aload_n 0, 1) := by decide +kernel
theorem dX10_gain_20 : decode cX10_gain 20 = .ok (.sipush 200, 3) := by decide +kernel
theorem dX10_gain_23 : decode cX10_gain 23 = .ok (.invokevirtual 238, 3) := by decide +kernel
theorem dX10_gain_26 : decode cX10_gain 26 = .ok (.ifCond .ne 8, 3) := by decide +kernel
theorem dX10_gain_29 : decode cX10_gain 29 = .ok (.aload_n 0, 1) := by decide +kernel
theorem dX10_gain_30 : decode cX10_gain 30 = .ok (.invokevirtual 234, 3) := by decide +kernel
theorem dX10_gain_33 : decode cX10_gain 33 = .ok (.athrow, 1) := by decide +kernel
theorem dX10_gain_34 : decode cX10_gain 34 = .ok (.aload_n 0, 1) := by decide +kernel
theorem dX10_gain_35 : decode cX10_gain 35 = .ok (.getfield 23, 3) := by decide +kernel
theorem dX10_gain_38 : decode cX10_gain 38 = .ok (.aload_n 0, 1) := by decide +kernel
theorem dX10_gain_39 : decode cX10_gain 39 = .ok (.getfield 219, 3) := by decide +kernel
theorem dX10_gain_42 : decode cX10_gain 42 = .ok (.laload, 1) := by decide +kernel
theorem dX10_gain_43 : decode cX10_gain 43 = .ok (.lstore_n 1, 1) := by decide +kernel
theorem dX10_gain_44 : decode cX10_gain 44 = .ok (.aload_n 0, 1) := by decide +kernel
theorem dX10_gain_45 : decode cX10_gain 45 = .ok (.aload_n 0, 1) := by decide +kernel
theorem dX10_gain_46 : decode cX10_gain 46 = .ok (.lload_n 1, 1) := by decide +kernel
theorem dX10_gain_47 : decode cX10_gain 47 = .ok (.invokevirtual 318, 3) := by decide +kernel
theorem dX10_gain_50 : decode cX10_gain 50 = .ok (.iconst 2, 1) := by decide +kernel
theorem dX10_gain_51 : decode cX10_gain 51 = .ok (.aload_n 0, 1) := by decide +kernel
theorem dX10_gain_52 : decode cX10_gain 52 = .ok (.getfield 20, 3) := by decide +kernel
theorem dX10_gain_55 : decode cX10_gain 55 = .ok (.aload_n 0, 1) := by decide +kernel
theorem dX10_gain_56 : decode cX10_gain 56 = .ok (.getfield 219, 3) := by decide +kernel
theorem dX10_gain_59 : decode cX10_gain 59 = .ok (.iaload, 1) := by decide +kernel
theorem dX10_gain_60 : decode cX10_gain 60 = .ok (.invokevirtual 288, 3) := by decide +kernel
theorem dX10_gain_63 : decode cX10_gain 63 = .ok (.aload_n 0, 1) := by decide +kernel
theorem dX10_gain_64 : decode cX10_gain 64 = .ok (.invokevirtual 241, 3) := by decide +kernel
theorem dX10_gain_67 : decode cX10_gain 67 = .ok (.aload_n 0, 1) := by decide +kernel
theorem dX10_gain_68 : decode cX10_gain 68 = .ok (.bipush 105, 2) := by decide +kernel
theorem dX10_gain_70 : decode cX10_gain 70 = .ok (.invokevirtual 286, 3) := by decide +kernel
theorem dX10_gain_73 : decode cX10_gain 73 = .ok (.aload_n 0, 1) := by decide +kernel
theorem dX10_gain_74 : decode cX10_gain 74 = .ok (.invokevirtual 304, 3) := by decide +kernel
theorem dX10_gain_77 : decode cX10_gain 77 = .ok (.istore_n 3, 1) := by decide +kernel
theorem dX10_gain_78 : decode cX10_gain 78 = .ok (.aload_n 0, 1) := by decide +kernel
theorem dX10_gain_79 : decode cX10_gain 79 = .ok (.getfield 227, 3) := by decide +kernel
theorem dX10_gain_82 : decode cX10_gain 82 = .ok (.ifCond .ne 4, 3) := by decide +kernel
theorem dX10_gain_85 : decode cX10_gain 85 = .ok (.return_, 1) := by decide +kernel
theorem dX10_gain_86 : decode cX10_gain 86 = .ok (.aload_n 0, 1) := by decide +kernel
theorem dX10_gain_87 : decode cX10_gain 87 = .ok (.getfield 44, 3) := by decide +kernel
theorem dX10_gain_90 : decode cX10_gain 90 = .ok (.aload_n 0, 1) := by decide +kernel
theorem dX10_gain_91 : decode cX10_gain 91 = .ok (.getfield 201, 3) := by decide +kernel
theorem dX10_gain_94 : decode cX10_gain 94 = .ok (.lload_n 1, 1) := by decide +kernel
theorem dX10_gain_95 : decode cX10_gain 95 = .ok (.lastore, 1) := by decide +kernel
theorem dX10_gain_96 : decode cX10_gain 96 = .ok (.aload_n 0, 1) := by decide +kernel
theorem dX10_gain_97 : decode cX10_gain 97 = .ok (.getfield 41, 3) := by decide +kernel
theorem dX10_gain_100 : decode cX10_gain 100 = .ok (.aload_n 0, 1) := by decide +kernel
theorem dX10_gain_101 : decode cX10_gain 101 = .ok (.getfield 201, 3) := by decide +kernel
theorem dX10_gain_104 : decode cX10_gain 104 = .ok (.iload_n 3, 1) := by decide +kernel
theorem dX10_gain_105 : decode cX10_gain 105 = .ok (.iastore, 1) := by decide +kernel
theorem dX10_gain_106 : decode cX10_gain 106 = .ok (.aload_n 0, 1) := by decide +kernel
theorem dX10_gain_107 : decode cX10_gain 107 = .ok (.dup, 1) := by decide +kernel
theorem dX10_gain_108 : decode cX10_gain 108 = .ok (.getfield 201, 3) := by decide +kernel
theorem dX10_gain_111 : decode cX10_gain 111 = .ok (.iconst 1, 1) := by decide +kernel
theorem dX10_gain_112 : decode cX10_gain 112 = .ok (.iadd, 1) := by decide +kernel
theorem dX10_gain_113 : decode cX10_gain 113 = .ok (.putfield 201, 3) := by decide +kernel
theorem dX10_gain_116 : decode cX10_gain 116 = .ok (.return_, 1) := by decide +kernel
theorem dX10_command_0 : decode cX10_command 0 = .ok (.aload_n 0, 1) := by decide +kernel
theorem dX10_command_1 : decode cX10_command 1 = .ok (.getfield 20, 3) := by decide +kernel
theorem dX10_command_4 : decode cX10_command 4 = .ok (.aload_n 0, 1) := by decide +kernel
theorem dX10_command_5 : decode cX10_command 5 = .ok (.getfield 219, 3) := by decide +kernel
theorem dX10_command_8 : decode cX10_command 8 = .ok (.iaload, 1) := by decide +kernel
theorem dX10_command_9 : decode cX10_command 9 = .ok (.istore_n 1, 1) := by decide +kernel
theorem dX10_command_10 : decode cX10_command 10 = .ok (.aload_n 0, 1) := by decide +kernel
theorem dX10_command_11 : decode cX10_command 11 = .ok (.invokevirtual 307, 3) := by decide +kernel
theorem dX10_command_14 : decode cX10_command 14 = .ok (.lstore_n 2, 1) := by decide +kernel
theorem dX10_command_15 : decode cX10_command 15 = .ok (.aload_n 0, 1) := by decide +kernel
theorem dX10_command_16 : decode cX10_command 16 = .ok (.bipush 7, 2) := by decide +kernel
theorem dX10_command_18 : decode cX10_command 18 = .ok (.invokevirtual 286, 3) := by decide +kernel
theorem dX10_command_21 : decode cX10_command 21 = .ok (.aload_n 0, 1) := by decide +kernel
theorem dX10_command_22 : decode cX10_command 22 = .ok (.invokevirtual 304, 3) := by decide +kernel
theorem dX10_command_25 : decode cX10_command 25 = .ok (.istore 4, 2) := by decide +kernel
theorem dX10_command_27 : decode cX10_command 27 = .ok (.aload_n 0, 1) := by decide +kernel
theorem dX10_command_28 : decode cX10_command 28 = .ok (.getfield 227, 3) := by decide +kernel
theorem dX10_command_31 : decode cX10_command 31 = .ok (.ifCond .eq 10, 3) := by decide +kernel
theorem dX10_command_34 : decode cX10_command 34 = .ok (.aload_n 0, 1) := by decide +kernel
theorem dX10_command_35 : decode cX10_command 35 = .ok (.getfield 207, 3) := by decide +kernel
theorem dX10_command_38 : decode cX10_command 38 = .ok (.goto 4, 3) := by decide +kernel
theorem dX10_command_41 : decode cX10_command 41 = .ok (.iconst 0, 1) := by decide +kernel
theorem dX10_command_42 : decode cX10_command 42 = .ok (.istore 5, 2) := by decide +kernel
theorem dX10_command_44 : decode cX10_command 44 = .ok (.aload_n 0, 1) := by decide +kernel
theorem dX10_command_45 : decode cX10_command 45 = .ok (.iload 5, 2) := by decide +kernel
theorem dX10_command_47 : decode cX10_command 47 = .ok (.iconst 0, 1) := by decide +kernel
theorem dX10_command_48 : decode cX10_command 48 = .ok (.invokevirtual 322, 3) := by decide +kernel
theorem dX10_command_51 : decode cX10_command 51 = .ok (.istore 6, 2) := by decide +kernel
theorem dX10_command_53 : decode cX10_command 53 = .ok (.aload_n 0, 1) := by decide +kernel
theorem dX10_command_54 : decode cX10_command 54 = .ok (.getfield 325, 3) := by decide +kernel
theorem dX10_command_57 : decode cX10_command 57 = .ok (.istore 7, 2) := by decide +kernel
theorem dX10_command_59 : decode cX10_command 59 = .ok (.aload_n 0, 1) := by decide +kernel
theorem dX10_command_60 : decode cX10_command 60 = .ok (.bipush 10, 2) := by decide +kernel
theorem dX10_command_62 : decode cX10_command 62 = .ok (.invokevirtual 238, 3) := by decide +kernel
theorem dX10_command_65 : decode cX10_command 65 = .ok (.ifCond .eq 29, 3) := by decide +kernel
theorem dX10_command_68 : decode cX10_command 68 = .ok (.aload_n 0, 1) := by decide +kernel
theorem dX10_command_69 : decode cX10_command 69 = .ok (.invokevirtual 241, 3) := by decide +kernel
theorem dX10_command_72 : decode cX10_command 72 = .ok (.aload_n 0, 1) := by decide +kernel
theorem dX10_command_73 : decode cX10_command 73 = .ok (.iload 5, 2) := by decide +kernel
theorem dX10_command_75 : decode cX10_command 75 = .ok (.iload 6, 2) := by decide +kernel
theorem dX10_command_77 : decode cX10_command 77 = .ok (.invokevirtual 322, 3) := by decide +kernel
theorem dX10_command_80 : decode cX10_command 80 = .ok (.istore 6, 2) := by decide +kernel
theorem dX10_command_82 : decode cX10_command 82 = .ok (.iload 7, 2) := by decide +kernel
theorem dX10_command_84 : decode cX10_command 84 = .ok (.aload_n 0, 1) := by decide +kernel
theorem dX10_command_85 : decode cX10_command 85 = .ok (.getfield 325, 3) := by decide +kernel
theorem dX10_command_88 : decode cX10_command 88 = .ok (.iadd, 1) := by decide +kernel
theorem dX10_command_89 : decode cX10_command 89 = .ok (.istore 7, 2) := by decide +kernel
theorem dX10_command_91 : decode cX10_command 91 = .ok (.goto (-32), 3) := by decide +kernel
theorem dX10_command_94 : decode cX10_command 94 = .ok (.aload_n 0, 1) := by decide +kernel
theorem dX10_command_95 : decode cX10_command 95 = .ok (.iload 7, 2) := by decide +kernel
theorem dX10_command_97 : decode cX10_command 97 = .ok (.bipush 100, 2) := by decide +kernel
theorem dX10_command_99 : decode cX10_command 99 = .ok (.if_icmp .ne 7, 3) := by decide +kernel
theorem dX10_command_102 : decode cX10_command 102 = .ok (.iconst 1, 1) := by decide +kernel
theorem dX10_command_103 : decode cX10_command 103 = .ok (.goto 4, 3) := by decide +kernel
theorem dX10_command_106 : decode cX10_command 106 = .ok (.iconst 0, 1) := by decide +kernel
theorem dX10_command_107 : decode cX10_command 107 = .ok (.bipush 6, 2) := by decide +kernel
theorem dX10_command_109 : decode cX10_command 109 = .ok (.iload_n 1, 1) := by decide +kernel
theorem dX10_command_110 : decode cX10_command 110 = .ok (.invokevirtual 288, 3) := by decide +kernel
theorem dX10_command_113 : decode cX10_command 113 = .ok (.aload_n 0, 1) := by decide +kernel
theorem dX10_command_114 : decode cX10_command 114 = .ok (.getfield 227, 3) := by decide +kernel
theorem dX10_command_117 : decode cX10_command 117 = .ok (.ifCond .ne 4, 3) := by decide +kernel
theorem dX10_command_120 : decode cX10_command 120 = .ok (.return_, 1) := by decide +kernel
theorem dX10_command_121 : decode cX10_command 121 = .ok (.aload_n 0, 1) := by decide +kernel
theorem dX10_command_122 : decode cX10_command 122 = .ok (.getfield 47, 3) := by decide +kernel
theorem dX10_command_125 : decode cX10_command 125 = .ok (.iload 5, 2) := by decide +kernel
theorem dX10_command_127 : decode cX10_command 127 = .ok (.lload_n 2, 1) := by decide +kernel
theorem dX10_command_128 : decode cX10_command 128 = .ok (.lastore, 1) := by decide +kernel
theorem dX10_command_129 : decode cX10_command 129 = .ok (.aload_n 0, 1) := by decide +kernel
theorem dX10_command_130 : decode cX10_command 130 = .ok (.getfield 50, 3) := by decide +kernel
theorem dX10_command_133 : decode cX10_command 133 = .ok (.iload 5, 2) := by decide +kernel
theorem dX10_command_135 : decode cX10_command 135 = .ok (.iload_n 1, 1) := by decide +kernel
theorem dX10_command_136 : decode cX10_command 136 = .ok (.iastore, 1) := by decide +kernel
theorem dX10_command_137 : decode cX10_command 137 = .ok (.aload_n 0, 1) := by decide +kernel
theorem dX10_command_138 : decode cX10_command 138 = .ok (.getfield 53, 3) := by decide +kernel
theorem dX10_command_141 : decode cX10_command 141 = .ok (.iload 5, 2) := by decide +kernel
theorem dX10_command_143 : decode cX10_command 143 = .ok (.iload 4, 2) := by decide +kernel
theorem dX10_command_145 : decode cX10_command 145 = .ok (.iastore, 1) := by decide +kernel
theorem dX10_command_146 : decode cX10_command 146 = .ok (.aload_n 0, 1) := by decide +kernel
theorem dX10_command_147 : decode cX10_command 147 = .ok (.getfield 56, 3) := by decide +kernel
theorem dX10_command_150 : decode cX10_command 150 = .ok (.iload 5, 2) := by decide +kernel
theorem dX10_command_152 : decode cX10_command 152 = .ok (.iload 6, 2) := by decide +kernel
theorem dX10_command_154 : decode cX10_command 154 = .ok (.iastore, 1) := by decide +kernel
theorem dX10_command_155 : decode cX10_command 155 = .ok (.aload_n 0, 1) := by decide +kernel
theorem dX10_command_156 : decode cX10_command 156 = .ok (.dup, 1) := by decide +kernel
theorem dX10_command_157 : decode cX10_command 157 = .ok (.getfield 207, 3) := by decide +kernel
theorem dX10_command_160 : decode cX10_command 160 = .ok (.iconst 1, 1) := by decide +kernel
theorem dX10_command_161 : decode cX10_command 161 = .ok (.iadd, 1) := by decide +kernel
theorem dX10_command_162 : decode cX10_command 162 = .ok (.putfield 207, 3) := by decide +kernel
theorem dX10_command_165 : decode cX10_command 165 = .ok (.return_, 1) := by decide +kernel
theorem dX10_branch_0 : decode cX10_branch 0 = .ok (.aload_n 0, 1) := by decide +kernel
theorem dX10_branch_1 : decode cX10_branch 1 = .ok (.getfield 20, 3) := by decide +kernel
theorem dX10_branch_4 : decode cX10_branch 4 = .ok (.aload_n 0, 1) := by decide +kernel
theorem dX10_branch_5 : decode cX10_branch 5 = .ok (.getfield 219, 3) := by decide +kernel
theorem dX10_branch_8 : decode cX10_branch 8 = .ok (.iaload, 1) := by decide +kernel
theorem dX10_branch_9 : decode cX10_branch 9 = .ok (.istore_n 3, 1) := by decide +kernel
theorem dX10_branch_10 : decode cX10_branch 10 = .ok (.aload_n 0, 1) := by decide +kernel
theorem dX10_branch_11 : decode cX10_branch 11 = .ok (.bipush 8, 2) := by decide +kernel
theorem dX10_branch_13 : decode cX10_branch 13 = .ok (.invokevirtual 286, 3) := by decide +kernel
theorem dX10_branch_16 : decode cX10_branch 16 = .ok (.aload_n 0, 1) := by decide +kernel
theorem dX10_branch_17 : decode cX10_branch 17 = .ok (.iload_n 2, 1) := by decide +kernel
theorem dX10_branch_18 : decode cX10_branch 18 = .ok (.iconst 4, 1) := by decide +kernel
theorem dX10_branch_19 : decode cX10_branch 19 = .ok (.if_icmp .ge 7, 3) := by decide +kernel
theorem dX10_branch_22 : decode cX10_branch 22 = .ok (.iconst 1, 1) := by decide +kernel
theorem dX10_branch_23 : decode cX10_branch 23 = .ok (.goto 4, 3) := by decide +kernel
theorem dX10_branch_26 : decode cX10_branch 26 = .ok (.iconst 0, 1) := by decide +kernel
theorem dX10_branch_27 : decode cX10_branch 27 = .ok (.iconst 4, 1) := by decide +kernel
theorem dX10_branch_28 : decode cX10_branch 28 = .ok (.iload_n 3, 1) := by decide +kernel
theorem dX10_branch_29 : decode cX10_branch 29 = .ok (.invokevirtual 288, 3) := by decide +kernel
theorem dX10_branch_32 : decode cX10_branch 32 = .ok (.aload_n 0, 1) := by decide +kernel
theorem dX10_branch_33 : decode cX10_branch 33 = .ok (.sipush 201, 3) := by decide +kernel
theorem dX10_branch_36 : decode cX10_branch 36 = .ok (.invokevirtual 238, 3) := by decide +kernel
theorem dX10_branch_39 : decode cX10_branch 39 = .ok (.ifCond .ne 8, 3) := by decide +kernel
theorem dX10_branch_42 : decode cX10_branch 42 = .ok (.aload_n 0, 1) := by decide +kernel
theorem dX10_branch_43 : decode cX10_branch 43 = .ok (.invokevirtual 234, 3) := by decide +kernel
theorem dX10_branch_46 : decode cX10_branch 46 = .ok (.athrow, 1) := by decide +kernel
theorem dX10_branch_47 : decode cX10_branch 47 = .ok (.aload_n 0, 1) := by decide +kernel
theorem dX10_branch_48 : decode cX10_branch 48 = .ok (.aload_n 0, 1) := by decide +kernel
theorem dX10_branch_49 : decode cX10_branch 49 = .ok (.getfield 23, 3) := by decide +kernel
theorem dX10_branch_52 : decode cX10_branch 52 = .ok (.aload_n 0, 1) := by decide +kernel
theorem dX10_branch_53 : decode cX10_branch 53 = .ok (.getfield 219, 3) := by decide +kernel
theorem dX10_branch_56 : decode cX10_branch 56 = .ok (.laload, 1) := by decide +kernel
theorem dX10_branch_57 : decode cX10_branch 57 = .ok (.lconst 1, 1) := by decide +kernel
theorem dX10_branch_58 : decode cX10_branch 58 = .ok (.ldc2_w 328, 3) := by decide +kernel
theorem dX10_branch_61 : decode cX10_branch 61 = .ok (.invokestatic 154, 3) := by decide +kernel
theorem dX10_branch_64 : decode cX10_branch 64 = .ok (.iconst 5, 1) := by decide +kernel
theorem dX10_branch_65 : decode cX10_branch 65 = .ok (.aload_n 0, 1) := by decide +kernel
theorem dX10_branch_66 : decode cX10_branch 66 = .ok (.getfield 20, 3) := by decide +kernel
theorem dX10_branch_69 : decode cX10_branch 69 = .ok (.aload_n 0, 1) := by decide +kernel
theorem dX10_branch_70 : decode cX10_branch 70 = .ok (.getfield 219, 3) := by decide +kernel
theorem dX10_branch_73 : decode cX10_branch 73 = .ok (.iaload, 1) := by decide +kernel
theorem dX10_branch_74 : decode cX10_branch 74 = .ok (.invokevirtual 288, 3) := by decide +kernel
theorem dX10_branch_77 : decode cX10_branch 77 = .ok (.aload_n 0, 1) := by decide +kernel
theorem dX10_branch_78 : decode cX10_branch 78 = .ok (.aload_n 0, 1) := by decide +kernel
theorem dX10_branch_79 : decode cX10_branch 79 = .ok (.getfield 23, 3) := by decide +kernel
theorem dX10_branch_82 : decode cX10_branch 82 = .ok (.aload_n 0, 1) := by decide +kernel
theorem dX10_branch_83 : decode cX10_branch 83 = .ok (.getfield 219, 3) := by decide +kernel
theorem dX10_branch_86 : decode cX10_branch 86 = .ok (.laload, 1) := by decide +kernel
theorem dX10_branch_87 : decode cX10_branch 87 = .ok (.l2i, 1) := by decide +kernel
theorem dX10_branch_88 : decode cX10_branch 88 = .ok (.putfield 325, 3) := by decide +kernel
theorem dX10_branch_91 : decode cX10_branch 91 = .ok (.aload_n 0, 1) := by decide +kernel
theorem dX10_branch_92 : decode cX10_branch 92 = .ok (.invokevirtual 241, 3) := by decide +kernel
theorem dX10_branch_95 : decode cX10_branch 95 = .ok (.iload_n 1, 1) := by decide +kernel
theorem dX10_branch_96 : decode cX10_branch 96 = .ok (.iconst 4, 1) := by decide +kernel
theorem dX10_branch_97 : decode cX10_branch 97 = .ok (.imul, 1) := by decide +kernel
theorem dX10_branch_98 : decode cX10_branch 98 = .ok (.aload_n 0, 1) := by decide +kernel
theorem dX10_branch_99 : decode cX10_branch 99 = .ok (.getfield 227, 3) := by decide +kernel
theorem dX10_branch_102 : decode cX10_branch 102 = .ok (.ifCond .eq 7, 3) := by decide +kernel
theorem dX10_branch_105 : decode cX10_branch 105 = .ok (.iload_n 2, 1) := by decide +kernel
theorem dX10_branch_106 : decode cX10_branch 106 = .ok (.goto 4, 3) := by decide +kernel
theorem dX10_branch_109 : decode cX10_branch 109 = .ok (.iconst 0, 1) := by decide +kernel
theorem dX10_branch_110 : decode cX10_branch 110 = .ok (.iadd, 1) := by decide +kernel
theorem dX10_branch_111 : decode cX10_branch 111 = .ok (.istore 4, 2) := by decide +kernel
theorem dX10_branch_113 : decode cX10_branch 113 = .ok (.iconst 0, 1) := by decide +kernel
theorem dX10_branch_114 : decode cX10_branch 114 = .ok (.istore 5, 2) := by decide +kernel
theorem dX10_branch_116 : decode cX10_branch 116 = .ok (.iload 5, 2) := by decide +kernel
theorem dX10_branch_118 : decode cX10_branch 118 = .ok (.bipush 6, 2) := by decide +kernel
theorem dX10_branch_120 : decode cX10_branch 120 = .ok (.if_icmp .ge 23, 3) := by decide +kernel
theorem dX10_branch_123 : decode cX10_branch 123 = .ok (.aload_n 0, 1) := by decide +kernel
theorem dX10_branch_124 : decode cX10_branch 124 = .ok (.getfield 62, 3) := by decide +kernel
theorem dX10_branch_127 : decode cX10_branch 127 = .ok (.iload 4, 2) := by decide +kernel
theorem dX10_branch_129 : decode cX10_branch 129 = .ok (.bipush 6, 2) := by decide +kernel
theorem dX10_branch_131 : decode cX10_branch 131 = .ok (.imul, 1) := by decide +kernel
theorem dX10_branch_132 : decode cX10_branch 132 = .ok (.iload 5, 2) := by decide +kernel
theorem dX10_branch_134 : decode cX10_branch 134 = .ok (.iadd, 1) := by decide +kernel
theorem dX10_branch_135 : decode cX10_branch 135 = .ok (.iconst (-1), 1) := by decide +kernel
theorem dX10_branch_136 : decode cX10_branch 136 = .ok (.iastore, 1) := by decide +kernel
theorem dX10_branch_137 : decode cX10_branch 137 = .ok (.iinc 5 1, 3) := by decide +kernel
theorem dX10_branch_140 : decode cX10_branch 140 = .ok (.goto (-24), 3) := by decide +kernel
theorem dX10_branch_143 : decode cX10_branch 143 = .ok (.aload_n 0, 1) := by decide +kernel
theorem dX10_branch_144 : decode cX10_branch 144 = .ok (.getfield 59, 3) := by decide +kernel
theorem dX10_branch_147 : decode cX10_branch 147 = .ok (.iload 4, 2) := by decide +kernel
theorem dX10_branch_149 : decode cX10_branch 149 = .ok (.aload_n 0, 1) := by decide +kernel
theorem dX10_branch_150 : decode cX10_branch 150 = .ok (.getfield 325, 3) := by decide +kernel
theorem dX10_branch_153 : decode cX10_branch 153 = .ok (.iastore, 1) := by decide +kernel
theorem dX10_branch_154 : decode cX10_branch 154 = .ok (.aload_n 0, 1) := by decide +kernel
theorem dX10_branch_155 : decode cX10_branch 155 = .ok (.bipush 9, 2) := by decide +kernel
theorem dX10_branch_157 : decode cX10_branch 157 = .ok (.invokevirtual 238, 3) := by decide +kernel
theorem dX10_branch_160 : decode cX10_branch 160 = .ok (.ifCond .eq 35, 3) := by decide +kernel
theorem dX10_branch_163 : decode cX10_branch 163 = .ok (.aload_n 0, 1) := by decide +kernel
theorem dX10_branch_164 : decode cX10_branch 164 = .ok (.invokevirtual 241, 3) := by decide +kernel
theorem dX10_branch_167 : decode cX10_branch 167 = .ok (.aload_n 0, 1) := by decide +kernel
theorem dX10_branch_168 : decode cX10_branch 168 = .ok (.iload 4, 2) := by decide +kernel
theorem dX10_branch_170 : decode cX10_branch 170 = .ok (.invokevirtual 330, 3) := by decide +kernel
theorem dX10_branch_173 : decode cX10_branch 173 = .ok (.aload_n 0, 1) := by decide +kernel
theorem dX10_branch_174 : decode cX10_branch 174 = .ok (.bipush 104, 2) := by decide +kernel
theorem dX10_branch_176 : decode cX10_branch 176 = .ok (.invokevirtual 238, 3) := by decide +kernel
theorem dX10_branch_179 : decode cX10_branch 179 = .ok (.ifCond .eq 16, 3) := by decide +kernel
theorem dX10_branch_182 : decode cX10_branch 182 = .ok (.aload_n 0, 1) := by decide +kernel
theorem dX10_branch_183 : decode cX10_branch 183 = .ok (.invokevirtual 241, 3) := by decide +kernel
theorem dX10_branch_186 : decode cX10_branch 186 = .ok (.aload_n 0, 1) := by decide +kernel
theorem dX10_branch_187 : decode cX10_branch 187 = .ok (.iload 4, 2) := by decide +kernel
theorem dX10_branch_189 : decode cX10_branch 189 = .ok (.invokevirtual 330, 3) := by decide +kernel
theorem dX10_branch_192 : decode cX10_branch 192 = .ok (.goto (-19), 3) := by decide +kernel
theorem dX10_branch_195 : decode cX10_branch 195 = .ok (.aload_n 0, 1) := by decide +kernel
theorem dX10_branch_196 : decode cX10_branch 196 = .ok (.getfield 227, 3) := by decide +kernel
theorem dX10_branch_199 : decode cX10_branch 199 = .ok (.ifCond .eq 9, 3) := by decide +kernel
theorem dX10_branch_202 : decode cX10_branch 202 = .ok (.iload_n 2, 1) := by decide +kernel
theorem dX10_branch_203 : decode cX10_branch 203 = .ok (.iconst 1, 1) := by decide +kernel
theorem dX10_branch_204 : decode cX10_branch 204 = .ok (.iadd, 1) := by decide +kernel
theorem dX10_branch_205 : decode cX10_branch 205 = .ok (.goto 4, 3) := by decide +kernel
theorem dX10_branch_208 : decode cX10_branch 208 = .ok (.iconst 0, 1) := by decide +kernel
theorem dX10_branch_209 : decode cX10_branch 209 = .ok (.ireturn, 1) := by decide +kernel
theorem dX10_setOne_0 : decode cX10_setOne 0 = .ok (.aload_n 0, 1) := by decide +kernel
theorem dX10_setOne_1 : decode cX10_setOne 1 = .ok (.sipush 200, 3) := by decide +kernel
theorem dX10_setOne_4 : decode cX10_setOne 4 = .ok (.invokevirtual 238, 3) := by decide +kernel
theorem dX10_setOne_7 : decode cX10_setOne 7 = .ok (.ifCond .ne 8, 3) := by decide +kernel
theorem dX10_setOne_10 : decode cX10_setOne 10 = .ok (.aload_n 0, 1) := by decide +kernel
theorem dX10_setOne_11 : decode cX10_setOne 11 = .ok (.invokevirtual 234, 3) := by decide +kernel
theorem dX10_setOne_14 : decode cX10_setOne 14 = .ok (.athrow, 1) := by decide +kernel
theorem dX10_setOne_15 : decode cX10_setOne 15 = .ok (.aload_n 0, 1) := by decide +kernel
theorem dX10_setOne_16 : decode cX10_setOne 16 = .ok (.invokevirtual 273, 3) := by decide +kernel
theorem dX10_setOne_19 : decode cX10_setOne 19 = .ok (.istore_n 2, 1) := by decide +kernel
theorem dX10_setOne_20 : decode cX10_setOne 20 = .ok (.aload_n 0, 1) := by decide +kernel
theorem dX10_setOne_21 : decode cX10_setOne 21 = .ok (.aload_n 0, 1) := by decide +kernel
theorem dX10_setOne_22 : decode cX10_setOne 22 = .ok (.getfield 62, 3) := by decide +kernel
theorem dX10_setOne_25 : decode cX10_setOne 25 = .ok (.iload_n 1, 1) := by decide +kernel
theorem dX10_setOne_26 : decode cX10_setOne 26 = .ok (.bipush 6, 2) := by decide +kernel
theorem dX10_setOne_28 : decode cX10_setOne 28 = .ok (.imul, 1) := by decide +kernel
theorem dX10_setOne_29 : decode cX10_setOne 29 = .ok (.iload_n 2, 1) := by decide +kernel
theorem dX10_setOne_30 : decode cX10_setOne 30 = .ok (.iadd, 1) := by decide +kernel
theorem dX10_setOne_31 : decode cX10_setOne 31 = .ok (.iaload, 1) := by decide +kernel
theorem dX10_setOne_32 : decode cX10_setOne 32 = .ok (.iconst (-1), 1) := by decide +kernel
theorem dX10_setOne_33 : decode cX10_setOne 33 = .ok (.if_icmp .ne 7, 3) := by decide +kernel
theorem dX10_setOne_36 : decode cX10_setOne 36 = .ok (.iconst 1, 1) := by decide +kernel
theorem dX10_setOne_37 : decode cX10_setOne 37 = .ok (.goto 4, 3) := by decide +kernel
theorem dX10_setOne_40 : decode cX10_setOne 40 = .ok (.iconst 0, 1) := by decide +kernel
theorem dX10_setOne_41 : decode cX10_setOne 41 = .ok (.iconst 3, 1) := by decide +kernel
theorem dX10_setOne_42 : decode cX10_setOne 42 = .ok (.aload_n 0, 1) := by decide +kernel
theorem dX10_setOne_43 : decode cX10_setOne 43 = .ok (.getfield 20, 3) := by decide +kernel
theorem dX10_setOne_46 : decode cX10_setOne 46 = .ok (.aload_n 0, 1) := by decide +kernel
theorem dX10_setOne_47 : decode cX10_setOne 47 = .ok (.getfield 219, 3) := by decide +kernel
theorem dX10_setOne_50 : decode cX10_setOne 50 = .ok (.iaload, 1) := by decide +kernel
theorem dX10_setOne_51 : decode cX10_setOne 51 = .ok (.invokevirtual 288, 3) := by decide +kernel
theorem dX10_setOne_54 : decode cX10_setOne 54 = .ok (.aload_n 0, 1) := by decide +kernel
theorem dX10_setOne_55 : decode cX10_setOne 55 = .ok (.invokevirtual 241, 3) := by decide +kernel
theorem dX10_setOne_58 : decode cX10_setOne 58 = .ok (.aload_n 0, 1) := by decide +kernel
theorem dX10_setOne_59 : decode cX10_setOne 59 = .ok (.bipush 105, 2) := by decide +kernel
theorem dX10_setOne_61 : decode cX10_setOne 61 = .ok (.invokevirtual 286, 3) := by decide +kernel
theorem dX10_setOne_64 : decode cX10_setOne 64 = .ok (.aload_n 0, 1) := by decide +kernel
theorem dX10_setOne_65 : decode cX10_setOne 65 = .ok (.invokevirtual 304, 3) := by decide +kernel
theorem dX10_setOne_68 : decode cX10_setOne 68 = .ok (.istore_n 3, 1) := by decide +kernel
theorem dX10_setOne_69 : decode cX10_setOne 69 = .ok (.aload_n 0, 1) := by decide +kernel
theorem dX10_setOne_70 : decode cX10_setOne 70 = .ok (.getfield 227, 3) := by decide +kernel
theorem dX10_setOne_73 : decode cX10_setOne 73 = .ok (.ifCond .eq 15, 3) := by decide +kernel
theorem dX10_setOne_76 : decode cX10_setOne 76 = .ok (.aload_n 0, 1) := by decide +kernel
theorem dX10_setOne_77 : decode cX10_setOne 77 = .ok (.getfield 62, 3) := by decide +kernel
theorem dX10_setOne_80 : decode cX10_setOne 80 = .ok (.iload_n 1, 1) := by decide +kernel
theorem dX10_setOne_81 : decode cX10_setOne 81 = .ok (.bipush 6, 2) := by decide +kernel
theorem dX10_setOne_83 : decode cX10_setOne 83 = .ok (.imul, 1) := by decide +kernel
theorem dX10_setOne_84 : decode cX10_setOne 84 = .ok (.iload_n 2, 1) := by decide +kernel
theorem dX10_setOne_85 : decode cX10_setOne 85 = .ok (.iadd, 1) := by decide +kernel
theorem dX10_setOne_86 : decode cX10_setOne 86 = .ok (.iload_n 3, 1) := by decide +kernel
theorem dX10_setOne_87 : decode cX10_setOne 87 = .ok (.iastore, 1) := by decide +kernel
theorem dX10_setOne_88 : decode cX10_setOne 88 = .ok (.return_, 1) := by decide +kernel
theorem dX10_readAll_0 : decode cX10_readAll 0 = .ok (.aload_n 0, 1) := by decide +kernel
theorem dX10_readAll_1 : decode cX10_readAll 1 = .ok (.iconst 0, 1) := by decide +kernel
theorem dX10_readAll_2 : decode cX10_readAll 2 = .ok (.putfield 219, 3) := by decide +kernel
theorem dX10_readAll_5 : decode cX10_readAll 5 = .ok (.aload_n 0, 1) := by decide +kernel
theorem dX10_readAll_6 : decode cX10_readAll 6 = .ok (.iconst 0, 1) := by decide +kernel
theorem dX10_readAll_7 : decode cX10_readAll 7 = .ok (.putfield 244, 3) := by decide +kernel
theorem dX10_readAll_10 : decode cX10_readAll 10 = .ok (.aload_n 0, 1) := by decide +kernel
theorem dX10_readAll_11 : decode cX10_readAll 11 = .ok (.iconst (-1), 1) := by decide +kernel
theorem dX10_readAll_12 : decode cX10_readAll 12 = .ok (.putfield 231, 3) := by decide +kernel
theorem dX10_readAll_15 : decode cX10_readAll 15 = .ok (.aload_n 0, 1) := by decide +kernel
theorem dX10_readAll_16 : decode cX10_readAll 16 = .ok (.invokevirtual 333, 3) := by decide +kernel
theorem dX10_readAll_19 : decode cX10_readAll 19 = .ok (.aload_n 0, 1) := by decide +kernel
theorem dX10_readAll_20 : decode cX10_readAll 20 = .ok (.sipush 202, 3) := by decide +kernel
theorem dX10_readAll_23 : decode cX10_readAll 23 = .ok (.invokevirtual 238, 3) := by decide +kernel
theorem dX10_readAll_26 : decode cX10_readAll 26 = .ok (.ifCond .ne 10, 3) := by decide +kernel
theorem dX10_readAll_29 : decode cX10_readAll 29 = .ok (.aload_n 0, 1) := by decide +kernel
theorem dX10_readAll_30 : decode cX10_readAll 30 = .ok (.invokevirtual 333, 3) := by decide +kernel
theorem dX10_readAll_33 : decode cX10_readAll 33 = .ok (.goto (-14), 3) := by decide +kernel
theorem dX10_readAll_36 : decode cX10_readAll 36 = .ok (.return_, 1) := by decide +kernel
theorem dX10_compile_0 : decode cX10_compile 0 = .ok (.aload_n 0, 1) := by decide +kernel
theorem dX10_compile_1 : decode cX10_compile 1 = .ok (.iconst 0, 1) := by decide +kernel
theorem dX10_compile_2 : decode cX10_compile 2 = .ok (.putfield 140, 3) := by decide +kernel
theorem dX10_compile_5 : decode cX10_compile 5 = .ok (.aload_n 0, 1) := by decide +kernel
theorem dX10_compile_6 : decode cX10_compile 6 = .ok (.invokevirtual 336, 3) := by decide +kernel
theorem dX10_compile_9 : decode cX10_compile 9 = .ok (.aload_n 0, 1) := by decide +kernel
theorem dX10_compile_10 : decode cX10_compile 10 = .ok (.invokevirtual 339, 3) := by decide +kernel
theorem dX10_compile_13 : decode cX10_compile 13 = .ok (.aload_n 0, 1) := by decide +kernel
theorem dX10_compile_14 : decode cX10_compile 14 = .ok (.iconst (-1), 1) := by decide +kernel
theorem dX10_compile_15 : decode cX10_compile 15 = .ok (.putfield 71, 3) := by decide +kernel
theorem dX10_compile_18 : decode cX10_compile 18 = .ok (.iconst 0, 1) := by decide +kernel
theorem dX10_compile_19 : decode cX10_compile 19 = .ok (.istore_n 1, 1) := by decide +kernel
theorem dX10_compile_20 : decode cX10_compile 20 = .ok (.aload_n 0, 1) := by decide +kernel
theorem dX10_compile_21 : decode cX10_compile 21 = .ok (.iconst 0, 1) := by decide +kernel
theorem dX10_compile_22 : decode cX10_compile 22 = .ok (.putfield 227, 3) := by decide +kernel
theorem dX10_compile_25 : decode cX10_compile 25 = .ok (.aload_n 0, 1) := by decide +kernel
theorem dX10_compile_26 : decode cX10_compile 26 = .ok (.invokevirtual 342, 3) := by decide +kernel
theorem dX10_compile_29 : decode cX10_compile 29 = .ok (.aload_n 0, 1) := by decide +kernel
theorem dX10_compile_30 : decode cX10_compile 30 = .ok (.iconst 1, 1) := by decide +kernel
theorem dX10_compile_31 : decode cX10_compile 31 = .ok (.putfield 227, 3) := by decide +kernel
theorem dX10_compile_34 : decode cX10_compile 34 = .ok (.aload_n 0, 1) := by decide +kernel
theorem dX10_compile_35 : decode cX10_compile 35 = .ok (.invokevirtual 342, 3) := by decide +kernel
theorem dX10_compile_38 : decode cX10_compile 38 = .ok (.aload_n 0, 1) := by decide +kernel
theorem dX10_compile_39 : decode cX10_compile 39 = .ok (.aload_n 0, 1) := by decide +kernel
theorem dX10_compile_40 : decode cX10_compile 40 = .ok (.getfield 198, 3) := by decide +kernel
theorem dX10_compile_43 : decode cX10_compile 43 = .ok (.ifCond .le 14, 3) := by decide +kernel
theorem dX10_compile_46 : decode cX10_compile 46 = .ok (.aload_n 0, 1) := by decide +kernel
theorem dX10_compile_47 : decode cX10_compile 47 = .ok (.getfield 207, 3) := by decide +kernel
theorem dX10_compile_50 : decode cX10_compile 50 = .ok (.ifCond .le 7, 3) := by decide +kernel
theorem dX10_compile_53 : decode cX10_compile 53 = .ok (.iconst 1, 1) := by decide +kernel
theorem dX10_compile_54 : decode cX10_compile 54 = .ok (.goto 4, 3) := by decide +kernel
theorem dX10_compile_57 : decode cX10_compile 57 = .ok (.iconst 0, 1) := by decide +kernel
theorem dX10_compile_58 : decode cX10_compile 58 = .ok (.bipush 7, 2) := by decide +kernel
theorem dX10_compile_60 : decode cX10_compile 60 = .ok (.aload_n 0, 1) := by decide +kernel
theorem dX10_compile_61 : decode cX10_compile 61 = .ok (.getfield 143, 3) := by decide +kernel
theorem dX10_compile_64 : decode cX10_compile 64 = .ok (.invokevirtual 288, 3) := by decide +kernel
theorem dX10_compile_67 : decode cX10_compile 67 = .ok (.aload_n 0, 1) := by decide +kernel
theorem dX10_compile_68 : decode cX10_compile 68 = .ok (.invokevirtual 345, 3) := by decide +kernel
theorem dX10_compile_71 : decode cX10_compile 71 = .ok (.goto 21, 3) := by decide +kernel
theorem dX10_compile_74 : decode cX10_compile 74 = .ok (.astore_n 2, 1) := by decide +kernel
theorem dX10_compile_75 : decode cX10_compile 75 = .ok (.aload_n 2, 1) := by decide +kernel
theorem dX10_compile_76 : decode cX10_compile 76 = .ok (.getfield 348, 3) := by decide +kernel
theorem dX10_compile_79 : decode cX10_compile 79 = .ok (.istore_n 1, 1) := by decide +kernel
theorem dX10_compile_80 : decode cX10_compile 80 = .ok (.aload_n 0, 1) := by decide +kernel
theorem dX10_compile_81 : decode cX10_compile 81 = .ok (.aload_n 2, 1) := by decide +kernel
theorem dX10_compile_82 : decode cX10_compile 82 = .ok (.getfield 351, 3) := by decide +kernel
theorem dX10_compile_85 : decode cX10_compile 85 = .ok (.putfield 71, 3) := by decide +kernel
theorem dX10_compile_88 : decode cX10_compile 88 = .ok (.aload_n 0, 1) := by decide +kernel
theorem dX10_compile_89 : decode cX10_compile 89 = .ok (.invokevirtual 339, 3) := by decide +kernel
theorem dX10_compile_92 : decode cX10_compile 92 = .ok (.aload_n 0, 1) := by decide +kernel
theorem dX10_compile_93 : decode cX10_compile 93 = .ok (.iconst 0, 1) := by decide +kernel
theorem dX10_compile_94 : decode cX10_compile 94 = .ok (.putfield 143, 3) := by decide +kernel
theorem dX10_compile_97 : decode cX10_compile 97 = .ok (.iload_n 1, 1) := by decide +kernel
theorem dX10_compile_98 : decode cX10_compile 98 = .ok (.ireturn, 1) := by decide +kernel
theorem dX10_errorAt_0 : decode cX10_errorAt 0 = .ok (.aload_n 0, 1) := by decide +kernel
theorem dX10_errorAt_1 : decode cX10_errorAt 1 = .ok (.iconst 0, 1) := by decide +kernel
theorem dX10_errorAt_2 : decode cX10_errorAt 2 = .ok (.putfield 140, 3) := by decide +kernel
theorem dX10_errorAt_5 : decode cX10_errorAt 5 = .ok (.aload_n 0, 1) := by decide +kernel
theorem dX10_errorAt_6 : decode cX10_errorAt 6 = .ok (.getfield 71, 3) := by decide +kernel
theorem dX10_errorAt_9 : decode cX10_errorAt 9 = .ok (.ireturn, 1) := by decide +kernel
theorem dX10_counted_0 : decode cX10_counted 0 = .ok (.iload_n 1, 1) := by decide +kernel
theorem dX10_counted_1 : decode cX10_counted 1 = .ok (.tableswitch 60 0 4 #[35, 40, 45, 50, 55], 35) := by decide +kernel
theorem dX10_counted_36 : decode cX10_counted 36 = .ok (.aload_n 0, 1) := by decide +kernel
theorem dX10_counted_37 : decode cX10_counted 37 = .ok (.getfield 198, 3) := by decide +kernel
theorem dX10_counted_40 : decode cX10_counted 40 = .ok (.ireturn, 1) := by decide +kernel
theorem dX10_counted_41 : decode cX10_counted 41 = .ok (.aload_n 0, 1) := by decide +kernel
theorem dX10_counted_42 : decode cX10_counted 42 = .ok (.getfield 201, 3) := by decide +kernel
theorem dX10_counted_45 : decode cX10_counted 45 = .ok (.ireturn, 1) := by decide +kernel
theorem dX10_counted_46 : decode cX10_counted 46 = .ok (.aload_n 0, 1) := by decide +kernel
theorem dX10_counted_47 : decode cX10_counted 47 = .ok (.getfield 207, 3) := by decide +kernel
theorem dX10_counted_50 : decode cX10_counted 50 = .ok (.ireturn, 1) := by decide +kernel
theorem dX10_counted_51 : decode cX10_counted 51 = .ok (.aload_n 0, 1) := by decide +kernel
theorem dX10_counted_52 : decode cX10_counted 52 = .ok (.getfield 213, 3) := by decide +kernel
theorem dX10_counted_55 : decode cX10_counted 55 = .ok (.ireturn, 1) := by decide +kernel
theorem dX10_counted_56 : decode cX10_counted 56 = .ok (.aload_n 0, 1) := by decide +kernel
theorem dX10_counted_57 : decode cX10_counted 57 = .ok (.getfield 216, 3) := by decide +kernel
theorem dX10_counted_60 : decode cX10_counted 60 = .ok (.ireturn, 1) := by decide +kernel
theorem dX10_counted_61 : decode cX10_counted 61 = .ok (.aload_n 0, 1) := by decide +kernel
theorem dX10_counted_62 : decode cX10_counted 62 = .ok (.getfield 143, 3) := by decide +kernel
theorem dX10_counted_65 : decode cX10_counted 65 = .ok (.ireturn, 1) := by decide +kernel
theorem dX10_count_0 : decode cX10_count 0 = .ok (.aload_n 0, 1) := by decide +kernel
theorem dX10_count_1 : decode cX10_count 1 = .ok (.iconst 0, 1) := by decide +kernel
theorem dX10_count_2 : decode cX10_count 2 = .ok (.putfield 140, 3) := by decide +kernel
theorem dX10_count_5 : decode cX10_count 5 = .ok (.iload_n 1, 1) := by decide +kernel
theorem dX10_count_6 : decode cX10_count 6 = .ok (.i2l, 1) := by decide +kernel
theorem dX10_count_7 : decode cX10_count 7 = .ok (.lconst 0, 1) := by decide +kernel
theorem dX10_count_8 : decode cX10_count 8 = .ok (.ldc2_w 354, 3) := by decide +kernel
theorem dX10_count_11 : decode cX10_count 11 = .ok (.invokestatic 154, 3) := by decide +kernel
theorem dX10_count_14 : decode cX10_count 14 = .ok (.ifCond .eq 11, 3) := by decide +kernel
theorem dX10_count_17 : decode cX10_count 17 = .ok (.aload_n 0, 1) := by decide +kernel
theorem dX10_count_18 : decode cX10_count 18 = .ok (.iload_n 1, 1) := by decide +kernel
theorem dX10_count_19 : decode cX10_count 19 = .ok (.invokevirtual 356, 3) := by decide +kernel
theorem dX10_count_22 : decode cX10_count 22 = .ok (.goto 8, 3) := by decide +kernel
theorem dX10_count_25 : decode cX10_count 25 = .ok (.aload_n 0, 1) := by decide +kernel
theorem dX10_count_26 : decode cX10_count 26 = .ok (.iconst 1, 1) := by decide +kernel
theorem dX10_count_27 : decode cX10_count 27 = .ok (.invokevirtual 146, 3) := by decide +kernel
theorem dX10_count_30 : decode cX10_count 30 = .ok (.ireturn, 1) := by decide +kernel
theorem dX10_test_0 : decode cX10_test 0 = .ok (.aload_n 0, 1) := by decide +kernel
theorem dX10_test_1 : decode cX10_test 1 = .ok (.iconst 0, 1) := by decide +kernel
theorem dX10_test_2 : decode cX10_test 2 = .ok (.putfield 140, 3) := by decide +kernel
theorem dX10_test_5 : decode cX10_test 5 = .ok (.aload_n 0, 1) := by decide +kernel
theorem dX10_test_6 : decode cX10_test 6 = .ok (.iload_n 1, 1) := by decide +kernel
theorem dX10_test_7 : decode cX10_test 7 = .ok (.invokevirtual 359, 3) := by decide +kernel
theorem dX10_test_10 : decode cX10_test 10 = .ok (.ifCond .ne 9, 3) := by decide +kernel
theorem dX10_test_13 : decode cX10_test 13 = .ok (.aload_n 0, 1) := by decide +kernel
theorem dX10_test_14 : decode cX10_test 14 = .ok (.iconst 1, 1) := by decide +kernel
theorem dX10_test_15 : decode cX10_test 15 = .ok (.invokevirtual 146, 3) := by decide +kernel
theorem dX10_test_18 : decode cX10_test 18 = .ok (.ireturn, 1) := by decide +kernel
theorem dX10_test_19 : decode cX10_test 19 = .ok (.aload_n 0, 1) := by decide +kernel
theorem dX10_test_20 : decode cX10_test 20 = .ok (.invokevirtual 336, 3) := by decide +kernel
theorem dX10_test_23 : decode cX10_test 23 = .ok (.aload_n 0, 1) := by decide +kernel
theorem dX10_test_24 : decode cX10_test 24 = .ok (.iconst (-1), 1) := by decide +kernel
theorem dX10_test_25 : decode cX10_test 25 = .ok (.putfield 71, 3) := by decide +kernel
theorem dX10_test_28 : decode cX10_test 28 = .ok (.aload_n 0, 1) := by decide +kernel
theorem dX10_test_29 : decode cX10_test 29 = .ok (.lconst 0, 1) := by decide +kernel
theorem dX10_test_30 : decode cX10_test 30 = .ok (.putfield 362, 3) := by decide +kernel
theorem dX10_test_33 : decode cX10_test 33 = .ok (.iconst 0, 1) := by decide +kernel
theorem dX10_test_34 : decode cX10_test 34 = .ok (.istore_n 2, 1) := by decide +kernel
theorem dX10_test_35 : decode cX10_test 35 = .ok (.aload_n 0, 1) := by decide +kernel
theorem dX10_test_36 : decode cX10_test 36 = .ok (.getfield 210, 3) := by decide +kernel
theorem dX10_test_39 : decode cX10_test 39 = .ok (.istore_n 3, 1) := by decide +kernel
theorem dX10_test_40 : decode cX10_test 40 = .ok (.iconst 0, 1) := by decide +kernel
theorem dX10_test_41 : decode cX10_test 41 = .ok (.istore 4, 2) := by decide +kernel
theorem dX10_test_43 : decode cX10_test 43 = .ok (.iload 4, 2) := by decide +kernel
theorem dX10_test_45 : decode cX10_test 45 = .ok (.iconst 2, 1) := by decide +kernel
theorem dX10_test_46 : decode cX10_test 46 = .ok (.if_icmp .ge 54, 3) := by decide +kernel
theorem dX10_test_49 : decode cX10_test 49 = .ok (.aload_n 0, 1) := by decide +kernel
theorem dX10_test_50 : decode cX10_test 50 = .ok (.iload 4, 2) := by decide +kernel
theorem dX10_test_52 : decode cX10_test 52 = .ok (.iconst 1, 1) := by decide +kernel
theorem dX10_test_53 : decode cX10_test 53 = .ok (.if_icmp .ne 7, 3) := by decide +kernel
theorem dX10_test_56 : decode cX10_test 56 = .ok (.iconst 1, 1) := by decide +kernel
theorem dX10_test_57 : decode cX10_test 57 = .ok (.goto 4, 3) := by decide +kernel
theorem dX10_test_60 : decode cX10_test 60 = .ok (.iconst 0, 1) := by decide +kernel
theorem dX10_test_61 : decode cX10_test 61 = .ok (.putfield 227, 3) := by decide +kernel
theorem dX10_test_64 : decode cX10_test 64 = .ok (.aload_n 0, 1) := by decide +kernel
theorem dX10_test_65 : decode cX10_test 65 = .ok (.iconst 0, 1) := by decide +kernel
theorem dX10_test_66 : decode cX10_test 66 = .ok (.putfield 219, 3) := by decide +kernel
theorem dX10_test_69 : decode cX10_test 69 = .ok (.aload_n 0, 1) := by decide +kernel
theorem dX10_test_70 : decode cX10_test 70 = .ok (.iconst 0, 1) := by decide +kernel
theorem dX10_test_71 : decode cX10_test 71 = .ok (.putfield 244, 3) := by decide +kernel
theorem dX10_test_74 : decode cX10_test 74 = .ok (.aload_n 0, 1) := by decide +kernel
theorem dX10_test_75 : decode cX10_test 75 = .ok (.invokevirtual 304, 3) := by decide +kernel
theorem dX10_test_78 : decode cX10_test 78 = .ok (.pop, 1) := by decide +kernel
theorem dX10_test_79 : decode cX10_test 79 = .ok (.aload_n 0, 1) := by decide +kernel
theorem dX10_test_80 : decode cX10_test 80 = .ok (.sipush 202, 3) := by decide +kernel
theorem dX10_test_83 : decode cX10_test 83 = .ok (.invokevirtual 238, 3) := by decide +kernel
theorem dX10_test_86 : decode cX10_test 86 = .ok (.ifCond .ne 8, 3) := by decide +kernel
theorem dX10_test_89 : decode cX10_test 89 = .ok (.aload_n 0, 1) := by decide +kernel
theorem dX10_test_90 : decode cX10_test 90 = .ok (.invokevirtual 234, 3) := by decide +kernel
theorem dX10_test_93 : decode cX10_test 93 = .ok (.athrow, 1) := by decide +kernel
theorem dX10_test_94 : decode cX10_test 94 = .ok (.iinc 4 1, 3) := by decide +kernel
theorem dX10_test_97 : decode cX10_test 97 = .ok (.goto (-54), 3) := by decide +kernel
theorem dX10_test_100 : decode cX10_test 100 = .ok (.aload_n 0, 1) := by decide +kernel
theorem dX10_test_101 : decode cX10_test 101 = .ok (.aload_n 0, 1) := by decide +kernel
theorem dX10_test_102 : decode cX10_test 102 = .ok (.iload_n 3, 1) := by decide +kernel
theorem dX10_test_103 : decode cX10_test 103 = .ok (.iload_n 1, 1) := by decide +kernel
theorem dX10_test_104 : decode cX10_test 104 = .ok (.invokevirtual 366, 3) := by decide +kernel
theorem dX10_test_107 : decode cX10_test 107 = .ok (.putfield 362, 3) := by decide +kernel
theorem dX10_test_110 : decode cX10_test 110 = .ok (.goto 20, 3) := by decide +kernel
theorem dX10_test_113 : decode cX10_test 113 = .ok (.astore 4, 2) := by decide +kernel
theorem dX10_test_115 : decode cX10_test 115 = .ok (.aload 4, 2) := by decide +kernel
theorem dX10_test_117 : decode cX10_test 117 = .ok (.getfield 348, 3) := by decide +kernel
theorem dX10_test_120 : decode cX10_test 120 = .ok (.istore_n 2, 1) := by decide +kernel
theorem dX10_test_121 : decode cX10_test 121 = .ok (.aload_n 0, 1) := by decide +kernel
theorem dX10_test_122 : decode cX10_test 122 = .ok (.aload 4, 2) := by decide +kernel
theorem dX10_test_124 : decode cX10_test 124 = .ok (.getfield 351, 3) := by decide +kernel
theorem dX10_test_127 : decode cX10_test 127 = .ok (.putfield 71, 3) := by decide +kernel
theorem dX10_test_130 : decode cX10_test 130 = .ok (.aload_n 0, 1) := by decide +kernel
theorem dX10_test_131 : decode cX10_test 131 = .ok (.iload_n 3, 1) := by decide +kernel
theorem dX10_test_132 : decode cX10_test 132 = .ok (.putfield 210, 3) := by decide +kernel
theorem dX10_test_135 : decode cX10_test 135 = .ok (.aload_n 0, 1) := by decide +kernel
theorem dX10_test_136 : decode cX10_test 136 = .ok (.iconst 0, 1) := by decide +kernel
theorem dX10_test_137 : decode cX10_test 137 = .ok (.putfield 143, 3) := by decide +kernel
theorem dX10_test_140 : decode cX10_test 140 = .ok (.iload_n 2, 1) := by decide +kernel
theorem dX10_test_141 : decode cX10_test 141 = .ok (.ireturn, 1) := by decide +kernel
theorem dX10_result_0 : decode cX10_result 0 = .ok (.aload_n 0, 1) := by decide +kernel
theorem dX10_result_1 : decode cX10_result 1 = .ok (.iconst 0, 1) := by decide +kernel
theorem dX10_result_2 : decode cX10_result 2 = .ok (.putfield 140, 3) := by decide +kernel
theorem dX10_result_5 : decode cX10_result 5 = .ok (.aload_n 0, 1) := by decide +kernel
theorem dX10_result_6 : decode cX10_result 6 = .ok (.getfield 362, 3) := by decide +kernel
theorem dX10_result_9 : decode cX10_result 9 = .ok (.lreturn, 1) := by decide +kernel
theorem dX10_isState_0 : decode cX10_isState 0 = .ok (.iload_n 1, 1) := by decide +kernel
theorem dX10_isState_1 : decode cX10_isState 1 = .ok (.i2l, 1) := by decide +kernel
theorem dX10_isState_2 : decode cX10_isState 2 = .ok (.lconst 0, 1) := by decide +kernel
theorem dX10_isState_3 : decode cX10_isState 3 = .ok (.aload_n 0, 1) := by decide +kernel
theorem dX10_isState_4 : decode cX10_isState 4 = .ok (.getfield 213, 3) := by decide +kernel
theorem dX10_isState_7 : decode cX10_isState 7 = .ok (.iconst 1, 1) := by decide +kernel
theorem dX10_isState_8 : decode cX10_isState 8 = .ok (.isub, 1) := by decide +kernel
theorem dX10_isState_9 : decode cX10_isState 9 = .ok (.i2l, 1) := by decide +kernel
theorem dX10_isState_10 : decode cX10_isState 10 = .ok (.invokestatic 154, 3) := by decide +kernel
theorem dX10_isState_13 : decode cX10_isState 13 = .ok (.ireturn, 1) := by decide +kernel
theorem dX10_worthOf_0 : decode cX10_worthOf 0 = .ok (.iconst 0, 1) := by decide +kernel
theorem dX10_worthOf_1 : decode cX10_worthOf 1 = .ok (.istore_n 3, 1) := by decide +kernel
theorem dX10_worthOf_2 : decode cX10_worthOf 2 = .ok (.iload_n 1, 1) := by decide +kernel
theorem dX10_worthOf_3 : decode cX10_worthOf 3 = .ok (.istore 4, 2) := by decide +kernel
theorem dX10_worthOf_5 : decode cX10_worthOf 5 = .ok (.aload_n 0, 1) := by decide +kernel
theorem dX10_worthOf_6 : decode cX10_worthOf 6 = .ok (.getfield 65, 3) := by decide +kernel
theorem dX10_worthOf_9 : decode cX10_worthOf 9 = .ok (.iload 4, 2) := by decide +kernel
theorem dX10_worthOf_11 : decode cX10_worthOf 11 = .ok (.iaload, 1) := by decide +kernel
theorem dX10_worthOf_12 : decode cX10_worthOf 12 = .ok (.bipush 50, 2) := by decide +kernel
theorem dX10_worthOf_14 : decode cX10_worthOf 14 = .ok (.if_icmp .eq 172, 3) := by decide +kernel
theorem dX10_worthOf_17 : decode cX10_worthOf 17 = .ok (.aload_n 0, 1) := by decide +kernel
theorem dX10_worthOf_18 : decode cX10_worthOf 18 = .ok (.getfield 65, 3) := by decide +kernel
theorem dX10_worthOf_21 : decode cX10_worthOf 21 = .ok (.iload 4, 2) := by decide +kernel
theorem dX10_worthOf_23 : decode cX10_worthOf 23 = .ok (.iaload, 1) := by decide +kernel
theorem dX10_worthOf_24 : decode cX10_worthOf 24 = .ok (.istore 5, 2) := by decide +kernel
theorem dX10_worthOf_26 : decode cX10_worthOf 26 = .ok (.iload 5, 2) := by decide +kernel
theorem dX10_worthOf_28 : decode cX10_worthOf 28 = .ok (.iconst 1, 1) := by decide +kernel
theorem dX10_worthOf_29 : decode cX10_worthOf 29 = .ok (.if_icmp .gt 49, 3) := by decide +kernel
theorem dX10_worthOf_32 : decode cX10_worthOf 32 = .ok (.aload_n 0, 1) := by decide +kernel
theorem dX10_worthOf_33 : decode cX10_worthOf 33 = .ok (.getfield 94, 3) := by decide +kernel
theorem dX10_worthOf_36 : decode cX10_worthOf 36 = .ok (.iload_n 3, 1) := by decide +kernel
theorem dX10_worthOf_37 : decode cX10_worthOf 37 = .ok (.iload 5, 2) := by decide +kernel
theorem dX10_worthOf_39 : decode cX10_worthOf 39 = .ok (.ifCond .ne 13, 3) := by decide +kernel
theorem dX10_worthOf_42 : decode cX10_worthOf 42 = .ok (.aload_n 0, 1) := by decide +kernel
theorem dX10_worthOf_43 : decode cX10_worthOf 43 = .ok (.getfield 68, 3) := by decide +kernel
theorem dX10_worthOf_46 : decode cX10_worthOf 46 = .ok (.iload 4, 2) := by decide +kernel
theorem dX10_worthOf_48 : decode cX10_worthOf 48 = .ok (.laload, 1) := by decide +kernel
theorem dX10_worthOf_49 : decode cX10_worthOf 49 = .ok (.goto 22, 3) := by decide +kernel
theorem dX10_worthOf_52 : decode cX10_worthOf 52 = .ok (.aload_n 0, 1) := by decide +kernel
theorem dX10_worthOf_53 : decode cX10_worthOf 53 = .ok (.getfield 75, 3) := by decide +kernel
theorem dX10_worthOf_56 : decode cX10_worthOf 56 = .ok (.bipush 6, 2) := by decide +kernel
theorem dX10_worthOf_58 : decode cX10_worthOf 58 = .ok (.iload_n 2, 1) := by decide +kernel
theorem dX10_worthOf_59 : decode cX10_worthOf 59 = .ok (.imul, 1) := by decide +kernel
theorem dX10_worthOf_60 : decode cX10_worthOf 60 = .ok (.aload_n 0, 1) := by decide +kernel
theorem dX10_worthOf_61 : decode cX10_worthOf 61 = .ok (.getfield 68, 3) := by decide +kernel
theorem dX10_worthOf_64 : decode cX10_worthOf 64 = .ok (.iload 4, 2) := by decide +kernel
theorem dX10_worthOf_66 : decode cX10_worthOf 66 = .ok (.laload, 1) := by decide +kernel
theorem dX10_worthOf_67 : decode cX10_worthOf 67 = .ok (.l2i, 1) := by decide +kernel
theorem dX10_worthOf_68 : decode cX10_worthOf 68 = .ok (.iadd, 1) := by decide +kernel
theorem dX10_worthOf_69 : decode cX10_worthOf 69 = .ok (.iaload, 1) := by decide +kernel
theorem dX10_worthOf_70 : decode cX10_worthOf 70 = .ok (.i2l, 1) := by decide +kernel
theorem dX10_worthOf_71 : decode cX10_worthOf 71 = .ok (.lastore, 1) := by decide +kernel
theorem dX10_worthOf_72 : decode cX10_worthOf 72 = .ok (.iinc 3 1, 3) := by decide +kernel
theorem dX10_worthOf_75 : decode cX10_worthOf 75 = .ok (.goto 105, 3) := by decide +kernel
theorem dX10_worthOf_78 : decode cX10_worthOf 78 = .ok (.iload 5, 2) := by decide +kernel
theorem dX10_worthOf_80 : decode cX10_worthOf 80 = .ok (.bipush 40, 2) := by decide +kernel
theorem dX10_worthOf_82 : decode cX10_worthOf 82 = .ok (.if_icmp .lt 68, 3) := by decide +kernel
theorem dX10_worthOf_85 : decode cX10_worthOf 85 = .ok (.aload_n 0, 1) := by decide +kernel
theorem dX10_worthOf_86 : decode cX10_worthOf 86 = .ok (.getfield 94, 3) := by decide +kernel
theorem dX10_worthOf_89 : decode cX10_worthOf 89 = .ok (.iload_n 3, 1) := by decide +kernel
theorem dX10_worthOf_90 : decode cX10_worthOf 90 = .ok (.iconst 1, 1) := by decide +kernel
theorem dX10_worthOf_91 : decode cX10_worthOf 91 = .ok (.isub, 1) := by decide +kernel
theorem dX10_worthOf_92 : decode cX10_worthOf 92 = .ok (.laload, 1) := by decide +kernel
theorem dX10_worthOf_93 : decode cX10_worthOf 93 = .ok (.lstore 6, 2) := by decide +kernel
theorem dX10_worthOf_95 : decode cX10_worthOf 95 = .ok (.aload_n 0, 1) := by decide +kernel
theorem dX10_worthOf_96 : decode cX10_worthOf 96 = .ok (.getfield 94, 3) := by decide +kernel
theorem dX10_worthOf_99 : decode cX10_worthOf 99 = .ok (.iload_n 3, 1) := by decide +kernel
theorem dX10_worthOf_100 : decode cX10_worthOf 100 = .ok (.iconst 1, 1) := by decide +kernel
theorem dX10_worthOf_101 : decode cX10_worthOf 101 = .ok (.isub, 1) := by decide +kernel
theorem dX10_worthOf_102 : decode cX10_worthOf 102 = .ok (.iload 5, 2) := by decide +kernel
theorem dX10_worthOf_104 : decode cX10_worthOf 104 = .ok (.bipush 40, 2) := by decide +kernel
theorem dX10_worthOf_106 : decode cX10_worthOf 106 = .ok (.if_icmp .ne 18, 3) := by decide +kernel
theorem dX10_worthOf_109 : decode cX10_worthOf 109 = .ok (.lload 6, 2) := by decide +kernel
theorem dX10_worthOf_111 : decode cX10_worthOf 111 = .ok (.lconst 0, 1) := by decide +kernel
theorem dX10_worthOf_112 : decode cX10_worthOf 112 = .ok (.lcmp, 1) := by decide +kernel
theorem dX10_worthOf_113 : decode cX10_worthOf 113 = .ok (.ifCond .ne 7, 3) := by decide +kernel
theorem dX10_worthOf_116 : decode cX10_worthOf 116 = .ok (.lconst 1, 1) := by decide +kernel
theorem dX10_worthOf_117 : decode cX10_worthOf 117 = .ok (.goto 29, 3) := by decide +kernel
theorem dX10_worthOf_120 : decode cX10_worthOf 120 = .ok (.lconst 0, 1) := by decide +kernel
theorem dX10_worthOf_121 : decode cX10_worthOf 121 = .ok (.goto 25, 3) := by decide +kernel
theorem dX10_worthOf_124 : decode cX10_worthOf 124 = .ok (.iload 5, 2) := by decide +kernel
theorem dX10_worthOf_126 : decode cX10_worthOf 126 = .ok (.bipush 41, 2) := by decide +kernel
theorem dX10_worthOf_128 : decode cX10_worthOf 128 = .ok (.if_icmp .eq 10, 3) := by decide +kernel
theorem dX10_worthOf_131 : decode cX10_worthOf 131 = .ok (.lload 6, 2) := by decide +kernel
theorem dX10_worthOf_133 : decode cX10_worthOf 133 = .ok (.lconst 0, 1) := by decide +kernel
theorem dX10_worthOf_134 : decode cX10_worthOf 134 = .ok (.lcmp, 1) := by decide +kernel
theorem dX10_worthOf_135 : decode cX10_worthOf 135 = .ok (.ifCond .ge 9, 3) := by decide +kernel
theorem dX10_worthOf_138 : decode cX10_worthOf 138 = .ok (.lload 6, 2) := by decide +kernel
theorem dX10_worthOf_140 : decode cX10_worthOf 140 = .ok (.lneg, 1) := by decide +kernel
theorem dX10_worthOf_141 : decode cX10_worthOf 141 = .ok (.goto 5, 3) := by decide +kernel
theorem dX10_worthOf_144 : decode cX10_worthOf 144 = .ok (.lload 6, 2) := by decide +kernel
theorem dX10_worthOf_146 : decode cX10_worthOf 146 = .ok (.lastore, 1) := by decide +kernel
theorem dX10_worthOf_147 : decode cX10_worthOf 147 = .ok (.goto 33, 3) := by decide +kernel
theorem dX10_worthOf_150 : decode cX10_worthOf 150 = .ok (.iinc 3 (-1), 3) := by decide +kernel
theorem dX10_worthOf_153 : decode cX10_worthOf 153 = .ok (.aload_n 0, 1) := by decide +kernel
theorem dX10_worthOf_154 : decode cX10_worthOf 154 = .ok (.getfield 94, 3) := by decide +kernel
theorem dX10_worthOf_157 : decode cX10_worthOf 157 = .ok (.iload_n 3, 1) := by decide +kernel
theorem dX10_worthOf_158 : decode cX10_worthOf 158 = .ok (.iconst 1, 1) := by decide +kernel
theorem dX10_worthOf_159 : decode cX10_worthOf 159 = .ok (.isub, 1) := by decide +kernel
theorem dX10_worthOf_160 : decode cX10_worthOf 160 = .ok (.iload 5, 2) := by decide +kernel
theorem dX10_worthOf_162 : decode cX10_worthOf 162 = .ok (.aload_n 0, 1) := by decide +kernel
theorem dX10_worthOf_163 : decode cX10_worthOf 163 = .ok (.getfield 94, 3) := by decide +kernel
theorem dX10_worthOf_166 : decode cX10_worthOf 166 = .ok (.iload_n 3, 1) := by decide +kernel
theorem dX10_worthOf_167 : decode cX10_worthOf 167 = .ok (.iconst 1, 1) := by decide +kernel
theorem dX10_worthOf_168 : decode cX10_worthOf 168 = .ok (.isub, 1) := by decide +kernel
theorem dX10_worthOf_169 : decode cX10_worthOf 169 = .ok (.laload, 1) := by decide +kernel
theorem dX10_worthOf_170 : decode cX10_worthOf 170 = .ok (.aload_n 0, 1) := by decide +kernel
theorem dX10_worthOf_171 : decode cX10_worthOf 171 = .ok (.getfield 94, 3) := by decide +kernel
theorem dX10_worthOf_174 : decode cX10_worthOf 174 = .ok (.iload_n 3, 1) := by decide +kernel
theorem dX10_worthOf_175 : decode cX10_worthOf 175 = .ok (.laload, 1) := by decide +kernel
theorem dX10_worthOf_176 : decode cX10_worthOf 176 = .ok (.invokestatic 370, 3) := by decide +kernel
theorem dX10_worthOf_179 : decode cX10_worthOf 179 = .ok (.lastore, 1) := by decide +kernel
theorem dX10_worthOf_180 : decode cX10_worthOf 180 = .ok (.iinc 4 1, 3) := by decide +kernel
theorem dX10_worthOf_183 : decode cX10_worthOf 183 = .ok (.goto (-178), 3) := by decide +kernel
theorem dX10_worthOf_186 : decode cX10_worthOf 186 = .ok (.aload_n 0, 1) := by decide +kernel
theorem dX10_worthOf_187 : decode cX10_worthOf 187 = .ok (.getfield 94, 3) := by decide +kernel
theorem dX10_worthOf_190 : decode cX10_worthOf 190 = .ok (.iconst 0, 1) := by decide +kernel
theorem dX10_worthOf_191 : decode cX10_worthOf 191 = .ok (.laload, 1) := by decide +kernel
theorem dX10_worthOf_192 : decode cX10_worthOf 192 = .ok (.lreturn, 1) := by decide +kernel
theorem dX10_two_0 : decode cX10_two 0 = .ok (.iload_n 0, 1) := by decide +kernel
theorem dX10_two_1 : decode cX10_two 1 = .ok (.tableswitch 261 10 32 #[107, 111, 115, 119, 133, 261, 261, 261, 261, 261, 147, 159, 171, 183, 195, 207, 261, 261, 261, 261, 219, 237, 255], 107) := by decide +kernel
theorem dX10_two_108 : decode cX10_two 108 = .ok (.lload_n 1, 1) := by decide +kernel
theorem dX10_two_109 : decode cX10_two 109 = .ok (.lload_n 3, 1) := by decide +kernel
theorem dX10_two_110 : decode cX10_two 110 = .ok (.ladd, 1) := by decide +kernel
theorem dX10_two_111 : decode cX10_two 111 = .ok (.lreturn, 1) := by decide +kernel
theorem dX10_two_112 : decode cX10_two 112 = .ok (.lload_n 1, 1) := by decide +kernel
theorem dX10_two_113 : decode cX10_two 113 = .ok (.lload_n 3, 1) := by decide +kernel
theorem dX10_two_114 : decode cX10_two 114 = .ok (.lsub, 1) := by decide +kernel
theorem dX10_two_115 : decode cX10_two 115 = .ok (.lreturn, 1) := by decide +kernel
theorem dX10_two_116 : decode cX10_two 116 = .ok (.lload_n 1, 1) := by decide +kernel
theorem dX10_two_117 : decode cX10_two 117 = .ok (.lload_n 3, 1) := by decide +kernel
theorem dX10_two_118 : decode cX10_two 118 = .ok (.lmul, 1) := by decide +kernel
theorem dX10_two_119 : decode cX10_two 119 = .ok (.lreturn, 1) := by decide +kernel
theorem dX10_two_120 : decode cX10_two 120 = .ok (.lload_n 3, 1) := by decide +kernel
theorem dX10_two_121 : decode cX10_two 121 = .ok (.lconst 0, 1) := by decide +kernel
theorem dX10_two_122 : decode cX10_two 122 = .ok (.lcmp, 1) := by decide +kernel
theorem dX10_two_123 : decode cX10_two 123 = .ok (.ifCond .ne 7, 3) := by decide +kernel
theorem dX10_two_126 : decode cX10_two 126 = .ok (.lconst 0, 1) := by decide +kernel
theorem dX10_two_127 : decode cX10_two 127 = .ok (.goto 6, 3) := by decide +kernel
theorem dX10_two_130 : decode cX10_two 130 = .ok (.lload_n 1, 1) := by decide +kernel
theorem dX10_two_131 : decode cX10_two 131 = .ok (.lload_n 3, 1) := by decide +kernel
theorem dX10_two_132 : decode cX10_two 132 = .ok (.ldiv, 1) := by decide +kernel
theorem dX10_two_133 : decode cX10_two 133 = .ok (.lreturn, 1) := by decide +kernel
theorem dX10_two_134 : decode cX10_two 134 = .ok (.lload_n 3, 1) := by decide +kernel
theorem dX10_two_135 : decode cX10_two 135 = .ok (.lconst 0, 1) := by decide +kernel
theorem dX10_two_136 : decode cX10_two 136 = .ok (.lcmp, 1) := by decide +kernel
theorem dX10_two_137 : decode cX10_two 137 = .ok (.ifCond .ne 7, 3) := by decide +kernel
theorem dX10_two_140 : decode cX10_two 140 = .ok (.lconst 0, 1) := by decide +kernel
theorem dX10_two_141 : decode cX10_two 141 = .ok (.goto 6, 3) := by decide +kernel
theorem dX10_two_144 : decode cX10_two 144 = .ok (.lload_n 1, 1) := by decide +kernel
theorem dX10_two_145 : decode cX10_two 145 = .ok (.lload_n 3, 1) := by decide +kernel
theorem dX10_two_146 : decode cX10_two 146 = .ok (.lrem, 1) := by decide +kernel
theorem dX10_two_147 : decode cX10_two 147 = .ok (.lreturn, 1) := by decide +kernel
theorem dX10_two_148 : decode cX10_two 148 = .ok (.lload_n 1, 1) := by decide +kernel
theorem dX10_two_149 : decode cX10_two 149 = .ok (.lload_n 3, 1) := by decide +kernel
theorem dX10_two_150 : decode cX10_two 150 = .ok (.lcmp, 1) := by decide +kernel
theorem dX10_two_151 : decode cX10_two 151 = .ok (.ifCond .ne 7, 3) := by decide +kernel
theorem dX10_two_154 : decode cX10_two 154 = .ok (.lconst 1, 1) := by decide +kernel
theorem dX10_two_155 : decode cX10_two 155 = .ok (.goto 4, 3) := by decide +kernel
theorem dX10_two_158 : decode cX10_two 158 = .ok (.lconst 0, 1) := by decide +kernel
theorem dX10_two_159 : decode cX10_two 159 = .ok (.lreturn, 1) := by decide +kernel
theorem dX10_two_160 : decode cX10_two 160 = .ok (.lload_n 1, 1) := by decide +kernel
theorem dX10_two_161 : decode cX10_two 161 = .ok (.lload_n 3, 1) := by decide +kernel
theorem dX10_two_162 : decode cX10_two 162 = .ok (.lcmp, 1) := by decide +kernel
theorem dX10_two_163 : decode cX10_two 163 = .ok (.ifCond .eq 7, 3) := by decide +kernel
theorem dX10_two_166 : decode cX10_two 166 = .ok (.lconst 1, 1) := by decide +kernel
theorem dX10_two_167 : decode cX10_two 167 = .ok (.goto 4, 3) := by decide +kernel
theorem dX10_two_170 : decode cX10_two 170 = .ok (.lconst 0, 1) := by decide +kernel
theorem dX10_two_171 : decode cX10_two 171 = .ok (.lreturn, 1) := by decide +kernel
theorem dX10_two_172 : decode cX10_two 172 = .ok (.lload_n 1, 1) := by decide +kernel
theorem dX10_two_173 : decode cX10_two 173 = .ok (.lload_n 3, 1) := by decide +kernel
theorem dX10_two_174 : decode cX10_two 174 = .ok (.lcmp, 1) := by decide +kernel
theorem dX10_two_175 : decode cX10_two 175 = .ok (.ifCond .ge 7, 3) := by decide +kernel
theorem dX10_two_178 : decode cX10_two 178 = .ok (.lconst 1, 1) := by decide +kernel
theorem dX10_two_179 : decode cX10_two 179 = .ok (.goto 4, 3) := by decide +kernel
theorem dX10_two_182 : decode cX10_two 182 = .ok (.lconst 0, 1) := by decide +kernel
theorem dX10_two_183 : decode cX10_two 183 = .ok (.lreturn, 1) := by decide +kernel
theorem dX10_two_184 : decode cX10_two 184 = .ok (.lload_n 1, 1) := by decide +kernel
theorem dX10_two_185 : decode cX10_two 185 = .ok (.lload_n 3, 1) := by decide +kernel
theorem dX10_two_186 : decode cX10_two 186 = .ok (.lcmp, 1) := by decide +kernel
theorem dX10_two_187 : decode cX10_two 187 = .ok (.ifCond .le 7, 3) := by decide +kernel
theorem dX10_two_190 : decode cX10_two 190 = .ok (.lconst 1, 1) := by decide +kernel
theorem dX10_two_191 : decode cX10_two 191 = .ok (.goto 4, 3) := by decide +kernel
theorem dX10_two_194 : decode cX10_two 194 = .ok (.lconst 0, 1) := by decide +kernel
theorem dX10_two_195 : decode cX10_two 195 = .ok (.lreturn, 1) := by decide +kernel
theorem dX10_two_196 : decode cX10_two 196 = .ok (.lload_n 1, 1) := by decide +kernel
theorem dX10_two_197 : decode cX10_two 197 = .ok (.lload_n 3, 1) := by decide +kernel
theorem dX10_two_198 : decode cX10_two 198 = .ok (.lcmp, 1) := by decide +kernel
theorem dX10_two_199 : decode cX10_two 199 = .ok (.ifCond .gt 7, 3) := by decide +kernel
theorem dX10_two_202 : decode cX10_two 202 = .ok (.lconst 1, 1) := by decide +kernel
theorem dX10_two_203 : decode cX10_two 203 = .ok (.goto 4, 3) := by decide +kernel
theorem dX10_two_206 : decode cX10_two 206 = .ok (.lconst 0, 1) := by decide +kernel
theorem dX10_two_207 : decode cX10_two 207 = .ok (.lreturn, 1) := by decide +kernel
theorem dX10_two_208 : decode cX10_two 208 = .ok (.lload_n 1, 1) := by decide +kernel
theorem dX10_two_209 : decode cX10_two 209 = .ok (.lload_n 3, 1) := by decide +kernel
theorem dX10_two_210 : decode cX10_two 210 = .ok (.lcmp, 1) := by decide +kernel
theorem dX10_two_211 : decode cX10_two 211 = .ok (.ifCond .lt 7, 3) := by decide +kernel
theorem dX10_two_214 : decode cX10_two 214 = .ok (.lconst 1, 1) := by decide +kernel
theorem dX10_two_215 : decode cX10_two 215 = .ok (.goto 4, 3) := by decide +kernel
theorem dX10_two_218 : decode cX10_two 218 = .ok (.lconst 0, 1) := by decide +kernel
theorem dX10_two_219 : decode cX10_two 219 = .ok (.lreturn, 1) := by decide +kernel
theorem dX10_two_220 : decode cX10_two 220 = .ok (.lload_n 1, 1) := by decide +kernel
theorem dX10_two_221 : decode cX10_two 221 = .ok (.lconst 0, 1) := by decide +kernel
theorem dX10_two_222 : decode cX10_two 222 = .ok (.lcmp, 1) := by decide +kernel
theorem dX10_two_223 : decode cX10_two 223 = .ok (.ifCond .eq 13, 3) := by decide +kernel
theorem dX10_two_226 : decode cX10_two 226 = .ok (.lload_n 3, 1) := by decide +kernel
theorem dX10_two_227 : decode cX10_two 227 = .ok (.lconst 0, 1) := by decide +kernel
theorem dX10_two_228 : decode cX10_two 228 = .ok (.lcmp, 1) := by decide +kernel
theorem dX10_two_229 : decode cX10_two 229 = .ok (.ifCond .eq 7, 3) := by decide +kernel
theorem dX10_two_232 : decode cX10_two 232 = .ok (.lconst 1, 1) := by decide +kernel
theorem dX10_two_233 : decode cX10_two 233 = .ok (.goto 4, 3) := by decide +kernel
theorem dX10_two_236 : decode cX10_two 236 = .ok (.lconst 0, 1) := by decide +kernel
theorem dX10_two_237 : decode cX10_two 237 = .ok (.lreturn, 1) := by decide +kernel
theorem dX10_two_238 : decode cX10_two 238 = .ok (.lload_n 1, 1) := by decide +kernel
theorem dX10_two_239 : decode cX10_two 239 = .ok (.lconst 0, 1) := by decide +kernel
theorem dX10_two_240 : decode cX10_two 240 = .ok (.lcmp, 1) := by decide +kernel
theorem dX10_two_241 : decode cX10_two 241 = .ok (.ifCond .ne 9, 3) := by decide +kernel
theorem dX10_two_244 : decode cX10_two 244 = .ok (.lload_n 3, 1) := by decide +kernel
theorem dX10_two_245 : decode cX10_two 245 = .ok (.lconst 0, 1) := by decide +kernel
theorem dX10_two_246 : decode cX10_two 246 = .ok (.lcmp, 1) := by decide +kernel
theorem dX10_two_247 : decode cX10_two 247 = .ok (.ifCond .eq 7, 3) := by decide +kernel
theorem dX10_two_250 : decode cX10_two 250 = .ok (.lconst 1, 1) := by decide +kernel
theorem dX10_two_251 : decode cX10_two 251 = .ok (.goto 4, 3) := by decide +kernel
theorem dX10_two_254 : decode cX10_two 254 = .ok (.lconst 0, 1) := by decide +kernel
theorem dX10_two_255 : decode cX10_two 255 = .ok (.lreturn, 1) := by decide +kernel
theorem dX10_two_256 : decode cX10_two 256 = .ok (.lload_n 1, 1) := by decide +kernel
theorem dX10_two_257 : decode cX10_two 257 = .ok (.lload_n 3, 1) := by decide +kernel
theorem dX10_two_258 : decode cX10_two 258 = .ok (.invokestatic 374, 3) := by decide +kernel
theorem dX10_two_261 : decode cX10_two 261 = .ok (.lreturn, 1) := by decide +kernel
theorem dX10_two_262 : decode cX10_two 262 = .ok (.lload_n 1, 1) := by decide +kernel
theorem dX10_two_263 : decode cX10_two 263 = .ok (.lload_n 3, 1) := by decide +kernel
theorem dX10_two_264 : decode cX10_two 264 = .ok (.invokestatic 380, 3) := by decide +kernel
theorem dX10_two_267 : decode cX10_two 267 = .ok (.lreturn, 1) := by decide +kernel
theorem dX10_find_0 : decode cX10_find 0 = .ok (.iconst 0, 1) := by decide +kernel
theorem dX10_find_1 : decode cX10_find 1 = .ok (.istore_n 2, 1) := by decide +kernel
theorem dX10_find_2 : decode cX10_find 2 = .ok (.iload_n 2, 1) := by decide +kernel
theorem dX10_find_3 : decode cX10_find 3 = .ok (.aload_n 0, 1) := by decide +kernel
theorem dX10_find_4 : decode cX10_find 4 = .ok (.getfield 213, 3) := by decide +kernel
theorem dX10_find_7 : decode cX10_find 7 = .ok (.if_icmp .ge 67, 3) := by decide +kernel
theorem dX10_find_10 : decode cX10_find 10 = .ok (.iconst 1, 1) := by decide +kernel
theorem dX10_find_11 : decode cX10_find 11 = .ok (.istore_n 3, 1) := by decide +kernel
theorem dX10_find_12 : decode cX10_find 12 = .ok (.iconst 0, 1) := by decide +kernel
theorem dX10_find_13 : decode cX10_find 13 = .ok (.istore 4, 2) := by decide +kernel
theorem dX10_find_15 : decode cX10_find 15 = .ok (.iload 4, 2) := by decide +kernel
theorem dX10_find_17 : decode cX10_find 17 = .ok (.aload_n 0, 1) := by decide +kernel
theorem dX10_find_18 : decode cX10_find 18 = .ok (.getfield 198, 3) := by decide +kernel
theorem dX10_find_21 : decode cX10_find 21 = .ok (.if_icmp .ge 41, 3) := by decide +kernel
theorem dX10_find_24 : decode cX10_find 24 = .ok (.iload_n 3, 1) := by decide +kernel
theorem dX10_find_25 : decode cX10_find 25 = .ok (.ifCond .eq 37, 3) := by decide +kernel
theorem dX10_find_28 : decode cX10_find 28 = .ok (.aload_n 0, 1) := by decide +kernel
theorem dX10_find_29 : decode cX10_find 29 = .ok (.getfield 75, 3) := by decide +kernel
theorem dX10_find_32 : decode cX10_find 32 = .ok (.bipush 6, 2) := by decide +kernel
theorem dX10_find_34 : decode cX10_find 34 = .ok (.iload_n 2, 1) := by decide +kernel
theorem dX10_find_35 : decode cX10_find 35 = .ok (.imul, 1) := by decide +kernel
theorem dX10_find_36 : decode cX10_find 36 = .ok (.iload 4, 2) := by decide +kernel
theorem dX10_find_38 : decode cX10_find 38 = .ok (.iadd, 1) := by decide +kernel
theorem dX10_find_39 : decode cX10_find 39 = .ok (.iaload, 1) := by decide +kernel
theorem dX10_find_40 : decode cX10_find 40 = .ok (.aload_n 0, 1) := by decide +kernel
theorem dX10_find_41 : decode cX10_find 41 = .ok (.getfield 97, 3) := by decide +kernel
theorem dX10_find_44 : decode cX10_find 44 = .ok (.iload 4, 2) := by decide +kernel
theorem dX10_find_46 : decode cX10_find 46 = .ok (.iaload, 1) := by decide +kernel
theorem dX10_find_47 : decode cX10_find 47 = .ok (.if_icmp .ne 7, 3) := by decide +kernel
theorem dX10_find_50 : decode cX10_find 50 = .ok (.iconst 1, 1) := by decide +kernel
theorem dX10_find_51 : decode cX10_find 51 = .ok (.goto 4, 3) := by decide +kernel
theorem dX10_find_54 : decode cX10_find 54 = .ok (.iconst 0, 1) := by decide +kernel
theorem dX10_find_55 : decode cX10_find 55 = .ok (.istore_n 3, 1) := by decide +kernel
theorem dX10_find_56 : decode cX10_find 56 = .ok (.iinc 4 1, 3) := by decide +kernel
theorem dX10_find_59 : decode cX10_find 59 = .ok (.goto (-44), 3) := by decide +kernel
theorem dX10_find_62 : decode cX10_find 62 = .ok (.iload_n 3, 1) := by decide +kernel
theorem dX10_find_63 : decode cX10_find 63 = .ok (.ifCond .eq 5, 3) := by decide +kernel
theorem dX10_find_66 : decode cX10_find 66 = .ok (.iload_n 2, 1) := by decide +kernel
theorem dX10_find_67 : decode cX10_find 67 = .ok (.ireturn, 1) := by decide +kernel
theorem dX10_find_68 : decode cX10_find 68 = .ok (.iinc 2 1, 3) := by decide +kernel
theorem dX10_find_71 : decode cX10_find 71 = .ok (.goto (-69), 3) := by decide +kernel
theorem dX10_find_74 : decode cX10_find 74 = .ok (.aload_n 0, 1) := by decide +kernel
theorem dX10_find_75 : decode cX10_find 75 = .ok (.getfield 213, 3) := by decide +kernel
theorem dX10_find_78 : decode cX10_find 78 = .ok (.bipush 100, 2) := by decide +kernel
theorem dX10_find_80 : decode cX10_find 80 = .ok (.if_icmp .ne 14, 3) := by decide +kernel
theorem dX10_find_83 : decode cX10_find 83 = .ok (.new 222, 3) := by decide +kernel
theorem dX10_find_86 : decode cX10_find 86 = .ok (.dup, 1) := by decide +kernel
theorem dX10_find_87 : decode cX10_find 87 = .ok (.bipush 8, 2) := by decide +kernel
theorem dX10_find_89 : decode cX10_find 89 = .ok (.iload_n 1, 1) := by decide +kernel
theorem dX10_find_90 : decode cX10_find 90 = .ok (.invokespecial 224, 3) := by decide +kernel
theorem dX10_find_93 : decode cX10_find 93 = .ok (.athrow, 1) := by decide +kernel
theorem dX10_find_94 : decode cX10_find 94 = .ok (.aload_n 0, 1) := by decide +kernel
theorem dX10_find_95 : decode cX10_find 95 = .ok (.getfield 97, 3) := by decide +kernel
theorem dX10_find_98 : decode cX10_find 98 = .ok (.iconst 0, 1) := by decide +kernel
theorem dX10_find_99 : decode cX10_find 99 = .ok (.aload_n 0, 1) := by decide +kernel
theorem dX10_find_100 : decode cX10_find 100 = .ok (.getfield 75, 3) := by decide +kernel
theorem dX10_find_103 : decode cX10_find 103 = .ok (.bipush 6, 2) := by decide +kernel
theorem dX10_find_105 : decode cX10_find 105 = .ok (.aload_n 0, 1) := by decide +kernel
theorem dX10_find_106 : decode cX10_find 106 = .ok (.getfield 213, 3) := by decide +kernel
theorem dX10_find_109 : decode cX10_find 109 = .ok (.imul, 1) := by decide +kernel
theorem dX10_find_110 : decode cX10_find 110 = .ok (.bipush 6, 2) := by decide +kernel
theorem dX10_find_112 : decode cX10_find 112 = .ok (.invokestatic 383, 3) := by decide +kernel
theorem dX10_find_115 : decode cX10_find 115 = .ok (.aload_n 0, 1) := by decide +kernel
theorem dX10_find_116 : decode cX10_find 116 = .ok (.dup, 1) := by decide +kernel
theorem dX10_find_117 : decode cX10_find 117 = .ok (.getfield 213, 3) := by decide +kernel
theorem dX10_find_120 : decode cX10_find 120 = .ok (.iconst 1, 1) := by decide +kernel
theorem dX10_find_121 : decode cX10_find 121 = .ok (.iadd, 1) := by decide +kernel
theorem dX10_find_122 : decode cX10_find 122 = .ok (.putfield 213, 3) := by decide +kernel
theorem dX10_find_125 : decode cX10_find 125 = .ok (.aload_n 0, 1) := by decide +kernel
theorem dX10_find_126 : decode cX10_find 126 = .ok (.getfield 213, 3) := by decide +kernel
theorem dX10_find_129 : decode cX10_find 129 = .ok (.iconst 1, 1) := by decide +kernel
theorem dX10_find_130 : decode cX10_find 130 = .ok (.isub, 1) := by decide +kernel
theorem dX10_find_131 : decode cX10_find 131 = .ok (.ireturn, 1) := by decide +kernel
theorem dX10_explore_0 : decode cX10_explore 0 = .ok (.aload_n 0, 1) := by decide +kernel
theorem dX10_explore_1 : decode cX10_explore 1 = .ok (.getfield 32, 3) := by decide +kernel
theorem dX10_explore_4 : decode cX10_explore 4 = .ok (.iconst 0, 1) := by decide +kernel
theorem dX10_explore_5 : decode cX10_explore 5 = .ok (.aload_n 0, 1) := by decide +kernel
theorem dX10_explore_6 : decode cX10_explore 6 = .ok (.getfield 97, 3) := by decide +kernel
theorem dX10_explore_9 : decode cX10_explore 9 = .ok (.iconst 0, 1) := by decide +kernel
theorem dX10_explore_10 : decode cX10_explore 10 = .ok (.bipush 6, 2) := by decide +kernel
theorem dX10_explore_12 : decode cX10_explore 12 = .ok (.invokestatic 383, 3) := by decide +kernel
theorem dX10_explore_15 : decode cX10_explore 15 = .ok (.aload_n 0, 1) := by decide +kernel
theorem dX10_explore_16 : decode cX10_explore 16 = .ok (.iconst 0, 1) := by decide +kernel
theorem dX10_explore_17 : decode cX10_explore 17 = .ok (.invokevirtual 389, 3) := by decide +kernel
theorem dX10_explore_20 : decode cX10_explore 20 = .ok (.pop, 1) := by decide +kernel
theorem dX10_explore_21 : decode cX10_explore 21 = .ok (.iconst 0, 1) := by decide +kernel
theorem dX10_explore_22 : decode cX10_explore 22 = .ok (.istore_n 1, 1) := by decide +kernel
theorem dX10_explore_23 : decode cX10_explore 23 = .ok (.iload_n 1, 1) := by decide +kernel
theorem dX10_explore_24 : decode cX10_explore 24 = .ok (.aload_n 0, 1) := by decide +kernel
theorem dX10_explore_25 : decode cX10_explore 25 = .ok (.getfield 213, 3) := by decide +kernel
theorem dX10_explore_28 : decode cX10_explore 28 = .ok (.if_icmp .ge 96, 3) := by decide +kernel
theorem dX10_explore_31 : decode cX10_explore 31 = .ok (.aload_n 0, 1) := by decide +kernel
theorem dX10_explore_32 : decode cX10_explore 32 = .ok (.getfield 78, 3) := by decide +kernel
theorem dX10_explore_35 : decode cX10_explore 35 = .ok (.iload_n 1, 1) := by decide +kernel
theorem dX10_explore_36 : decode cX10_explore 36 = .ok (.aload_n 0, 1) := by decide +kernel
theorem dX10_explore_37 : decode cX10_explore 37 = .ok (.getfield 204, 3) := by decide +kernel
theorem dX10_explore_40 : decode cX10_explore 40 = .ok (.iconst (-1), 1) := by decide +kernel
theorem dX10_explore_41 : decode cX10_explore 41 = .ok (.if_icmp .eq 21, 3) := by decide +kernel
theorem dX10_explore_44 : decode cX10_explore 44 = .ok (.aload_n 0, 1) := by decide +kernel
theorem dX10_explore_45 : decode cX10_explore 45 = .ok (.aload_n 0, 1) := by decide +kernel
theorem dX10_explore_46 : decode cX10_explore 46 = .ok (.getfield 204, 3) := by decide +kernel
theorem dX10_explore_49 : decode cX10_explore 49 = .ok (.iload_n 1, 1) := by decide +kernel
theorem dX10_explore_50 : decode cX10_explore 50 = .ok (.invokevirtual 366, 3) := by decide +kernel
theorem dX10_explore_53 : decode cX10_explore 53 = .ok (.lconst 0, 1) := by decide +kernel
theorem dX10_explore_54 : decode cX10_explore 54 = .ok (.lcmp, 1) := by decide +kernel
theorem dX10_explore_55 : decode cX10_explore 55 = .ok (.ifCond .eq 7, 3) := by decide +kernel
theorem dX10_explore_58 : decode cX10_explore 58 = .ok (.iconst 1, 1) := by decide +kernel
theorem dX10_explore_59 : decode cX10_explore 59 = .ok (.goto 4, 3) := by decide +kernel
theorem dX10_explore_62 : decode cX10_explore 62 = .ok (.iconst 0, 1) := by decide +kernel
theorem dX10_explore_63 : decode cX10_explore 63 = .ok (.bastore, 1) := by decide +kernel
theorem dX10_explore_64 : decode cX10_explore 64 = .ok (.aload_n 0, 1) := by decide +kernel
theorem dX10_explore_65 : decode cX10_explore 65 = .ok (.getfield 82, 3) := by decide +kernel
theorem dX10_explore_68 : decode cX10_explore 68 = .ok (.iload_n 1, 1) := by decide +kernel
theorem dX10_explore_69 : decode cX10_explore 69 = .ok (.iconst 0, 1) := by decide +kernel
theorem dX10_explore_70 : decode cX10_explore 70 = .ok (.iastore, 1) := by decide +kernel
theorem dX10_explore_71 : decode cX10_explore 71 = .ok (.iconst 0, 1) := by decide +kernel
theorem dX10_explore_72 : decode cX10_explore 72 = .ok (.istore_n 2, 1) := by decide +kernel
theorem dX10_explore_73 : decode cX10_explore 73 = .ok (.iload_n 2, 1) := by decide +kernel
theorem dX10_explore_74 : decode cX10_explore 74 = .ok (.aload_n 0, 1) := by decide +kernel
theorem dX10_explore_75 : decode cX10_explore 75 = .ok (.getfield 207, 3) := by decide +kernel
theorem dX10_explore_78 : decode cX10_explore 78 = .ok (.if_icmp .ge 40, 3) := by decide +kernel
theorem dX10_explore_81 : decode cX10_explore 81 = .ok (.aload_n 0, 1) := by decide +kernel
theorem dX10_explore_82 : decode cX10_explore 82 = .ok (.getfield 78, 3) := by decide +kernel
theorem dX10_explore_85 : decode cX10_explore 85 = .ok (.iload_n 1, 1) := by decide +kernel
theorem dX10_explore_86 : decode cX10_explore 86 = .ok (.baload, 1) := by decide +kernel
theorem dX10_explore_87 : decode cX10_explore 87 = .ok (.ifCond .ne 31, 3) := by decide +kernel
theorem dX10_explore_90 : decode cX10_explore 90 = .ok (.aload_n 0, 1) := by decide +kernel
theorem dX10_explore_91 : decode cX10_explore 91 = .ok (.aload_n 0, 1) := by decide +kernel
theorem dX10_explore_92 : decode cX10_explore 92 = .ok (.getfield 53, 3) := by decide +kernel
theorem dX10_explore_95 : decode cX10_explore 95 = .ok (.iload_n 2, 1) := by decide +kernel
theorem dX10_explore_96 : decode cX10_explore 96 = .ok (.iaload, 1) := by decide +kernel
theorem dX10_explore_97 : decode cX10_explore 97 = .ok (.iload_n 1, 1) := by decide +kernel
theorem dX10_explore_98 : decode cX10_explore 98 = .ok (.invokevirtual 366, 3) := by decide +kernel
theorem dX10_explore_101 : decode cX10_explore 101 = .ok (.lconst 0, 1) := by decide +kernel
theorem dX10_explore_102 : decode cX10_explore 102 = .ok (.lcmp, 1) := by decide +kernel
theorem dX10_explore_103 : decode cX10_explore 103 = .ok (.ifCond .eq 9, 3) := by decide +kernel
theorem dX10_explore_106 : decode cX10_explore 106 = .ok (.aload_n 0, 1) := by decide +kernel
theorem dX10_explore_107 : decode cX10_explore 107 = .ok (.iload_n 1, 1) := by decide +kernel
theorem dX10_explore_108 : decode cX10_explore 108 = .ok (.iload_n 2, 1) := by decide +kernel
theorem dX10_explore_109 : decode cX10_explore 109 = .ok (.invokevirtual 392, 3) := by decide +kernel
theorem dX10_explore_112 : decode cX10_explore 112 = .ok (.iinc 2 1, 3) := by decide +kernel
theorem dX10_explore_115 : decode cX10_explore 115 = .ok (.goto (-42), 3) := by decide +kernel
theorem dX10_explore_118 : decode cX10_explore 118 = .ok (.iinc 1 1, 3) := by decide +kernel
theorem dX10_explore_121 : decode cX10_explore 121 = .ok (.goto (-98), 3) := by decide +kernel
theorem dX10_explore_124 : decode cX10_explore 124 = .ok (.return_, 1) := by decide +kernel
theorem dX10_choose_0 : decode cX10_choose 0 = .ok (.bipush 16, 2) := by decide +kernel
theorem dX10_choose_2 : decode cX10_choose 2 = .ok (.iload_n 1, 1) := by decide +kernel
theorem dX10_choose_3 : decode cX10_choose 3 = .ok (.imul, 1) := by decide +kernel
theorem dX10_choose_4 : decode cX10_choose 4 = .ok (.aload_n 0, 1) := by decide +kernel
theorem dX10_choose_5 : decode cX10_choose 5 = .ok (.getfield 82, 3) := by decide +kernel
theorem dX10_choose_8 : decode cX10_choose 8 = .ok (.iload_n 1, 1) := by decide +kernel
theorem dX10_choose_9 : decode cX10_choose 9 = .ok (.iaload, 1) := by decide +kernel
theorem dX10_choose_10 : decode cX10_choose 10 = .ok (.iadd, 1) := by decide +kernel
theorem dX10_choose_11 : decode cX10_choose 11 = .ok (.istore_n 3, 1) := by decide +kernel
theorem dX10_choose_12 : decode cX10_choose 12 = .ok (.aload_n 0, 1) := by decide +kernel
theorem dX10_choose_13 : decode cX10_choose 13 = .ok (.getfield 85, 3) := by decide +kernel
theorem dX10_choose_16 : decode cX10_choose 16 = .ok (.iload_n 3, 1) := by decide +kernel
theorem dX10_choose_17 : decode cX10_choose 17 = .ok (.iload_n 2, 1) := by decide +kernel
theorem dX10_choose_18 : decode cX10_choose 18 = .ok (.iastore, 1) := by decide +kernel
theorem dX10_choose_19 : decode cX10_choose 19 = .ok (.iconst 0, 1) := by decide +kernel
theorem dX10_choose_20 : decode cX10_choose 20 = .ok (.istore 4, 2) := by decide +kernel
theorem dX10_choose_22 : decode cX10_choose 22 = .ok (.iload 4, 2) := by decide +kernel
theorem dX10_choose_24 : decode cX10_choose 24 = .ok (.aload_n 0, 1) := by decide +kernel
theorem dX10_choose_25 : decode cX10_choose 25 = .ok (.getfield 201, 3) := by decide +kernel
theorem dX10_choose_28 : decode cX10_choose 28 = .ok (.if_icmp .ge 65, 3) := by decide +kernel
theorem dX10_choose_31 : decode cX10_choose 31 = .ok (.aload_n 0, 1) := by decide +kernel
theorem dX10_choose_32 : decode cX10_choose 32 = .ok (.getfield 88, 3) := by decide +kernel
theorem dX10_choose_35 : decode cX10_choose 35 = .ok (.iconst 3, 1) := by decide +kernel
theorem dX10_choose_36 : decode cX10_choose 36 = .ok (.iload_n 3, 1) := by decide +kernel
theorem dX10_choose_37 : decode cX10_choose 37 = .ok (.imul, 1) := by decide +kernel
theorem dX10_choose_38 : decode cX10_choose 38 = .ok (.iload 4, 2) := by decide +kernel
theorem dX10_choose_40 : decode cX10_choose 40 = .ok (.iadd, 1) := by decide +kernel
theorem dX10_choose_41 : decode cX10_choose 41 = .ok (.aload_n 0, 1) := by decide +kernel
theorem dX10_choose_42 : decode cX10_choose 42 = .ok (.getfield 44, 3) := by decide +kernel
theorem dX10_choose_45 : decode cX10_choose 45 = .ok (.iload 4, 2) := by decide +kernel
theorem dX10_choose_47 : decode cX10_choose 47 = .ok (.laload, 1) := by decide +kernel
theorem dX10_choose_48 : decode cX10_choose 48 = .ok (.lconst 0, 1) := by decide +kernel
theorem dX10_choose_49 : decode cX10_choose 49 = .ok (.lcmp, 1) := by decide +kernel
theorem dX10_choose_50 : decode cX10_choose 50 = .ok (.ifCond .eq 20, 3) := by decide +kernel
theorem dX10_choose_53 : decode cX10_choose 53 = .ok (.aload_n 0, 1) := by decide +kernel
theorem dX10_choose_54 : decode cX10_choose 54 = .ok (.getfield 44, 3) := by decide +kernel
theorem dX10_choose_57 : decode cX10_choose 57 = .ok (.iload 4, 2) := by decide +kernel
theorem dX10_choose_59 : decode cX10_choose 59 = .ok (.laload, 1) := by decide +kernel
theorem dX10_choose_60 : decode cX10_choose 60 = .ok (.aload_n 0, 1) := by decide +kernel
theorem dX10_choose_61 : decode cX10_choose 61 = .ok (.getfield 47, 3) := by decide +kernel
theorem dX10_choose_64 : decode cX10_choose 64 = .ok (.iload_n 2, 1) := by decide +kernel
theorem dX10_choose_65 : decode cX10_choose 65 = .ok (.laload, 1) := by decide +kernel
theorem dX10_choose_66 : decode cX10_choose 66 = .ok (.lcmp, 1) := by decide +kernel
theorem dX10_choose_67 : decode cX10_choose 67 = .ok (.ifCond .ne 18, 3) := by decide +kernel
theorem dX10_choose_70 : decode cX10_choose 70 = .ok (.aload_n 0, 1) := by decide +kernel
theorem dX10_choose_71 : decode cX10_choose 71 = .ok (.aload_n 0, 1) := by decide +kernel
theorem dX10_choose_72 : decode cX10_choose 72 = .ok (.getfield 41, 3) := by decide +kernel
theorem dX10_choose_75 : decode cX10_choose 75 = .ok (.iload 4, 2) := by decide +kernel
theorem dX10_choose_77 : decode cX10_choose 77 = .ok (.iaload, 1) := by decide +kernel
theorem dX10_choose_78 : decode cX10_choose 78 = .ok (.iload_n 1, 1) := by decide +kernel
theorem dX10_choose_79 : decode cX10_choose 79 = .ok (.invokevirtual 366, 3) := by decide +kernel
theorem dX10_choose_82 : decode cX10_choose 82 = .ok (.goto 4, 3) := by decide +kernel
theorem dX10_choose_85 : decode cX10_choose 85 = .ok (.lconst 0, 1) := by decide +kernel
theorem dX10_choose_86 : decode cX10_choose 86 = .ok (.lastore, 1) := by decide +kernel
theorem dX10_choose_87 : decode cX10_choose 87 = .ok (.iinc 4 1, 3) := by decide +kernel
theorem dX10_choose_90 : decode cX10_choose 90 = .ok (.goto (-68), 3) := by decide +kernel
theorem dX10_choose_93 : decode cX10_choose 93 = .ok (.iconst 0, 1) := by decide +kernel
theorem dX10_choose_94 : decode cX10_choose 94 = .ok (.istore 4, 2) := by decide +kernel
theorem dX10_choose_96 : decode cX10_choose 96 = .ok (.iload 4, 2) := by decide +kernel
theorem dX10_choose_98 : decode cX10_choose 98 = .ok (.aload_n 0, 1) := by decide +kernel
theorem dX10_choose_99 : decode cX10_choose 99 = .ok (.getfield 56, 3) := by decide +kernel
theorem dX10_choose_102 : decode cX10_choose 102 = .ok (.iload_n 2, 1) := by decide +kernel
theorem dX10_choose_103 : decode cX10_choose 103 = .ok (.iaload, 1) := by decide +kernel
theorem dX10_choose_104 : decode cX10_choose 104 = .ok (.if_icmp .ge 148, 3) := by decide +kernel
theorem dX10_choose_107 : decode cX10_choose 107 = .ok (.iconst 0, 1) := by decide +kernel
theorem dX10_choose_108 : decode cX10_choose 108 = .ok (.istore 5, 2) := by decide +kernel
theorem dX10_choose_110 : decode cX10_choose 110 = .ok (.iload 5, 2) := by decide +kernel
theorem dX10_choose_112 : decode cX10_choose 112 = .ok (.aload_n 0, 1) := by decide +kernel
theorem dX10_choose_113 : decode cX10_choose 113 = .ok (.getfield 198, 3) := by decide +kernel
theorem dX10_choose_116 : decode cX10_choose 116 = .ok (.if_icmp .ge 109, 3) := by decide +kernel
theorem dX10_choose_119 : decode cX10_choose 119 = .ok (.aload_n 0, 1) := by decide +kernel
theorem dX10_choose_120 : decode cX10_choose 120 = .ok (.getfield 62, 3) := by decide +kernel
theorem dX10_choose_123 : decode cX10_choose 123 = .ok (.iload_n 2, 1) := by decide +kernel
theorem dX10_choose_124 : decode cX10_choose 124 = .ok (.iconst 4, 1) := by decide +kernel
theorem dX10_choose_125 : decode cX10_choose 125 = .ok (.imul, 1) := by decide +kernel
theorem dX10_choose_126 : decode cX10_choose 126 = .ok (.iload 4, 2) := by decide +kernel
theorem dX10_choose_128 : decode cX10_choose 128 = .ok (.iadd, 1) := by decide +kernel
theorem dX10_choose_129 : decode cX10_choose 129 = .ok (.bipush 6, 2) := by decide +kernel
theorem dX10_choose_131 : decode cX10_choose 131 = .ok (.imul, 1) := by decide +kernel
theorem dX10_choose_132 : decode cX10_choose 132 = .ok (.iload 5, 2) := by decide +kernel
theorem dX10_choose_134 : decode cX10_choose 134 = .ok (.iadd, 1) := by decide +kernel
theorem dX10_choose_135 : decode cX10_choose 135 = .ok (.iaload, 1) := by decide +kernel
theorem dX10_choose_136 : decode cX10_choose 136 = .ok (.istore 6, 2) := by decide +kernel
theorem dX10_choose_138 : decode cX10_choose 138 = .ok (.iload 6, 2) := by decide +kernel
theorem dX10_choose_140 : decode cX10_choose 140 = .ok (.iconst (-1), 1) := by decide +kernel
theorem dX10_choose_141 : decode cX10_choose 141 = .ok (.if_icmp .ne 19, 3) := by decide +kernel
theorem dX10_choose_144 : decode cX10_choose 144 = .ok (.aload_n 0, 1) := by decide +kernel
theorem dX10_choose_145 : decode cX10_choose 145 = .ok (.getfield 75, 3) := by decide +kernel
theorem dX10_choose_148 : decode cX10_choose 148 = .ok (.bipush 6, 2) := by decide +kernel
theorem dX10_choose_150 : decode cX10_choose 150 = .ok (.iload_n 1, 1) := by decide +kernel
theorem dX10_choose_151 : decode cX10_choose 151 = .ok (.imul, 1) := by decide +kernel
theorem dX10_choose_152 : decode cX10_choose 152 = .ok (.iload 5, 2) := by decide +kernel
theorem dX10_choose_154 : decode cX10_choose 154 = .ok (.iadd, 1) := by decide +kernel
theorem dX10_choose_155 : decode cX10_choose 155 = .ok (.iaload, 1) := by decide +kernel
theorem dX10_choose_156 : decode cX10_choose 156 = .ok (.i2l, 1) := by decide +kernel
theorem dX10_choose_157 : decode cX10_choose 157 = .ok (.goto 10, 3) := by decide +kernel
theorem dX10_choose_160 : decode cX10_choose 160 = .ok (.aload_n 0, 1) := by decide +kernel
theorem dX10_choose_161 : decode cX10_choose 161 = .ok (.iload 6, 2) := by decide +kernel
theorem dX10_choose_163 : decode cX10_choose 163 = .ok (.iload_n 1, 1) := by decide +kernel
theorem dX10_choose_164 : decode cX10_choose 164 = .ok (.invokevirtual 366, 3) := by decide +kernel
theorem dX10_choose_167 : decode cX10_choose 167 = .ok (.lstore 7, 2) := by decide +kernel
theorem dX10_choose_169 : decode cX10_choose 169 = .ok (.lload 7, 2) := by decide +kernel
theorem dX10_choose_171 : decode cX10_choose 171 = .ok (.aload_n 0, 1) := by decide +kernel
theorem dX10_choose_172 : decode cX10_choose 172 = .ok (.getfield 35, 3) := by decide +kernel
theorem dX10_choose_175 : decode cX10_choose 175 = .ok (.iload 5, 2) := by decide +kernel
theorem dX10_choose_177 : decode cX10_choose 177 = .ok (.iaload, 1) := by decide +kernel
theorem dX10_choose_178 : decode cX10_choose 178 = .ok (.i2l, 1) := by decide +kernel
theorem dX10_choose_179 : decode cX10_choose 179 = .ok (.aload_n 0, 1) := by decide +kernel
theorem dX10_choose_180 : decode cX10_choose 180 = .ok (.getfield 38, 3) := by decide +kernel
theorem dX10_choose_183 : decode cX10_choose 183 = .ok (.iload 5, 2) := by decide +kernel
theorem dX10_choose_185 : decode cX10_choose 185 = .ok (.iaload, 1) := by decide +kernel
theorem dX10_choose_186 : decode cX10_choose 186 = .ok (.i2l, 1) := by decide +kernel
theorem dX10_choose_187 : decode cX10_choose 187 = .ok (.invokestatic 154, 3) := by decide +kernel
theorem dX10_choose_190 : decode cX10_choose 190 = .ok (.ifCond .ne 19, 3) := by decide +kernel
theorem dX10_choose_193 : decode cX10_choose 193 = .ok (.new 222, 3) := by decide +kernel
theorem dX10_choose_196 : decode cX10_choose 196 = .ok (.dup, 1) := by decide +kernel
theorem dX10_choose_197 : decode cX10_choose 197 = .ok (.bipush 9, 2) := by decide +kernel
theorem dX10_choose_199 : decode cX10_choose 199 = .ok (.aload_n 0, 1) := by decide +kernel
theorem dX10_choose_200 : decode cX10_choose 200 = .ok (.getfield 50, 3) := by decide +kernel
theorem dX10_choose_203 : decode cX10_choose 203 = .ok (.iload_n 2, 1) := by decide +kernel
theorem dX10_choose_204 : decode cX10_choose 204 = .ok (.iaload, 1) := by decide +kernel
theorem dX10_choose_205 : decode cX10_choose 205 = .ok (.invokespecial 224, 3) := by decide +kernel
theorem dX10_choose_208 : decode cX10_choose 208 = .ok (.athrow, 1) := by decide +kernel
theorem dX10_choose_209 : decode cX10_choose 209 = .ok (.aload_n 0, 1) := by decide +kernel
theorem dX10_choose_210 : decode cX10_choose 210 = .ok (.getfield 97, 3) := by decide +kernel
theorem dX10_choose_213 : decode cX10_choose 213 = .ok (.iload 5, 2) := by decide +kernel
theorem dX10_choose_215 : decode cX10_choose 215 = .ok (.lload 7, 2) := by decide +kernel
theorem dX10_choose_217 : decode cX10_choose 217 = .ok (.l2i, 1) := by decide +kernel
theorem dX10_choose_218 : decode cX10_choose 218 = .ok (.iastore, 1) := by decide +kernel
theorem dX10_choose_219 : decode cX10_choose 219 = .ok (.iinc 5 1, 3) := by decide +kernel
theorem dX10_choose_222 : decode cX10_choose 222 = .ok (.goto (-112), 3) := by decide +kernel
theorem dX10_choose_225 : decode cX10_choose 225 = .ok (.aload_n 0, 1) := by decide +kernel
theorem dX10_choose_226 : decode cX10_choose 226 = .ok (.getfield 91, 3) := by decide +kernel
theorem dX10_choose_229 : decode cX10_choose 229 = .ok (.iconst 4, 1) := by decide +kernel
theorem dX10_choose_230 : decode cX10_choose 230 = .ok (.iload_n 3, 1) := by decide +kernel
theorem dX10_choose_231 : decode cX10_choose 231 = .ok (.imul, 1) := by decide +kernel
theorem dX10_choose_232 : decode cX10_choose 232 = .ok (.iload 4, 2) := by decide +kernel
theorem dX10_choose_234 : decode cX10_choose 234 = .ok (.iadd, 1) := by decide +kernel
theorem dX10_choose_235 : decode cX10_choose 235 = .ok (.aload_n 0, 1) := by decide +kernel
theorem dX10_choose_236 : decode cX10_choose 236 = .ok (.aload_n 0, 1) := by decide +kernel
theorem dX10_choose_237 : decode cX10_choose 237 = .ok (.getfield 50, 3) := by decide +kernel
theorem dX10_choose_240 : decode cX10_choose 240 = .ok (.iload_n 2, 1) := by decide +kernel
theorem dX10_choose_241 : decode cX10_choose 241 = .ok (.iaload, 1) := by decide +kernel
theorem dX10_choose_242 : decode cX10_choose 242 = .ok (.invokevirtual 389, 3) := by decide +kernel
theorem dX10_choose_245 : decode cX10_choose 245 = .ok (.iastore, 1) := by decide +kernel
theorem dX10_choose_246 : decode cX10_choose 246 = .ok (.iinc 4 1, 3) := by decide +kernel
theorem dX10_choose_249 : decode cX10_choose 249 = .ok (.goto (-153), 3) := by decide +kernel
theorem dX10_choose_252 : decode cX10_choose 252 = .ok (.aload_n 0, 1) := by decide +kernel
theorem dX10_choose_253 : decode cX10_choose 253 = .ok (.getfield 82, 3) := by decide +kernel
theorem dX10_choose_256 : decode cX10_choose 256 = .ok (.iload_n 1, 1) := by decide +kernel
theorem dX10_choose_257 : decode cX10_choose 257 = .ok (.dup2, 1) := by decide +kernel
theorem dX10_choose_258 : decode cX10_choose 258 = .ok (.iaload, 1) := by decide +kernel
theorem dX10_choose_259 : decode cX10_choose 259 = .ok (.iconst 1, 1) := by decide +kernel
theorem dX10_choose_260 : decode cX10_choose 260 = .ok (.iadd, 1) := by decide +kernel
theorem dX10_choose_261 : decode cX10_choose 261 = .ok (.iastore, 1) := by decide +kernel
theorem dX10_choose_262 : decode cX10_choose 262 = .ok (.return_, 1) := by decide +kernel
theorem dX10_isChoice_0 : decode cX10_isChoice 0 = .ok (.aload_n 0, 1) := by decide +kernel
theorem dX10_isChoice_1 : decode cX10_isChoice 1 = .ok (.iload_n 1, 1) := by decide +kernel
theorem dX10_isChoice_2 : decode cX10_isChoice 2 = .ok (.invokevirtual 359, 3) := by decide +kernel
theorem dX10_isChoice_5 : decode cX10_isChoice 5 = .ok (.ifCond .eq 25, 3) := by decide +kernel
theorem dX10_isChoice_8 : decode cX10_isChoice 8 = .ok (.iload_n 2, 1) := by decide +kernel
theorem dX10_isChoice_9 : decode cX10_isChoice 9 = .ok (.i2l, 1) := by decide +kernel
theorem dX10_isChoice_10 : decode cX10_isChoice 10 = .ok (.lconst 0, 1) := by decide +kernel
theorem dX10_isChoice_11 : decode cX10_isChoice 11 = .ok (.aload_n 0, 1) := by decide +kernel
theorem dX10_isChoice_12 : decode cX10_isChoice 12 = .ok (.getfield 82, 3) := by decide +kernel
theorem dX10_isChoice_15 : decode cX10_isChoice 15 = .ok (.iload_n 1, 1) := by decide +kernel
theorem dX10_isChoice_16 : decode cX10_isChoice 16 = .ok (.iaload, 1) := by decide +kernel
theorem dX10_isChoice_17 : decode cX10_isChoice 17 = .ok (.iconst 1, 1) := by decide +kernel
theorem dX10_isChoice_18 : decode cX10_isChoice 18 = .ok (.isub, 1) := by decide +kernel
theorem dX10_isChoice_19 : decode cX10_isChoice 19 = .ok (.i2l, 1) := by decide +kernel
theorem dX10_isChoice_20 : decode cX10_isChoice 20 = .ok (.invokestatic 154, 3) := by decide +kernel
theorem dX10_isChoice_23 : decode cX10_isChoice 23 = .ok (.ifCond .eq 7, 3) := by decide +kernel
theorem dX10_isChoice_26 : decode cX10_isChoice 26 = .ok (.iconst 1, 1) := by decide +kernel
theorem dX10_isChoice_27 : decode cX10_isChoice 27 = .ok (.goto 4, 3) := by decide +kernel
theorem dX10_isChoice_30 : decode cX10_isChoice 30 = .ok (.iconst 0, 1) := by decide +kernel
theorem dX10_isChoice_31 : decode cX10_isChoice 31 = .ok (.ireturn, 1) := by decide +kernel
theorem dX10_manyBranches_0 : decode cX10_manyBranches 0 = .ok (.aload_n 0, 1) := by decide +kernel
theorem dX10_manyBranches_1 : decode cX10_manyBranches 1 = .ok (.getfield 56, 3) := by decide +kernel
theorem dX10_manyBranches_4 : decode cX10_manyBranches 4 = .ok (.aload_n 0, 1) := by decide +kernel
theorem dX10_manyBranches_5 : decode cX10_manyBranches 5 = .ok (.getfield 85, 3) := by decide +kernel
theorem dX10_manyBranches_8 : decode cX10_manyBranches 8 = .ok (.iload_n 1, 1) := by decide +kernel
theorem dX10_manyBranches_9 : decode cX10_manyBranches 9 = .ok (.iaload, 1) := by decide +kernel
theorem dX10_manyBranches_10 : decode cX10_manyBranches 10 = .ok (.iaload, 1) := by decide +kernel
theorem dX10_manyBranches_11 : decode cX10_manyBranches 11 = .ok (.ireturn, 1) := by decide +kernel
theorem dX10_chanceOf_0 : decode cX10_chanceOf 0 = .ok (.aload_n 0, 1) := by decide +kernel
theorem dX10_chanceOf_1 : decode cX10_chanceOf 1 = .ok (.getfield 59, 3) := by decide +kernel
theorem dX10_chanceOf_4 : decode cX10_chanceOf 4 = .ok (.aload_n 0, 1) := by decide +kernel
theorem dX10_chanceOf_5 : decode cX10_chanceOf 5 = .ok (.getfield 85, 3) := by decide +kernel
theorem dX10_chanceOf_8 : decode cX10_chanceOf 8 = .ok (.iload_n 1, 1) := by decide +kernel
theorem dX10_chanceOf_9 : decode cX10_chanceOf 9 = .ok (.iaload, 1) := by decide +kernel
theorem dX10_chanceOf_10 : decode cX10_chanceOf 10 = .ok (.iconst 4, 1) := by decide +kernel
theorem dX10_chanceOf_11 : decode cX10_chanceOf 11 = .ok (.imul, 1) := by decide +kernel
theorem dX10_chanceOf_12 : decode cX10_chanceOf 12 = .ok (.iload_n 2, 1) := by decide +kernel
theorem dX10_chanceOf_13 : decode cX10_chanceOf 13 = .ok (.iadd, 1) := by decide +kernel
theorem dX10_chanceOf_14 : decode cX10_chanceOf 14 = .ok (.iaload, 1) := by decide +kernel
theorem dX10_chanceOf_15 : decode cX10_chanceOf 15 = .ok (.ireturn, 1) := by decide +kernel
theorem dX10_value_0 : decode cX10_value 0 = .ok (.aload_n 0, 1) := by decide +kernel
theorem dX10_value_1 : decode cX10_value 1 = .ok (.iconst 0, 1) := by decide +kernel
theorem dX10_value_2 : decode cX10_value 2 = .ok (.putfield 140, 3) := by decide +kernel
theorem dX10_value_5 : decode cX10_value 5 = .ok (.aload_n 0, 1) := by decide +kernel
theorem dX10_value_6 : decode cX10_value 6 = .ok (.iload_n 1, 1) := by decide +kernel
theorem dX10_value_7 : decode cX10_value 7 = .ok (.invokevirtual 359, 3) := by decide +kernel
theorem dX10_value_10 : decode cX10_value 10 = .ok (.ifCond .eq 33, 3) := by decide +kernel
theorem dX10_value_13 : decode cX10_value 13 = .ok (.iload_n 2, 1) := by decide +kernel
theorem dX10_value_14 : decode cX10_value 14 = .ok (.i2l, 1) := by decide +kernel
theorem dX10_value_15 : decode cX10_value 15 = .ok (.lconst 0, 1) := by decide +kernel
theorem dX10_value_16 : decode cX10_value 16 = .ok (.aload_n 0, 1) := by decide +kernel
theorem dX10_value_17 : decode cX10_value 17 = .ok (.getfield 198, 3) := by decide +kernel
theorem dX10_value_20 : decode cX10_value 20 = .ok (.iconst 1, 1) := by decide +kernel
theorem dX10_value_21 : decode cX10_value 21 = .ok (.isub, 1) := by decide +kernel
theorem dX10_value_22 : decode cX10_value 22 = .ok (.i2l, 1) := by decide +kernel
theorem dX10_value_23 : decode cX10_value 23 = .ok (.invokestatic 154, 3) := by decide +kernel
theorem dX10_value_26 : decode cX10_value 26 = .ok (.ifCond .eq 17, 3) := by decide +kernel
theorem dX10_value_29 : decode cX10_value 29 = .ok (.aload_n 0, 1) := by decide +kernel
theorem dX10_value_30 : decode cX10_value 30 = .ok (.getfield 75, 3) := by decide +kernel
theorem dX10_value_33 : decode cX10_value 33 = .ok (.bipush 6, 2) := by decide +kernel
theorem dX10_value_35 : decode cX10_value 35 = .ok (.iload_n 1, 1) := by decide +kernel
theorem dX10_value_36 : decode cX10_value 36 = .ok (.imul, 1) := by decide +kernel
theorem dX10_value_37 : decode cX10_value 37 = .ok (.iload_n 2, 1) := by decide +kernel
theorem dX10_value_38 : decode cX10_value 38 = .ok (.iadd, 1) := by decide +kernel
theorem dX10_value_39 : decode cX10_value 39 = .ok (.iaload, 1) := by decide +kernel
theorem dX10_value_40 : decode cX10_value 40 = .ok (.goto 8, 3) := by decide +kernel
theorem dX10_value_43 : decode cX10_value 43 = .ok (.aload_n 0, 1) := by decide +kernel
theorem dX10_value_44 : decode cX10_value 44 = .ok (.iconst 1, 1) := by decide +kernel
theorem dX10_value_45 : decode cX10_value 45 = .ok (.invokevirtual 146, 3) := by decide +kernel
theorem dX10_value_48 : decode cX10_value 48 = .ok (.ireturn, 1) := by decide +kernel
theorem dX10_choicesTold_0 : decode cX10_choicesTold 0 = .ok (.aload_n 0, 1) := by decide +kernel
theorem dX10_choicesTold_1 : decode cX10_choicesTold 1 = .ok (.getfield 78, 3) := by decide +kernel
theorem dX10_choicesTold_4 : decode cX10_choicesTold 4 = .ok (.iload_n 1, 1) := by decide +kernel
theorem dX10_choicesTold_5 : decode cX10_choicesTold 5 = .ok (.baload, 1) := by decide +kernel
theorem dX10_choicesTold_6 : decode cX10_choicesTold 6 = .ok (.ifCond .eq 7, 3) := by decide +kernel
theorem dX10_choicesTold_9 : decode cX10_choicesTold 9 = .ok (.iconst (-1), 1) := by decide +kernel
theorem dX10_choicesTold_10 : decode cX10_choicesTold 10 = .ok (.goto 9, 3) := by decide +kernel
theorem dX10_choicesTold_13 : decode cX10_choicesTold 13 = .ok (.aload_n 0, 1) := by decide +kernel
theorem dX10_choicesTold_14 : decode cX10_choicesTold 14 = .ok (.getfield 82, 3) := by decide +kernel
theorem dX10_choicesTold_17 : decode cX10_choicesTold 17 = .ok (.iload_n 1, 1) := by decide +kernel
theorem dX10_choicesTold_18 : decode cX10_choicesTold 18 = .ok (.iaload, 1) := by decide +kernel
theorem dX10_choicesTold_19 : decode cX10_choicesTold 19 = .ok (.ireturn, 1) := by decide +kernel
theorem dX10_choices_0 : decode cX10_choices 0 = .ok (.aload_n 0, 1) := by decide +kernel
theorem dX10_choices_1 : decode cX10_choices 1 = .ok (.iconst 0, 1) := by decide +kernel
theorem dX10_choices_2 : decode cX10_choices 2 = .ok (.putfield 140, 3) := by decide +kernel
theorem dX10_choices_5 : decode cX10_choices 5 = .ok (.aload_n 0, 1) := by decide +kernel
theorem dX10_choices_6 : decode cX10_choices 6 = .ok (.iload_n 1, 1) := by decide +kernel
theorem dX10_choices_7 : decode cX10_choices 7 = .ok (.invokevirtual 359, 3) := by decide +kernel
theorem dX10_choices_10 : decode cX10_choices 10 = .ok (.ifCond .eq 11, 3) := by decide +kernel
theorem dX10_choices_13 : decode cX10_choices 13 = .ok (.aload_n 0, 1) := by decide +kernel
theorem dX10_choices_14 : decode cX10_choices 14 = .ok (.iload_n 1, 1) := by decide +kernel
theorem dX10_choices_15 : decode cX10_choices 15 = .ok (.invokevirtual 395, 3) := by decide +kernel
theorem dX10_choices_18 : decode cX10_choices 18 = .ok (.goto 8, 3) := by decide +kernel
theorem dX10_choices_21 : decode cX10_choices 21 = .ok (.aload_n 0, 1) := by decide +kernel
theorem dX10_choices_22 : decode cX10_choices 22 = .ok (.iconst 1, 1) := by decide +kernel
theorem dX10_choices_23 : decode cX10_choices 23 = .ok (.invokevirtual 146, 3) := by decide +kernel
theorem dX10_choices_26 : decode cX10_choices 26 = .ok (.ireturn, 1) := by decide +kernel
theorem dX10_choice_0 : decode cX10_choice 0 = .ok (.aload_n 0, 1) := by decide +kernel
theorem dX10_choice_1 : decode cX10_choice 1 = .ok (.iconst 0, 1) := by decide +kernel
theorem dX10_choice_2 : decode cX10_choice 2 = .ok (.putfield 140, 3) := by decide +kernel
theorem dX10_choice_5 : decode cX10_choice 5 = .ok (.aload_n 0, 1) := by decide +kernel
theorem dX10_choice_6 : decode cX10_choice 6 = .ok (.iload_n 1, 1) := by decide +kernel
theorem dX10_choice_7 : decode cX10_choice 7 = .ok (.iload_n 2, 1) := by decide +kernel
theorem dX10_choice_8 : decode cX10_choice 8 = .ok (.invokevirtual 398, 3) := by decide +kernel
theorem dX10_choice_11 : decode cX10_choice 11 = .ok (.ifCond .eq 13, 3) := by decide +kernel
theorem dX10_choice_14 : decode cX10_choice 14 = .ok (.iload_n 3, 1) := by decide +kernel
theorem dX10_choice_15 : decode cX10_choice 15 = .ok (.i2l, 1) := by decide +kernel
theorem dX10_choice_16 : decode cX10_choice 16 = .ok (.lconst 0, 1) := by decide +kernel
theorem dX10_choice_17 : decode cX10_choice 17 = .ok (.lconst 1, 1) := by decide +kernel
theorem dX10_choice_18 : decode cX10_choice 18 = .ok (.invokestatic 154, 3) := by decide +kernel
theorem dX10_choice_21 : decode cX10_choice 21 = .ok (.ifCond .ne 9, 3) := by decide +kernel
theorem dX10_choice_24 : decode cX10_choice 24 = .ok (.aload_n 0, 1) := by decide +kernel
theorem dX10_choice_25 : decode cX10_choice 25 = .ok (.iconst 1, 1) := by decide +kernel
theorem dX10_choice_26 : decode cX10_choice 26 = .ok (.invokevirtual 146, 3) := by decide +kernel
theorem dX10_choice_29 : decode cX10_choice 29 = .ok (.ireturn, 1) := by decide +kernel
theorem dX10_choice_30 : decode cX10_choice 30 = .ok (.bipush 16, 2) := by decide +kernel
theorem dX10_choice_32 : decode cX10_choice 32 = .ok (.iload_n 1, 1) := by decide +kernel
theorem dX10_choice_33 : decode cX10_choice 33 = .ok (.imul, 1) := by decide +kernel
theorem dX10_choice_34 : decode cX10_choice 34 = .ok (.iload_n 2, 1) := by decide +kernel
theorem dX10_choice_35 : decode cX10_choice 35 = .ok (.iadd, 1) := by decide +kernel
theorem dX10_choice_36 : decode cX10_choice 36 = .ok (.istore 4, 2) := by decide +kernel
theorem dX10_choice_38 : decode cX10_choice 38 = .ok (.iload_n 3, 1) := by decide +kernel
theorem dX10_choice_39 : decode cX10_choice 39 = .ok (.ifCond .ne 13, 3) := by decide +kernel
theorem dX10_choice_42 : decode cX10_choice 42 = .ok (.aload_n 0, 1) := by decide +kernel
theorem dX10_choice_43 : decode cX10_choice 43 = .ok (.getfield 85, 3) := by decide +kernel
theorem dX10_choice_46 : decode cX10_choice 46 = .ok (.iload 4, 2) := by decide +kernel
theorem dX10_choice_48 : decode cX10_choice 48 = .ok (.iaload, 1) := by decide +kernel
theorem dX10_choice_49 : decode cX10_choice 49 = .ok (.goto 9, 3) := by decide +kernel
theorem dX10_choice_52 : decode cX10_choice 52 = .ok (.aload_n 0, 1) := by decide +kernel
theorem dX10_choice_53 : decode cX10_choice 53 = .ok (.iload 4, 2) := by decide +kernel
theorem dX10_choice_55 : decode cX10_choice 55 = .ok (.invokevirtual 402, 3) := by decide +kernel
theorem dX10_choice_58 : decode cX10_choice 58 = .ok (.ireturn, 1) := by decide +kernel
theorem dX10_gain__0 : decode cX10_gain_ 0 = .ok (.aload_n 0, 1) := by decide +kernel
theorem dX10_gain__1 : decode cX10_gain_ 1 = .ok (.aload_n 0, 1) := by decide +kernel
theorem dX10_gain__2 : decode cX10_gain_ 2 = .ok (.iload_n 1, 1) := by decide +kernel
theorem dX10_gain__3 : decode cX10_gain_ 3 = .ok (.iload_n 2, 1) := by decide +kernel
theorem dX10_gain__4 : decode cX10_gain_ 4 = .ok (.invokevirtual 398, 3) := by decide +kernel
theorem dX10_gain__7 : decode cX10_gain_ 7 = .ok (.ifCond .eq 23, 3) := by decide +kernel
theorem dX10_gain__10 : decode cX10_gain_ 10 = .ok (.iload_n 3, 1) := by decide +kernel
theorem dX10_gain__11 : decode cX10_gain_ 11 = .ok (.i2l, 1) := by decide +kernel
theorem dX10_gain__12 : decode cX10_gain_ 12 = .ok (.lconst 0, 1) := by decide +kernel
theorem dX10_gain__13 : decode cX10_gain_ 13 = .ok (.aload_n 0, 1) := by decide +kernel
theorem dX10_gain__14 : decode cX10_gain_ 14 = .ok (.getfield 201, 3) := by decide +kernel
theorem dX10_gain__17 : decode cX10_gain_ 17 = .ok (.iconst 1, 1) := by decide +kernel
theorem dX10_gain__18 : decode cX10_gain_ 18 = .ok (.isub, 1) := by decide +kernel
theorem dX10_gain__19 : decode cX10_gain_ 19 = .ok (.i2l, 1) := by decide +kernel
theorem dX10_gain__20 : decode cX10_gain_ 20 = .ok (.invokestatic 154, 3) := by decide +kernel
theorem dX10_gain__23 : decode cX10_gain_ 23 = .ok (.ifCond .eq 7, 3) := by decide +kernel
theorem dX10_gain__26 : decode cX10_gain_ 26 = .ok (.iconst 0, 1) := by decide +kernel
theorem dX10_gain__27 : decode cX10_gain_ 27 = .ok (.goto 4, 3) := by decide +kernel
theorem dX10_gain__30 : decode cX10_gain_ 30 = .ok (.iconst 1, 1) := by decide +kernel
theorem dX10_gain__31 : decode cX10_gain_ 31 = .ok (.putfield 140, 3) := by decide +kernel
theorem dX10_gain__34 : decode cX10_gain_ 34 = .ok (.aload_n 0, 1) := by decide +kernel
theorem dX10_gain__35 : decode cX10_gain_ 35 = .ok (.getfield 140, 3) := by decide +kernel
theorem dX10_gain__38 : decode cX10_gain_ 38 = .ok (.ifCond .ne 21, 3) := by decide +kernel
theorem dX10_gain__41 : decode cX10_gain_ 41 = .ok (.aload_n 0, 1) := by decide +kernel
theorem dX10_gain__42 : decode cX10_gain_ 42 = .ok (.getfield 88, 3) := by decide +kernel
theorem dX10_gain__45 : decode cX10_gain_ 45 = .ok (.iconst 3, 1) := by decide +kernel
theorem dX10_gain__46 : decode cX10_gain_ 46 = .ok (.bipush 16, 2) := by decide +kernel
theorem dX10_gain__48 : decode cX10_gain_ 48 = .ok (.iload_n 1, 1) := by decide +kernel
theorem dX10_gain__49 : decode cX10_gain_ 49 = .ok (.imul, 1) := by decide +kernel
theorem dX10_gain__50 : decode cX10_gain_ 50 = .ok (.iload_n 2, 1) := by decide +kernel
theorem dX10_gain__51 : decode cX10_gain_ 51 = .ok (.iadd, 1) := by decide +kernel
theorem dX10_gain__52 : decode cX10_gain_ 52 = .ok (.imul, 1) := by decide +kernel
theorem dX10_gain__53 : decode cX10_gain_ 53 = .ok (.iload_n 3, 1) := by decide +kernel
theorem dX10_gain__54 : decode cX10_gain_ 54 = .ok (.iadd, 1) := by decide +kernel
theorem dX10_gain__55 : decode cX10_gain_ 55 = .ok (.laload, 1) := by decide +kernel
theorem dX10_gain__56 : decode cX10_gain_ 56 = .ok (.goto 4, 3) := by decide +kernel
theorem dX10_gain__59 : decode cX10_gain_ 59 = .ok (.lconst 0, 1) := by decide +kernel
theorem dX10_gain__60 : decode cX10_gain_ 60 = .ok (.lreturn, 1) := by decide +kernel
theorem dX10_branch__0 : decode cX10_branch_ 0 = .ok (.aload_n 0, 1) := by decide +kernel
theorem dX10_branch__1 : decode cX10_branch_ 1 = .ok (.iconst 0, 1) := by decide +kernel
theorem dX10_branch__2 : decode cX10_branch_ 2 = .ok (.putfield 140, 3) := by decide +kernel
theorem dX10_branch__5 : decode cX10_branch_ 5 = .ok (.aload_n 0, 1) := by decide +kernel
theorem dX10_branch__6 : decode cX10_branch_ 6 = .ok (.iload_n 1, 1) := by decide +kernel
theorem dX10_branch__7 : decode cX10_branch_ 7 = .ok (.iload_n 2, 1) := by decide +kernel
theorem dX10_branch__8 : decode cX10_branch_ 8 = .ok (.invokevirtual 398, 3) := by decide +kernel
theorem dX10_branch__11 : decode cX10_branch_ 11 = .ok (.ifCond .ne 9, 3) := by decide +kernel
theorem dX10_branch__14 : decode cX10_branch_ 14 = .ok (.aload_n 0, 1) := by decide +kernel
theorem dX10_branch__15 : decode cX10_branch_ 15 = .ok (.iconst 1, 1) := by decide +kernel
theorem dX10_branch__16 : decode cX10_branch_ 16 = .ok (.invokevirtual 146, 3) := by decide +kernel
theorem dX10_branch__19 : decode cX10_branch_ 19 = .ok (.ireturn, 1) := by decide +kernel
theorem dX10_branch__20 : decode cX10_branch_ 20 = .ok (.bipush 16, 2) := by decide +kernel
theorem dX10_branch__22 : decode cX10_branch_ 22 = .ok (.iload_n 1, 1) := by decide +kernel
theorem dX10_branch__23 : decode cX10_branch_ 23 = .ok (.imul, 1) := by decide +kernel
theorem dX10_branch__24 : decode cX10_branch_ 24 = .ok (.iload_n 2, 1) := by decide +kernel
theorem dX10_branch__25 : decode cX10_branch_ 25 = .ok (.iadd, 1) := by decide +kernel
theorem dX10_branch__26 : decode cX10_branch_ 26 = .ok (.istore 5, 2) := by decide +kernel
theorem dX10_branch__28 : decode cX10_branch_ 28 = .ok (.iload_n 3, 1) := by decide +kernel
theorem dX10_branch__29 : decode cX10_branch_ 29 = .ok (.i2l, 1) := by decide +kernel
theorem dX10_branch__30 : decode cX10_branch_ 30 = .ok (.lconst 0, 1) := by decide +kernel
theorem dX10_branch__31 : decode cX10_branch_ 31 = .ok (.aload_n 0, 1) := by decide +kernel
theorem dX10_branch__32 : decode cX10_branch_ 32 = .ok (.iload 5, 2) := by decide +kernel
theorem dX10_branch__34 : decode cX10_branch_ 34 = .ok (.invokevirtual 402, 3) := by decide +kernel
theorem dX10_branch__37 : decode cX10_branch_ 37 = .ok (.iconst 1, 1) := by decide +kernel
theorem dX10_branch__38 : decode cX10_branch_ 38 = .ok (.isub, 1) := by decide +kernel
theorem dX10_branch__39 : decode cX10_branch_ 39 = .ok (.i2l, 1) := by decide +kernel
theorem dX10_branch__40 : decode cX10_branch_ 40 = .ok (.invokestatic 154, 3) := by decide +kernel
theorem dX10_branch__43 : decode cX10_branch_ 43 = .ok (.ifCond .ne 9, 3) := by decide +kernel
theorem dX10_branch__46 : decode cX10_branch_ 46 = .ok (.aload_n 0, 1) := by decide +kernel
theorem dX10_branch__47 : decode cX10_branch_ 47 = .ok (.iconst 1, 1) := by decide +kernel
theorem dX10_branch__48 : decode cX10_branch_ 48 = .ok (.invokevirtual 146, 3) := by decide +kernel
theorem dX10_branch__51 : decode cX10_branch_ 51 = .ok (.ireturn, 1) := by decide +kernel
theorem dX10_branch__52 : decode cX10_branch_ 52 = .ok (.iload 4, 2) := by decide +kernel
theorem dX10_branch__54 : decode cX10_branch_ 54 = .ok (.ifCond .eq 13, 3) := by decide +kernel
theorem dX10_branch__57 : decode cX10_branch_ 57 = .ok (.aload_n 0, 1) := by decide +kernel
theorem dX10_branch__58 : decode cX10_branch_ 58 = .ok (.iload 5, 2) := by decide +kernel
theorem dX10_branch__60 : decode cX10_branch_ 60 = .ok (.iload_n 3, 1) := by decide +kernel
theorem dX10_branch__61 : decode cX10_branch_ 61 = .ok (.invokevirtual 405, 3) := by decide +kernel
theorem dX10_branch__64 : decode cX10_branch_ 64 = .ok (.goto 14, 3) := by decide +kernel
theorem dX10_branch__67 : decode cX10_branch_ 67 = .ok (.aload_n 0, 1) := by decide +kernel
theorem dX10_branch__68 : decode cX10_branch_ 68 = .ok (.getfield 91, 3) := by decide +kernel
theorem dX10_branch__71 : decode cX10_branch_ 71 = .ok (.iconst 4, 1) := by decide +kernel
theorem dX10_branch__72 : decode cX10_branch_ 72 = .ok (.iload 5, 2) := by decide +kernel
theorem dX10_branch__74 : decode cX10_branch_ 74 = .ok (.imul, 1) := by decide +kernel
theorem dX10_branch__75 : decode cX10_branch_ 75 = .ok (.iload_n 3, 1) := by decide +kernel
theorem dX10_branch__76 : decode cX10_branch_ 76 = .ok (.iadd, 1) := by decide +kernel
theorem dX10_branch__77 : decode cX10_branch_ 77 = .ok (.iaload, 1) := by decide +kernel
theorem dX10_branch__78 : decode cX10_branch_ 78 = .ok (.ireturn, 1) := by decide +kernel
theorem dX10_isStrategy_0 : decode cX10_isStrategy 0 = .ok (.iload_n 1, 1) := by decide +kernel
theorem dX10_isStrategy_1 : decode cX10_isStrategy 1 = .ok (.i2l, 1) := by decide +kernel
theorem dX10_isStrategy_2 : decode cX10_isStrategy 2 = .ok (.lconst 0, 1) := by decide +kernel
theorem dX10_isStrategy_3 : decode cX10_isStrategy 3 = .ok (.aload_n 0, 1) := by decide +kernel
theorem dX10_isStrategy_4 : decode cX10_isStrategy 4 = .ok (.getfield 216, 3) := by decide +kernel
theorem dX10_isStrategy_7 : decode cX10_isStrategy 7 = .ok (.iconst 1, 1) := by decide +kernel
theorem dX10_isStrategy_8 : decode cX10_isStrategy 8 = .ok (.isub, 1) := by decide +kernel
theorem dX10_isStrategy_9 : decode cX10_isStrategy 9 = .ok (.i2l, 1) := by decide +kernel
theorem dX10_isStrategy_10 : decode cX10_isStrategy 10 = .ok (.invokestatic 154, 3) := by decide +kernel
theorem dX10_isStrategy_13 : decode cX10_isStrategy 13 = .ok (.ireturn, 1) := by decide +kernel
theorem dX10_isGain_0 : decode cX10_isGain 0 = .ok (.iload_n 1, 1) := by decide +kernel
theorem dX10_isGain_1 : decode cX10_isGain 1 = .ok (.i2l, 1) := by decide +kernel
theorem dX10_isGain_2 : decode cX10_isGain 2 = .ok (.lconst 0, 1) := by decide +kernel
theorem dX10_isGain_3 : decode cX10_isGain 3 = .ok (.aload_n 0, 1) := by decide +kernel
theorem dX10_isGain_4 : decode cX10_isGain 4 = .ok (.getfield 201, 3) := by decide +kernel
theorem dX10_isGain_7 : decode cX10_isGain 7 = .ok (.iconst 1, 1) := by decide +kernel
theorem dX10_isGain_8 : decode cX10_isGain 8 = .ok (.isub, 1) := by decide +kernel
theorem dX10_isGain_9 : decode cX10_isGain 9 = .ok (.i2l, 1) := by decide +kernel
theorem dX10_isGain_10 : decode cX10_isGain 10 = .ok (.invokestatic 154, 3) := by decide +kernel
theorem dX10_isGain_13 : decode cX10_isGain 13 = .ok (.ireturn, 1) := by decide +kernel
theorem dX10_expected_0 : decode cX10_expected 0 = .ok (.lconst 0, 1) := by decide +kernel
theorem dX10_expected_1 : decode cX10_expected 1 = .ok (.lstore 4, 2) := by decide +kernel
theorem dX10_expected_3 : decode cX10_expected 3 = .ok (.iconst 0, 1) := by decide +kernel
theorem dX10_expected_4 : decode cX10_expected 4 = .ok (.istore 6, 2) := by decide +kernel
theorem dX10_expected_6 : decode cX10_expected 6 = .ok (.iload 6, 2) := by decide +kernel
theorem dX10_expected_8 : decode cX10_expected 8 = .ok (.aload_n 0, 1) := by decide +kernel
theorem dX10_expected_9 : decode cX10_expected 9 = .ok (.iload_n 1, 1) := by decide +kernel
theorem dX10_expected_10 : decode cX10_expected 10 = .ok (.invokevirtual 402, 3) := by decide +kernel
theorem dX10_expected_13 : decode cX10_expected 13 = .ok (.if_icmp .ge 38, 3) := by decide +kernel
theorem dX10_expected_16 : decode cX10_expected 16 = .ok (.lload 4, 2) := by decide +kernel
theorem dX10_expected_18 : decode cX10_expected 18 = .ok (.aload_n 0, 1) := by decide +kernel
theorem dX10_expected_19 : decode cX10_expected 19 = .ok (.iload_n 1, 1) := by decide +kernel
theorem dX10_expected_20 : decode cX10_expected 20 = .ok (.iload 6, 2) := by decide +kernel
theorem dX10_expected_22 : decode cX10_expected 22 = .ok (.invokevirtual 405, 3) := by decide +kernel
theorem dX10_expected_25 : decode cX10_expected 25 = .ok (.i2l, 1) := by decide +kernel
theorem dX10_expected_26 : decode cX10_expected 26 = .ok (.aload_n 2, 1) := by decide +kernel
theorem dX10_expected_27 : decode cX10_expected 27 = .ok (.iload_n 3, 1) := by decide +kernel
theorem dX10_expected_28 : decode cX10_expected 28 = .ok (.aload_n 0, 1) := by decide +kernel
theorem dX10_expected_29 : decode cX10_expected 29 = .ok (.getfield 91, 3) := by decide +kernel
theorem dX10_expected_32 : decode cX10_expected 32 = .ok (.iconst 4, 1) := by decide +kernel
theorem dX10_expected_33 : decode cX10_expected 33 = .ok (.iload_n 1, 1) := by decide +kernel
theorem dX10_expected_34 : decode cX10_expected 34 = .ok (.imul, 1) := by decide +kernel
theorem dX10_expected_35 : decode cX10_expected 35 = .ok (.iload 6, 2) := by decide +kernel
theorem dX10_expected_37 : decode cX10_expected 37 = .ok (.iadd, 1) := by decide +kernel
theorem dX10_expected_38 : decode cX10_expected 38 = .ok (.iaload, 1) := by decide +kernel
theorem dX10_expected_39 : decode cX10_expected 39 = .ok (.iadd, 1) := by decide +kernel
theorem dX10_expected_40 : decode cX10_expected 40 = .ok (.laload, 1) := by decide +kernel
theorem dX10_expected_41 : decode cX10_expected 41 = .ok (.lmul, 1) := by decide +kernel
theorem dX10_expected_42 : decode cX10_expected 42 = .ok (.ladd, 1) := by decide +kernel
theorem dX10_expected_43 : decode cX10_expected 43 = .ok (.lstore 4, 2) := by decide +kernel
theorem dX10_expected_45 : decode cX10_expected 45 = .ok (.iinc 6 1, 3) := by decide +kernel
theorem dX10_expected_48 : decode cX10_expected 48 = .ok (.goto (-42), 3) := by decide +kernel
theorem dX10_expected_51 : decode cX10_expected 51 = .ok (.lload 4, 2) := by decide +kernel
theorem dX10_expected_53 : decode cX10_expected 53 = .ok (.ldc2_w 328, 3) := by decide +kernel
theorem dX10_expected_56 : decode cX10_expected 56 = .ok (.ldiv, 1) := by decide +kernel
theorem dX10_expected_57 : decode cX10_expected 57 = .ok (.lreturn, 1) := by decide +kernel
theorem dX10_make_0 : decode cX10_make 0 = .ok (.aload_n 0, 1) := by decide +kernel
theorem dX10_make_1 : decode cX10_make 1 = .ok (.getfield 103, 3) := by decide +kernel
theorem dX10_make_4 : decode cX10_make 4 = .ok (.iload_n 1, 1) := by decide +kernel
theorem dX10_make_5 : decode cX10_make 5 = .ok (.iload_n 3, 1) := by decide +kernel
theorem dX10_make_6 : decode cX10_make 6 = .ok (.iastore, 1) := by decide +kernel
theorem dX10_make_7 : decode cX10_make 7 = .ok (.iconst 0, 1) := by decide +kernel
theorem dX10_make_8 : decode cX10_make 8 = .ok (.istore 4, 2) := by decide +kernel
theorem dX10_make_10 : decode cX10_make 10 = .ok (.iload 4, 2) := by decide +kernel
theorem dX10_make_12 : decode cX10_make 12 = .ok (.aload_n 0, 1) := by decide +kernel
theorem dX10_make_13 : decode cX10_make 13 = .ok (.getfield 213, 3) := by decide +kernel
theorem dX10_make_16 : decode cX10_make 16 = .ok (.if_icmp .ge 23, 3) := by decide +kernel
theorem dX10_make_19 : decode cX10_make 19 = .ok (.aload_n 0, 1) := by decide +kernel
theorem dX10_make_20 : decode cX10_make 20 = .ok (.getfield 110, 3) := by decide +kernel
theorem dX10_make_23 : decode cX10_make 23 = .ok (.sipush 3100, 3) := by decide +kernel
theorem dX10_make_26 : decode cX10_make 26 = .ok (.iload_n 1, 1) := by decide +kernel
theorem dX10_make_27 : decode cX10_make 27 = .ok (.imul, 1) := by decide +kernel
theorem dX10_make_28 : decode cX10_make 28 = .ok (.iload 4, 2) := by decide +kernel
theorem dX10_make_30 : decode cX10_make 30 = .ok (.iadd, 1) := by decide +kernel
theorem dX10_make_31 : decode cX10_make 31 = .ok (.lconst 0, 1) := by decide +kernel
theorem dX10_make_32 : decode cX10_make 32 = .ok (.lastore, 1) := by decide +kernel
theorem dX10_make_33 : decode cX10_make 33 = .ok (.iinc 4 1, 3) := by decide +kernel
theorem dX10_make_36 : decode cX10_make 36 = .ok (.goto (-26), 3) := by decide +kernel
theorem dX10_make_39 : decode cX10_make 39 = .ok (.iconst 1, 1) := by decide +kernel
theorem dX10_make_40 : decode cX10_make 40 = .ok (.istore 4, 2) := by decide +kernel
theorem dX10_make_42 : decode cX10_make 42 = .ok (.iload 4, 2) := by decide +kernel
theorem dX10_make_44 : decode cX10_make 44 = .ok (.iload_n 3, 1) := by decide +kernel
theorem dX10_make_45 : decode cX10_make 45 = .ok (.if_icmp .gt 218, 3) := by decide +kernel
theorem dX10_make_48 : decode cX10_make 48 = .ok (.sipush 3100, 3) := by decide +kernel
theorem dX10_make_51 : decode cX10_make 51 = .ok (.iload_n 1, 1) := by decide +kernel
theorem dX10_make_52 : decode cX10_make 52 = .ok (.imul, 1) := by decide +kernel
theorem dX10_make_53 : decode cX10_make 53 = .ok (.bipush 100, 2) := by decide +kernel
theorem dX10_make_55 : decode cX10_make 55 = .ok (.iload 4, 2) := by decide +kernel
theorem dX10_make_57 : decode cX10_make 57 = .ok (.imul, 1) := by decide +kernel
theorem dX10_make_58 : decode cX10_make 58 = .ok (.iadd, 1) := by decide +kernel
theorem dX10_make_59 : decode cX10_make 59 = .ok (.istore 5, 2) := by decide +kernel
theorem dX10_make_61 : decode cX10_make 61 = .ok (.iconst 0, 1) := by decide +kernel
theorem dX10_make_62 : decode cX10_make 62 = .ok (.istore 6, 2) := by decide +kernel
theorem dX10_make_64 : decode cX10_make 64 = .ok (.iload 6, 2) := by decide +kernel
theorem dX10_make_66 : decode cX10_make 66 = .ok (.aload_n 0, 1) := by decide +kernel
theorem dX10_make_67 : decode cX10_make 67 = .ok (.getfield 213, 3) := by decide +kernel
theorem dX10_make_70 : decode cX10_make 70 = .ok (.if_icmp .ge 187, 3) := by decide +kernel
theorem dX10_make_73 : decode cX10_make 73 = .ok (.aload_n 0, 1) := by decide +kernel
theorem dX10_make_74 : decode cX10_make 74 = .ok (.getfield 107, 3) := by decide +kernel
theorem dX10_make_77 : decode cX10_make 77 = .ok (.iload 5, 2) := by decide +kernel
theorem dX10_make_79 : decode cX10_make 79 = .ok (.iload 6, 2) := by decide +kernel
theorem dX10_make_81 : decode cX10_make 81 = .ok (.iadd, 1) := by decide +kernel
theorem dX10_make_82 : decode cX10_make 82 = .ok (.iconst (-1), 1) := by decide +kernel
theorem dX10_make_83 : decode cX10_make 83 = .ok (.iastore, 1) := by decide +kernel
theorem dX10_make_84 : decode cX10_make 84 = .ok (.aload_n 0, 1) := by decide +kernel
theorem dX10_make_85 : decode cX10_make 85 = .ok (.getfield 110, 3) := by decide +kernel
theorem dX10_make_88 : decode cX10_make 88 = .ok (.iload 5, 2) := by decide +kernel
theorem dX10_make_90 : decode cX10_make 90 = .ok (.iload 6, 2) := by decide +kernel
theorem dX10_make_92 : decode cX10_make 92 = .ok (.iadd, 1) := by decide +kernel
theorem dX10_make_93 : decode cX10_make 93 = .ok (.lconst 0, 1) := by decide +kernel
theorem dX10_make_94 : decode cX10_make 94 = .ok (.lastore, 1) := by decide +kernel
theorem dX10_make_95 : decode cX10_make 95 = .ok (.iconst 0, 1) := by decide +kernel
theorem dX10_make_96 : decode cX10_make 96 = .ok (.istore 7, 2) := by decide +kernel
theorem dX10_make_98 : decode cX10_make 98 = .ok (.iload 7, 2) := by decide +kernel
theorem dX10_make_100 : decode cX10_make 100 = .ok (.aload_n 0, 1) := by decide +kernel
theorem dX10_make_101 : decode cX10_make 101 = .ok (.getfield 82, 3) := by decide +kernel
theorem dX10_make_104 : decode cX10_make 104 = .ok (.iload 6, 2) := by decide +kernel
theorem dX10_make_106 : decode cX10_make 106 = .ok (.iaload, 1) := by decide +kernel
theorem dX10_make_107 : decode cX10_make 107 = .ok (.if_icmp .ge 144, 3) := by decide +kernel
theorem dX10_make_110 : decode cX10_make 110 = .ok (.bipush 16, 2) := by decide +kernel
theorem dX10_make_112 : decode cX10_make 112 = .ok (.iload 6, 2) := by decide +kernel
theorem dX10_make_114 : decode cX10_make 114 = .ok (.imul, 1) := by decide +kernel
theorem dX10_make_115 : decode cX10_make 115 = .ok (.iload 7, 2) := by decide +kernel
theorem dX10_make_117 : decode cX10_make 117 = .ok (.iadd, 1) := by decide +kernel
theorem dX10_make_118 : decode cX10_make 118 = .ok (.istore 8, 2) := by decide +kernel
theorem dX10_make_120 : decode cX10_make 120 = .ok (.lconst 0, 1) := by decide +kernel
theorem dX10_make_121 : decode cX10_make 121 = .ok (.lstore 9, 2) := by decide +kernel
theorem dX10_make_123 : decode cX10_make 123 = .ok (.iconst 0, 1) := by decide +kernel
theorem dX10_make_124 : decode cX10_make 124 = .ok (.istore 11, 2) := by decide +kernel
theorem dX10_make_126 : decode cX10_make 126 = .ok (.iload 11, 2) := by decide +kernel
theorem dX10_make_128 : decode cX10_make 128 = .ok (.aload_n 0, 1) := by decide +kernel
theorem dX10_make_129 : decode cX10_make 129 = .ok (.getfield 201, 3) := by decide +kernel
theorem dX10_make_132 : decode cX10_make 132 = .ok (.if_icmp .ge 32, 3) := by decide +kernel
theorem dX10_make_135 : decode cX10_make 135 = .ok (.lload 9, 2) := by decide +kernel
theorem dX10_make_137 : decode cX10_make 137 = .ok (.aload_n 2, 1) := by decide +kernel
theorem dX10_make_138 : decode cX10_make 138 = .ok (.iload 11, 2) := by decide +kernel
theorem dX10_make_140 : decode cX10_make 140 = .ok (.iaload, 1) := by decide +kernel
theorem dX10_make_141 : decode cX10_make 141 = .ok (.i2l, 1) := by decide +kernel
theorem dX10_make_142 : decode cX10_make 142 = .ok (.aload_n 0, 1) := by decide +kernel
theorem dX10_make_143 : decode cX10_make 143 = .ok (.getfield 88, 3) := by decide +kernel
theorem dX10_make_146 : decode cX10_make 146 = .ok (.iconst 3, 1) := by decide +kernel
theorem dX10_make_147 : decode cX10_make 147 = .ok (.iload 8, 2) := by decide +kernel
theorem dX10_make_149 : decode cX10_make 149 = .ok (.imul, 1) := by decide +kernel
theorem dX10_make_150 : decode cX10_make 150 = .ok (.iload 11, 2) := by decide +kernel
theorem dX10_make_152 : decode cX10_make 152 = .ok (.iadd, 1) := by decide +kernel
theorem dX10_make_153 : decode cX10_make 153 = .ok (.laload, 1) := by decide +kernel
theorem dX10_make_154 : decode cX10_make 154 = .ok (.lmul, 1) := by decide +kernel
theorem dX10_make_155 : decode cX10_make 155 = .ok (.ladd, 1) := by decide +kernel
theorem dX10_make_156 : decode cX10_make 156 = .ok (.lstore 9, 2) := by decide +kernel
theorem dX10_make_158 : decode cX10_make 158 = .ok (.iinc 11 1, 3) := by decide +kernel
theorem dX10_make_161 : decode cX10_make 161 = .ok (.goto (-35), 3) := by decide +kernel
theorem dX10_make_164 : decode cX10_make 164 = .ok (.ldc2_w 408, 3) := by decide +kernel
theorem dX10_make_167 : decode cX10_make 167 = .ok (.lload 9, 2) := by decide +kernel
theorem dX10_make_169 : decode cX10_make 169 = .ok (.lmul, 1) := by decide +kernel
theorem dX10_make_170 : decode cX10_make 170 = .ok (.aload_n 0, 1) := by decide +kernel
theorem dX10_make_171 : decode cX10_make 171 = .ok (.iload 8, 2) := by decide +kernel
theorem dX10_make_173 : decode cX10_make 173 = .ok (.aload_n 0, 1) := by decide +kernel
theorem dX10_make_174 : decode cX10_make 174 = .ok (.getfield 110, 3) := by decide +kernel
theorem dX10_make_177 : decode cX10_make 177 = .ok (.iload 5, 2) := by decide +kernel
theorem dX10_make_179 : decode cX10_make 179 = .ok (.bipush 100, 2) := by decide +kernel
theorem dX10_make_181 : decode cX10_make 181 = .ok (.isub, 1) := by decide +kernel
theorem dX10_make_182 : decode cX10_make 182 = .ok (.invokevirtual 410, 3) := by decide +kernel
theorem dX10_make_185 : decode cX10_make 185 = .ok (.ladd, 1) := by decide +kernel
theorem dX10_make_186 : decode cX10_make 186 = .ok (.lstore 9, 2) := by decide +kernel
theorem dX10_make_188 : decode cX10_make 188 = .ok (.aload_n 0, 1) := by decide +kernel
theorem dX10_make_189 : decode cX10_make 189 = .ok (.getfield 107, 3) := by decide +kernel
theorem dX10_make_192 : decode cX10_make 192 = .ok (.iload 5, 2) := by decide +kernel
theorem dX10_make_194 : decode cX10_make 194 = .ok (.iload 6, 2) := by decide +kernel
theorem dX10_make_196 : decode cX10_make 196 = .ok (.iadd, 1) := by decide +kernel
theorem dX10_make_197 : decode cX10_make 197 = .ok (.iaload, 1) := by decide +kernel
theorem dX10_make_198 : decode cX10_make 198 = .ok (.iconst (-1), 1) := by decide +kernel
theorem dX10_make_199 : decode cX10_make 199 = .ok (.if_icmp .eq 22, 3) := by decide +kernel
theorem dX10_make_202 : decode cX10_make 202 = .ok (.lload 9, 2) := by decide +kernel
theorem dX10_make_204 : decode cX10_make 204 = .ok (.aload_n 0, 1) := by decide +kernel
theorem dX10_make_205 : decode cX10_make 205 = .ok (.getfield 110, 3) := by decide +kernel
theorem dX10_make_208 : decode cX10_make 208 = .ok (.iload 5, 2) := by decide +kernel
theorem dX10_make_210 : decode cX10_make 210 = .ok (.iload 6, 2) := by decide +kernel
theorem dX10_make_212 : decode cX10_make 212 = .ok (.iadd, 1) := by decide +kernel
theorem dX10_make_213 : decode cX10_make 213 = .ok (.laload, 1) := by decide +kernel
theorem dX10_make_214 : decode cX10_make 214 = .ok (.lcmp, 1) := by decide +kernel
theorem dX10_make_215 : decode cX10_make 215 = .ok (.ifCond .gt 6, 3) := by decide +kernel
theorem dX10_make_218 : decode cX10_make 218 = .ok (.goto 27, 3) := by decide +kernel
theorem dX10_make_221 : decode cX10_make 221 = .ok (.aload_n 0, 1) := by decide +kernel
theorem dX10_make_222 : decode cX10_make 222 = .ok (.getfield 107, 3) := by decide +kernel
theorem dX10_make_225 : decode cX10_make 225 = .ok (.iload 5, 2) := by decide +kernel
theorem dX10_make_227 : decode cX10_make 227 = .ok (.iload 6, 2) := by decide +kernel
theorem dX10_make_229 : decode cX10_make 229 = .ok (.iadd, 1) := by decide +kernel
theorem dX10_make_230 : decode cX10_make 230 = .ok (.iload 7, 2) := by decide +kernel
theorem dX10_make_232 : decode cX10_make 232 = .ok (.iastore, 1) := by decide +kernel
theorem dX10_make_233 : decode cX10_make 233 = .ok (.aload_n 0, 1) := by decide +kernel
theorem dX10_make_234 : decode cX10_make 234 = .ok (.getfield 110, 3) := by decide +kernel
theorem dX10_make_237 : decode cX10_make 237 = .ok (.iload 5, 2) := by decide +kernel
theorem dX10_make_239 : decode cX10_make 239 = .ok (.iload 6, 2) := by decide +kernel
theorem dX10_make_241 : decode cX10_make 241 = .ok (.iadd, 1) := by decide +kernel
theorem dX10_make_242 : decode cX10_make 242 = .ok (.lload 9, 2) := by decide +kernel
theorem dX10_make_244 : decode cX10_make 244 = .ok (.lastore, 1) := by decide +kernel
theorem dX10_make_245 : decode cX10_make 245 = .ok (.iinc 7 1, 3) := by decide +kernel
theorem dX10_make_248 : decode cX10_make 248 = .ok (.goto (-150), 3) := by decide +kernel
theorem dX10_make_251 : decode cX10_make 251 = .ok (.iinc 6 1, 3) := by decide +kernel
theorem dX10_make_254 : decode cX10_make 254 = .ok (.goto (-190), 3) := by decide +kernel
theorem dX10_make_257 : decode cX10_make 257 = .ok (.iinc 4 1, 3) := by decide +kernel
theorem dX10_make_260 : decode cX10_make 260 = .ok (.goto (-218), 3) := by decide +kernel
theorem dX10_make_263 : decode cX10_make 263 = .ok (.iconst 0, 1) := by decide +kernel
theorem dX10_make_264 : decode cX10_make 264 = .ok (.istore 4, 2) := by decide +kernel
theorem dX10_make_266 : decode cX10_make 266 = .ok (.iload 4, 2) := by decide +kernel
theorem dX10_make_268 : decode cX10_make 268 = .ok (.aload_n 0, 1) := by decide +kernel
theorem dX10_make_269 : decode cX10_make 269 = .ok (.getfield 201, 3) := by decide +kernel
theorem dX10_make_272 : decode cX10_make 272 = .ok (.if_icmp .ge 27, 3) := by decide +kernel
theorem dX10_make_275 : decode cX10_make 275 = .ok (.aload_n 0, 1) := by decide +kernel
theorem dX10_make_276 : decode cX10_make 276 = .ok (.getfield 113, 3) := by decide +kernel
theorem dX10_make_279 : decode cX10_make 279 = .ok (.iconst 3, 1) := by decide +kernel
theorem dX10_make_280 : decode cX10_make 280 = .ok (.iload_n 1, 1) := by decide +kernel
theorem dX10_make_281 : decode cX10_make 281 = .ok (.imul, 1) := by decide +kernel
theorem dX10_make_282 : decode cX10_make 282 = .ok (.iload 4, 2) := by decide +kernel
theorem dX10_make_284 : decode cX10_make 284 = .ok (.iadd, 1) := by decide +kernel
theorem dX10_make_285 : decode cX10_make 285 = .ok (.aload_n 0, 1) := by decide +kernel
theorem dX10_make_286 : decode cX10_make 286 = .ok (.iload_n 1, 1) := by decide +kernel
theorem dX10_make_287 : decode cX10_make 287 = .ok (.iload 4, 2) := by decide +kernel
theorem dX10_make_289 : decode cX10_make 289 = .ok (.invokevirtual 414, 3) := by decide +kernel
theorem dX10_make_292 : decode cX10_make 292 = .ok (.lastore, 1) := by decide +kernel
theorem dX10_make_293 : decode cX10_make 293 = .ok (.iinc 4 1, 3) := by decide +kernel
theorem dX10_make_296 : decode cX10_make 296 = .ok (.goto (-30), 3) := by decide +kernel
theorem dX10_make_299 : decode cX10_make 299 = .ok (.aload_n 0, 1) := by decide +kernel
theorem dX10_make_300 : decode cX10_make 300 = .ok (.getfield 116, 3) := by decide +kernel
theorem dX10_make_303 : decode cX10_make 303 = .ok (.iload_n 1, 1) := by decide +kernel
theorem dX10_make_304 : decode cX10_make 304 = .ok (.aload_n 0, 1) := by decide +kernel
theorem dX10_make_305 : decode cX10_make 305 = .ok (.iload_n 1, 1) := by decide +kernel
theorem dX10_make_306 : decode cX10_make 306 = .ok (.iconst (-1), 1) := by decide +kernel
theorem dX10_make_307 : decode cX10_make 307 = .ok (.invokevirtual 414, 3) := by decide +kernel
theorem dX10_make_310 : decode cX10_make 310 = .ok (.l2i, 1) := by decide +kernel
theorem dX10_make_311 : decode cX10_make 311 = .ok (.iastore, 1) := by decide +kernel
theorem dX10_make_312 : decode cX10_make 312 = .ok (.return_, 1) := by decide +kernel
theorem dX10_follow_0 : decode cX10_follow 0 = .ok (.iconst 0, 1) := by decide +kernel
theorem dX10_follow_1 : decode cX10_follow 1 = .ok (.istore_n 3, 1) := by decide +kernel
theorem dX10_follow_2 : decode cX10_follow 2 = .ok (.iload_n 3, 1) := by decide +kernel
theorem dX10_follow_3 : decode cX10_follow 3 = .ok (.aload_n 0, 1) := by decide +kernel
theorem dX10_follow_4 : decode cX10_follow 4 = .ok (.getfield 213, 3) := by decide +kernel
theorem dX10_follow_7 : decode cX10_follow 7 = .ok (.if_icmp .ge 36, 3) := by decide +kernel
theorem dX10_follow_10 : decode cX10_follow 10 = .ok (.aload_n 0, 1) := by decide +kernel
theorem dX10_follow_11 : decode cX10_follow 11 = .ok (.getfield 122, 3) := by decide +kernel
theorem dX10_follow_14 : decode cX10_follow 14 = .ok (.iload_n 3, 1) := by decide +kernel
theorem dX10_follow_15 : decode cX10_follow 15 = .ok (.iload_n 2, 1) := by decide +kernel
theorem dX10_follow_16 : decode cX10_follow 16 = .ok (.iconst (-1), 1) := by decide +kernel
theorem dX10_follow_17 : decode cX10_follow 17 = .ok (.if_icmp .ne 18, 3) := by decide +kernel
theorem dX10_follow_20 : decode cX10_follow 20 = .ok (.aload_n 0, 1) := by decide +kernel
theorem dX10_follow_21 : decode cX10_follow 21 = .ok (.getfield 78, 3) := by decide +kernel
theorem dX10_follow_24 : decode cX10_follow 24 = .ok (.iload_n 3, 1) := by decide +kernel
theorem dX10_follow_25 : decode cX10_follow 25 = .ok (.baload, 1) := by decide +kernel
theorem dX10_follow_26 : decode cX10_follow 26 = .ok (.ifCond .eq 9, 3) := by decide +kernel
theorem dX10_follow_29 : decode cX10_follow 29 = .ok (.ldc2_w 417, 3) := by decide +kernel
theorem dX10_follow_32 : decode cX10_follow 32 = .ok (.goto 4, 3) := by decide +kernel
theorem dX10_follow_35 : decode cX10_follow 35 = .ok (.lconst 0, 1) := by decide +kernel
theorem dX10_follow_36 : decode cX10_follow 36 = .ok (.lastore, 1) := by decide +kernel
theorem dX10_follow_37 : decode cX10_follow 37 = .ok (.iinc 3 1, 3) := by decide +kernel
theorem dX10_follow_40 : decode cX10_follow 40 = .ok (.goto (-38), 3) := by decide +kernel
theorem dX10_follow_43 : decode cX10_follow 43 = .ok (.iconst 1, 1) := by decide +kernel
theorem dX10_follow_44 : decode cX10_follow 44 = .ok (.istore_n 3, 1) := by decide +kernel
theorem dX10_follow_45 : decode cX10_follow 45 = .ok (.iload_n 3, 1) := by decide +kernel
theorem dX10_follow_46 : decode cX10_follow 46 = .ok (.aload_n 0, 1) := by decide +kernel
theorem dX10_follow_47 : decode cX10_follow 47 = .ok (.getfield 103, 3) := by decide +kernel
theorem dX10_follow_50 : decode cX10_follow 50 = .ok (.iload_n 1, 1) := by decide +kernel
theorem dX10_follow_51 : decode cX10_follow 51 = .ok (.iaload, 1) := by decide +kernel
theorem dX10_follow_52 : decode cX10_follow 52 = .ok (.if_icmp .gt 155, 3) := by decide +kernel
theorem dX10_follow_55 : decode cX10_follow 55 = .ok (.iconst 0, 1) := by decide +kernel
theorem dX10_follow_56 : decode cX10_follow 56 = .ok (.istore 4, 2) := by decide +kernel
theorem dX10_follow_58 : decode cX10_follow 58 = .ok (.iload 4, 2) := by decide +kernel
theorem dX10_follow_60 : decode cX10_follow 60 = .ok (.aload_n 0, 1) := by decide +kernel
theorem dX10_follow_61 : decode cX10_follow 61 = .ok (.getfield 213, 3) := by decide +kernel
theorem dX10_follow_64 : decode cX10_follow 64 = .ok (.if_icmp .ge 120, 3) := by decide +kernel
theorem dX10_follow_67 : decode cX10_follow 67 = .ok (.aload_n 0, 1) := by decide +kernel
theorem dX10_follow_68 : decode cX10_follow 68 = .ok (.getfield 107, 3) := by decide +kernel
theorem dX10_follow_71 : decode cX10_follow 71 = .ok (.sipush 3100, 3) := by decide +kernel
theorem dX10_follow_74 : decode cX10_follow 74 = .ok (.iload_n 1, 1) := by decide +kernel
theorem dX10_follow_75 : decode cX10_follow 75 = .ok (.imul, 1) := by decide +kernel
theorem dX10_follow_76 : decode cX10_follow 76 = .ok (.bipush 100, 2) := by decide +kernel
theorem dX10_follow_78 : decode cX10_follow 78 = .ok (.iload_n 3, 1) := by decide +kernel
theorem dX10_follow_79 : decode cX10_follow 79 = .ok (.imul, 1) := by decide +kernel
theorem dX10_follow_80 : decode cX10_follow 80 = .ok (.iadd, 1) := by decide +kernel
theorem dX10_follow_81 : decode cX10_follow 81 = .ok (.iload 4, 2) := by decide +kernel
theorem dX10_follow_83 : decode cX10_follow 83 = .ok (.iadd, 1) := by decide +kernel
theorem dX10_follow_84 : decode cX10_follow 84 = .ok (.iaload, 1) := by decide +kernel
theorem dX10_follow_85 : decode cX10_follow 85 = .ok (.istore 5, 2) := by decide +kernel
theorem dX10_follow_87 : decode cX10_follow 87 = .ok (.aload_n 0, 1) := by decide +kernel
theorem dX10_follow_88 : decode cX10_follow 88 = .ok (.getfield 119, 3) := by decide +kernel
theorem dX10_follow_91 : decode cX10_follow 91 = .ok (.iload 4, 2) := by decide +kernel
theorem dX10_follow_93 : decode cX10_follow 93 = .ok (.iload_n 2, 1) := by decide +kernel
theorem dX10_follow_94 : decode cX10_follow 94 = .ok (.iconst (-1), 1) := by decide +kernel
theorem dX10_follow_95 : decode cX10_follow 95 = .ok (.if_icmp .ne 19, 3) := by decide +kernel
theorem dX10_follow_98 : decode cX10_follow 98 = .ok (.aload_n 0, 1) := by decide +kernel
theorem dX10_follow_99 : decode cX10_follow 99 = .ok (.getfield 78, 3) := by decide +kernel
theorem dX10_follow_102 : decode cX10_follow 102 = .ok (.iload 4, 2) := by decide +kernel
theorem dX10_follow_104 : decode cX10_follow 104 = .ok (.baload, 1) := by decide +kernel
theorem dX10_follow_105 : decode cX10_follow 105 = .ok (.ifCond .eq 9, 3) := by decide +kernel
theorem dX10_follow_108 : decode cX10_follow 108 = .ok (.ldc2_w 417, 3) := by decide +kernel
theorem dX10_follow_111 : decode cX10_follow 111 = .ok (.goto 4, 3) := by decide +kernel
theorem dX10_follow_114 : decode cX10_follow 114 = .ok (.lconst 0, 1) := by decide +kernel
theorem dX10_follow_115 : decode cX10_follow 115 = .ok (.lastore, 1) := by decide +kernel
theorem dX10_follow_116 : decode cX10_follow 116 = .ok (.iload 5, 2) := by decide +kernel
theorem dX10_follow_118 : decode cX10_follow 118 = .ok (.iconst (-1), 1) := by decide +kernel
theorem dX10_follow_119 : decode cX10_follow 119 = .ok (.if_icmp .ne 6, 3) := by decide +kernel
theorem dX10_follow_122 : decode cX10_follow 122 = .ok (.goto 56, 3) := by decide +kernel
theorem dX10_follow_125 : decode cX10_follow 125 = .ok (.bipush 16, 2) := by decide +kernel
theorem dX10_follow_127 : decode cX10_follow 127 = .ok (.iload 4, 2) := by decide +kernel
theorem dX10_follow_129 : decode cX10_follow 129 = .ok (.imul, 1) := by decide +kernel
theorem dX10_follow_130 : decode cX10_follow 130 = .ok (.iload 5, 2) := by decide +kernel
theorem dX10_follow_132 : decode cX10_follow 132 = .ok (.iadd, 1) := by decide +kernel
theorem dX10_follow_133 : decode cX10_follow 133 = .ok (.istore 6, 2) := by decide +kernel
theorem dX10_follow_135 : decode cX10_follow 135 = .ok (.aload_n 0, 1) := by decide +kernel
theorem dX10_follow_136 : decode cX10_follow 136 = .ok (.getfield 119, 3) := by decide +kernel
theorem dX10_follow_139 : decode cX10_follow 139 = .ok (.iload 4, 2) := by decide +kernel
theorem dX10_follow_141 : decode cX10_follow 141 = .ok (.iload_n 2, 1) := by decide +kernel
theorem dX10_follow_142 : decode cX10_follow 142 = .ok (.iconst (-1), 1) := by decide +kernel
theorem dX10_follow_143 : decode cX10_follow 143 = .ok (.if_icmp .ne 7, 3) := by decide +kernel
theorem dX10_follow_146 : decode cX10_follow 146 = .ok (.lconst 0, 1) := by decide +kernel
theorem dX10_follow_147 : decode cX10_follow 147 = .ok (.goto 18, 3) := by decide +kernel
theorem dX10_follow_150 : decode cX10_follow 150 = .ok (.ldc2_w 408, 3) := by decide +kernel
theorem dX10_follow_153 : decode cX10_follow 153 = .ok (.aload_n 0, 1) := by decide +kernel
theorem dX10_follow_154 : decode cX10_follow 154 = .ok (.getfield 88, 3) := by decide +kernel
theorem dX10_follow_157 : decode cX10_follow 157 = .ok (.iconst 3, 1) := by decide +kernel
theorem dX10_follow_158 : decode cX10_follow 158 = .ok (.iload 6, 2) := by decide +kernel
theorem dX10_follow_160 : decode cX10_follow 160 = .ok (.imul, 1) := by decide +kernel
theorem dX10_follow_161 : decode cX10_follow 161 = .ok (.iload_n 2, 1) := by decide +kernel
theorem dX10_follow_162 : decode cX10_follow 162 = .ok (.iadd, 1) := by decide +kernel
theorem dX10_follow_163 : decode cX10_follow 163 = .ok (.laload, 1) := by decide +kernel
theorem dX10_follow_164 : decode cX10_follow 164 = .ok (.lmul, 1) := by decide +kernel
theorem dX10_follow_165 : decode cX10_follow 165 = .ok (.aload_n 0, 1) := by decide +kernel
theorem dX10_follow_166 : decode cX10_follow 166 = .ok (.iload 6, 2) := by decide +kernel
theorem dX10_follow_168 : decode cX10_follow 168 = .ok (.aload_n 0, 1) := by decide +kernel
theorem dX10_follow_169 : decode cX10_follow 169 = .ok (.getfield 122, 3) := by decide +kernel
theorem dX10_follow_172 : decode cX10_follow 172 = .ok (.iconst 0, 1) := by decide +kernel
theorem dX10_follow_173 : decode cX10_follow 173 = .ok (.invokevirtual 410, 3) := by decide +kernel
theorem dX10_follow_176 : decode cX10_follow 176 = .ok (.ladd, 1) := by decide +kernel
theorem dX10_follow_177 : decode cX10_follow 177 = .ok (.lastore, 1) := by decide +kernel
theorem dX10_follow_178 : decode cX10_follow 178 = .ok (.iinc 4 1, 3) := by decide +kernel
theorem dX10_follow_181 : decode cX10_follow 181 = .ok (.goto (-123), 3) := by decide +kernel
theorem dX10_follow_184 : decode cX10_follow 184 = .ok (.aload_n 0, 1) := by decide +kernel
theorem dX10_follow_185 : decode cX10_follow 185 = .ok (.getfield 119, 3) := by decide +kernel
theorem dX10_follow_188 : decode cX10_follow 188 = .ok (.iconst 0, 1) := by decide +kernel
theorem dX10_follow_189 : decode cX10_follow 189 = .ok (.aload_n 0, 1) := by decide +kernel
theorem dX10_follow_190 : decode cX10_follow 190 = .ok (.getfield 122, 3) := by decide +kernel
theorem dX10_follow_193 : decode cX10_follow 193 = .ok (.iconst 0, 1) := by decide +kernel
theorem dX10_follow_194 : decode cX10_follow 194 = .ok (.aload_n 0, 1) := by decide +kernel
theorem dX10_follow_195 : decode cX10_follow 195 = .ok (.getfield 213, 3) := by decide +kernel
theorem dX10_follow_198 : decode cX10_follow 198 = .ok (.invokestatic 383, 3) := by decide +kernel
theorem dX10_follow_201 : decode cX10_follow 201 = .ok (.iinc 3 1, 3) := by decide +kernel
theorem dX10_follow_204 : decode cX10_follow 204 = .ok (.goto (-159), 3) := by decide +kernel
theorem dX10_follow_207 : decode cX10_follow 207 = .ok (.aload_n 0, 1) := by decide +kernel
theorem dX10_follow_208 : decode cX10_follow 208 = .ok (.getfield 122, 3) := by decide +kernel
theorem dX10_follow_211 : decode cX10_follow 211 = .ok (.iconst 0, 1) := by decide +kernel
theorem dX10_follow_212 : decode cX10_follow 212 = .ok (.laload, 1) := by decide +kernel
theorem dX10_follow_213 : decode cX10_follow 213 = .ok (.lreturn, 1) := by decide +kernel
theorem dX10_weigh_0 : decode cX10_weigh 0 = .ok (.aload_n 0, 1) := by decide +kernel
theorem dX10_weigh_1 : decode cX10_weigh 1 = .ok (.iconst 0, 1) := by decide +kernel
theorem dX10_weigh_2 : decode cX10_weigh 2 = .ok (.putfield 140, 3) := by decide +kernel
theorem dX10_weigh_5 : decode cX10_weigh 5 = .ok (.aload_n 0, 1) := by decide +kernel
theorem dX10_weigh_6 : decode cX10_weigh 6 = .ok (.iload_n 1, 1) := by decide +kernel
theorem dX10_weigh_7 : decode cX10_weigh 7 = .ok (.invokevirtual 419, 3) := by decide +kernel
theorem dX10_weigh_10 : decode cX10_weigh 10 = .ok (.ifCond .ne 9, 3) := by decide +kernel
theorem dX10_weigh_13 : decode cX10_weigh 13 = .ok (.aload_n 0, 1) := by decide +kernel
theorem dX10_weigh_14 : decode cX10_weigh 14 = .ok (.iconst 1, 1) := by decide +kernel
theorem dX10_weigh_15 : decode cX10_weigh 15 = .ok (.invokevirtual 146, 3) := by decide +kernel
theorem dX10_weigh_18 : decode cX10_weigh 18 = .ok (.ireturn, 1) := by decide +kernel
theorem dX10_weigh_19 : decode cX10_weigh 19 = .ok (.iload_n 2, 1) := by decide +kernel
theorem dX10_weigh_20 : decode cX10_weigh 20 = .ok (.i2l, 1) := by decide +kernel
theorem dX10_weigh_21 : decode cX10_weigh 21 = .ok (.ldc2_w 422, 3) := by decide +kernel
theorem dX10_weigh_24 : decode cX10_weigh 24 = .ok (.ldc2_w 424, 3) := by decide +kernel
theorem dX10_weigh_27 : decode cX10_weigh 27 = .ok (.invokestatic 154, 3) := by decide +kernel
theorem dX10_weigh_30 : decode cX10_weigh 30 = .ok (.ifCond .ne 9, 3) := by decide +kernel
theorem dX10_weigh_33 : decode cX10_weigh 33 = .ok (.aload_n 0, 1) := by decide +kernel
theorem dX10_weigh_34 : decode cX10_weigh 34 = .ok (.iconst 2, 1) := by decide +kernel
theorem dX10_weigh_35 : decode cX10_weigh 35 = .ok (.invokevirtual 146, 3) := by decide +kernel
theorem dX10_weigh_38 : decode cX10_weigh 38 = .ok (.ireturn, 1) := by decide +kernel
theorem dX10_weigh_39 : decode cX10_weigh 39 = .ok (.aload_n 0, 1) := by decide +kernel
theorem dX10_weigh_40 : decode cX10_weigh 40 = .ok (.getfield 100, 3) := by decide +kernel
theorem dX10_weigh_43 : decode cX10_weigh 43 = .ok (.iload_n 1, 1) := by decide +kernel
theorem dX10_weigh_44 : decode cX10_weigh 44 = .ok (.iaload, 1) := by decide +kernel
theorem dX10_weigh_45 : decode cX10_weigh 45 = .ok (.istore_n 3, 1) := by decide +kernel
theorem dX10_weigh_46 : decode cX10_weigh 46 = .ok (.aload_n 0, 1) := by decide +kernel
theorem dX10_weigh_47 : decode cX10_weigh 47 = .ok (.getfield 100, 3) := by decide +kernel
theorem dX10_weigh_50 : decode cX10_weigh 50 = .ok (.iload_n 1, 1) := by decide +kernel
theorem dX10_weigh_51 : decode cX10_weigh 51 = .ok (.iload_n 2, 1) := by decide +kernel
theorem dX10_weigh_52 : decode cX10_weigh 52 = .ok (.iastore, 1) := by decide +kernel
theorem dX10_weigh_53 : decode cX10_weigh 53 = .ok (.iload_n 3, 1) := by decide +kernel
theorem dX10_weigh_54 : decode cX10_weigh 54 = .ok (.ireturn, 1) := by decide +kernel
theorem dX10_solve_0 : decode cX10_solve 0 = .ok (.aload_n 0, 1) := by decide +kernel
theorem dX10_solve_1 : decode cX10_solve 1 = .ok (.iconst 0, 1) := by decide +kernel
theorem dX10_solve_2 : decode cX10_solve 2 = .ok (.putfield 140, 3) := by decide +kernel
theorem dX10_solve_5 : decode cX10_solve 5 = .ok (.iload_n 1, 1) := by decide +kernel
theorem dX10_solve_6 : decode cX10_solve 6 = .ok (.i2l, 1) := by decide +kernel
theorem dX10_solve_7 : decode cX10_solve 7 = .ok (.lconst 1, 1) := by decide +kernel
theorem dX10_solve_8 : decode cX10_solve 8 = .ok (.ldc2_w 426, 3) := by decide +kernel
theorem dX10_solve_11 : decode cX10_solve 11 = .ok (.invokestatic 154, 3) := by decide +kernel
theorem dX10_solve_14 : decode cX10_solve 14 = .ok (.ifCond .ne 9, 3) := by decide +kernel
theorem dX10_solve_17 : decode cX10_solve 17 = .ok (.aload_n 0, 1) := by decide +kernel
theorem dX10_solve_18 : decode cX10_solve 18 = .ok (.iconst 1, 1) := by decide +kernel
theorem dX10_solve_19 : decode cX10_solve 19 = .ok (.invokevirtual 146, 3) := by decide +kernel
theorem dX10_solve_22 : decode cX10_solve 22 = .ok (.ireturn, 1) := by decide +kernel
theorem dX10_solve_23 : decode cX10_solve 23 = .ok (.aload_n 0, 1) := by decide +kernel
theorem dX10_solve_24 : decode cX10_solve 24 = .ok (.getfield 213, 3) := by decide +kernel
theorem dX10_solve_27 : decode cX10_solve 27 = .ok (.ifCond .eq 12, 3) := by decide +kernel
theorem dX10_solve_30 : decode cX10_solve 30 = .ok (.aload_n 0, 1) := by decide +kernel
theorem dX10_solve_31 : decode cX10_solve 31 = .ok (.getfield 216, 3) := by decide +kernel
theorem dX10_solve_34 : decode cX10_solve 34 = .ok (.bipush 12, 2) := by decide +kernel
theorem dX10_solve_36 : decode cX10_solve 36 = .ok (.if_icmp .ne 9, 3) := by decide +kernel
theorem dX10_solve_39 : decode cX10_solve 39 = .ok (.aload_n 0, 1) := by decide +kernel
theorem dX10_solve_40 : decode cX10_solve 40 = .ok (.iconst 2, 1) := by decide +kernel
theorem dX10_solve_41 : decode cX10_solve 41 = .ok (.invokevirtual 146, 3) := by decide +kernel
theorem dX10_solve_44 : decode cX10_solve 44 = .ok (.ireturn, 1) := by decide +kernel
theorem dX10_solve_45 : decode cX10_solve 45 = .ok (.aload_n 0, 1) := by decide +kernel
theorem dX10_solve_46 : decode cX10_solve 46 = .ok (.aload_n 0, 1) := by decide +kernel
theorem dX10_solve_47 : decode cX10_solve 47 = .ok (.getfield 216, 3) := by decide +kernel
theorem dX10_solve_50 : decode cX10_solve 50 = .ok (.aload_n 0, 1) := by decide +kernel
theorem dX10_solve_51 : decode cX10_solve 51 = .ok (.getfield 100, 3) := by decide +kernel
theorem dX10_solve_54 : decode cX10_solve 54 = .ok (.iload_n 1, 1) := by decide +kernel
theorem dX10_solve_55 : decode cX10_solve 55 = .ok (.invokevirtual 428, 3) := by decide +kernel
theorem dX10_solve_58 : decode cX10_solve 58 = .ok (.aload_n 0, 1) := by decide +kernel
theorem dX10_solve_59 : decode cX10_solve 59 = .ok (.dup, 1) := by decide +kernel
theorem dX10_solve_60 : decode cX10_solve 60 = .ok (.getfield 216, 3) := by decide +kernel
theorem dX10_solve_63 : decode cX10_solve 63 = .ok (.iconst 1, 1) := by decide +kernel
theorem dX10_solve_64 : decode cX10_solve 64 = .ok (.iadd, 1) := by decide +kernel
theorem dX10_solve_65 : decode cX10_solve 65 = .ok (.putfield 216, 3) := by decide +kernel
theorem dX10_solve_68 : decode cX10_solve 68 = .ok (.aload_n 0, 1) := by decide +kernel
theorem dX10_solve_69 : decode cX10_solve 69 = .ok (.getfield 216, 3) := by decide +kernel
theorem dX10_solve_72 : decode cX10_solve 72 = .ok (.iconst 1, 1) := by decide +kernel
theorem dX10_solve_73 : decode cX10_solve 73 = .ok (.isub, 1) := by decide +kernel
theorem dX10_solve_74 : decode cX10_solve 74 = .ok (.ireturn, 1) := by decide +kernel
theorem dX10_takes_0 : decode cX10_takes 0 = .ok (.aload_n 0, 1) := by decide +kernel
theorem dX10_takes_1 : decode cX10_takes 1 = .ok (.iconst 0, 1) := by decide +kernel
theorem dX10_takes_2 : decode cX10_takes 2 = .ok (.putfield 140, 3) := by decide +kernel
theorem dX10_takes_5 : decode cX10_takes 5 = .ok (.aload_n 0, 1) := by decide +kernel
theorem dX10_takes_6 : decode cX10_takes 6 = .ok (.iload_n 1, 1) := by decide +kernel
theorem dX10_takes_7 : decode cX10_takes 7 = .ok (.invokevirtual 432, 3) := by decide +kernel
theorem dX10_takes_10 : decode cX10_takes 10 = .ok (.ifCond .eq 11, 3) := by decide +kernel
theorem dX10_takes_13 : decode cX10_takes 13 = .ok (.aload_n 0, 1) := by decide +kernel
theorem dX10_takes_14 : decode cX10_takes 14 = .ok (.iload_n 2, 1) := by decide +kernel
theorem dX10_takes_15 : decode cX10_takes 15 = .ok (.invokevirtual 359, 3) := by decide +kernel
theorem dX10_takes_18 : decode cX10_takes 18 = .ok (.ifCond .ne 9, 3) := by decide +kernel
theorem dX10_takes_21 : decode cX10_takes 21 = .ok (.aload_n 0, 1) := by decide +kernel
theorem dX10_takes_22 : decode cX10_takes 22 = .ok (.iconst 1, 1) := by decide +kernel
theorem dX10_takes_23 : decode cX10_takes 23 = .ok (.invokevirtual 146, 3) := by decide +kernel
theorem dX10_takes_26 : decode cX10_takes 26 = .ok (.ireturn, 1) := by decide +kernel
theorem dX10_takes_27 : decode cX10_takes 27 = .ok (.iload_n 3, 1) := by decide +kernel
theorem dX10_takes_28 : decode cX10_takes 28 = .ok (.i2l, 1) := by decide +kernel
theorem dX10_takes_29 : decode cX10_takes 29 = .ok (.lconst 1, 1) := by decide +kernel
theorem dX10_takes_30 : decode cX10_takes 30 = .ok (.aload_n 0, 1) := by decide +kernel
theorem dX10_takes_31 : decode cX10_takes 31 = .ok (.getfield 103, 3) := by decide +kernel
theorem dX10_takes_34 : decode cX10_takes 34 = .ok (.iload_n 1, 1) := by decide +kernel
theorem dX10_takes_35 : decode cX10_takes 35 = .ok (.iaload, 1) := by decide +kernel
theorem dX10_takes_36 : decode cX10_takes 36 = .ok (.i2l, 1) := by decide +kernel
theorem dX10_takes_37 : decode cX10_takes 37 = .ok (.invokestatic 154, 3) := by decide +kernel
theorem dX10_takes_40 : decode cX10_takes 40 = .ok (.ifCond .eq 23, 3) := by decide +kernel
theorem dX10_takes_43 : decode cX10_takes 43 = .ok (.aload_n 0, 1) := by decide +kernel
theorem dX10_takes_44 : decode cX10_takes 44 = .ok (.getfield 107, 3) := by decide +kernel
theorem dX10_takes_47 : decode cX10_takes 47 = .ok (.sipush 3100, 3) := by decide +kernel
theorem dX10_takes_50 : decode cX10_takes 50 = .ok (.iload_n 1, 1) := by decide +kernel
theorem dX10_takes_51 : decode cX10_takes 51 = .ok (.imul, 1) := by decide +kernel
theorem dX10_takes_52 : decode cX10_takes 52 = .ok (.bipush 100, 2) := by decide +kernel
theorem dX10_takes_54 : decode cX10_takes 54 = .ok (.iload_n 3, 1) := by decide +kernel
theorem dX10_takes_55 : decode cX10_takes 55 = .ok (.imul, 1) := by decide +kernel
theorem dX10_takes_56 : decode cX10_takes 56 = .ok (.iadd, 1) := by decide +kernel
theorem dX10_takes_57 : decode cX10_takes 57 = .ok (.iload_n 2, 1) := by decide +kernel
theorem dX10_takes_58 : decode cX10_takes 58 = .ok (.iadd, 1) := by decide +kernel
theorem dX10_takes_59 : decode cX10_takes 59 = .ok (.iaload, 1) := by decide +kernel
theorem dX10_takes_60 : decode cX10_takes 60 = .ok (.goto 8, 3) := by decide +kernel
theorem dX10_takes_63 : decode cX10_takes 63 = .ok (.aload_n 0, 1) := by decide +kernel
theorem dX10_takes_64 : decode cX10_takes 64 = .ok (.iconst 2, 1) := by decide +kernel
theorem dX10_takes_65 : decode cX10_takes 65 = .ok (.invokevirtual 146, 3) := by decide +kernel
theorem dX10_takes_68 : decode cX10_takes 68 = .ok (.ireturn, 1) := by decide +kernel
theorem dX10_worth_0 : decode cX10_worth 0 = .ok (.aload_n 0, 1) := by decide +kernel
theorem dX10_worth_1 : decode cX10_worth 1 = .ok (.aload_n 0, 1) := by decide +kernel
theorem dX10_worth_2 : decode cX10_worth 2 = .ok (.iload_n 1, 1) := by decide +kernel
theorem dX10_worth_3 : decode cX10_worth 3 = .ok (.invokevirtual 432, 3) := by decide +kernel
theorem dX10_worth_6 : decode cX10_worth 6 = .ok (.ifCond .eq 11, 3) := by decide +kernel
theorem dX10_worth_9 : decode cX10_worth 9 = .ok (.aload_n 0, 1) := by decide +kernel
theorem dX10_worth_10 : decode cX10_worth 10 = .ok (.iload_n 2, 1) := by decide +kernel
theorem dX10_worth_11 : decode cX10_worth 11 = .ok (.invokevirtual 359, 3) := by decide +kernel
theorem dX10_worth_14 : decode cX10_worth 14 = .ok (.ifCond .ne 7, 3) := by decide +kernel
theorem dX10_worth_17 : decode cX10_worth 17 = .ok (.iconst 1, 1) := by decide +kernel
theorem dX10_worth_18 : decode cX10_worth 18 = .ok (.goto 24, 3) := by decide +kernel
theorem dX10_worth_21 : decode cX10_worth 21 = .ok (.iload_n 3, 1) := by decide +kernel
theorem dX10_worth_22 : decode cX10_worth 22 = .ok (.i2l, 1) := by decide +kernel
theorem dX10_worth_23 : decode cX10_worth 23 = .ok (.lconst 0, 1) := by decide +kernel
theorem dX10_worth_24 : decode cX10_worth 24 = .ok (.aload_n 0, 1) := by decide +kernel
theorem dX10_worth_25 : decode cX10_worth 25 = .ok (.getfield 103, 3) := by decide +kernel
theorem dX10_worth_28 : decode cX10_worth 28 = .ok (.iload_n 1, 1) := by decide +kernel
theorem dX10_worth_29 : decode cX10_worth 29 = .ok (.iaload, 1) := by decide +kernel
theorem dX10_worth_30 : decode cX10_worth 30 = .ok (.i2l, 1) := by decide +kernel
theorem dX10_worth_31 : decode cX10_worth 31 = .ok (.invokestatic 154, 3) := by decide +kernel
theorem dX10_worth_34 : decode cX10_worth 34 = .ok (.ifCond .eq 7, 3) := by decide +kernel
theorem dX10_worth_37 : decode cX10_worth 37 = .ok (.iconst 0, 1) := by decide +kernel
theorem dX10_worth_38 : decode cX10_worth 38 = .ok (.goto 4, 3) := by decide +kernel
theorem dX10_worth_41 : decode cX10_worth 41 = .ok (.iconst 2, 1) := by decide +kernel
theorem dX10_worth_42 : decode cX10_worth 42 = .ok (.putfield 140, 3) := by decide +kernel
theorem dX10_worth_45 : decode cX10_worth 45 = .ok (.aload_n 0, 1) := by decide +kernel
theorem dX10_worth_46 : decode cX10_worth 46 = .ok (.getfield 140, 3) := by decide +kernel
theorem dX10_worth_49 : decode cX10_worth 49 = .ok (.ifCond .ne 23, 3) := by decide +kernel
theorem dX10_worth_52 : decode cX10_worth 52 = .ok (.aload_n 0, 1) := by decide +kernel
theorem dX10_worth_53 : decode cX10_worth 53 = .ok (.getfield 110, 3) := by decide +kernel
theorem dX10_worth_56 : decode cX10_worth 56 = .ok (.sipush 3100, 3) := by decide +kernel
theorem dX10_worth_59 : decode cX10_worth 59 = .ok (.iload_n 1, 1) := by decide +kernel
theorem dX10_worth_60 : decode cX10_worth 60 = .ok (.imul, 1) := by decide +kernel
theorem dX10_worth_61 : decode cX10_worth 61 = .ok (.bipush 100, 2) := by decide +kernel
theorem dX10_worth_63 : decode cX10_worth 63 = .ok (.iload_n 3, 1) := by decide +kernel
theorem dX10_worth_64 : decode cX10_worth 64 = .ok (.imul, 1) := by decide +kernel
theorem dX10_worth_65 : decode cX10_worth 65 = .ok (.iadd, 1) := by decide +kernel
theorem dX10_worth_66 : decode cX10_worth 66 = .ok (.iload_n 2, 1) := by decide +kernel
theorem dX10_worth_67 : decode cX10_worth 67 = .ok (.iadd, 1) := by decide +kernel
theorem dX10_worth_68 : decode cX10_worth 68 = .ok (.laload, 1) := by decide +kernel
theorem dX10_worth_69 : decode cX10_worth 69 = .ok (.goto 4, 3) := by decide +kernel
theorem dX10_worth_72 : decode cX10_worth 72 = .ok (.lconst 0, 1) := by decide +kernel
theorem dX10_worth_73 : decode cX10_worth 73 = .ok (.lreturn, 1) := by decide +kernel
theorem dX10_brings_0 : decode cX10_brings 0 = .ok (.aload_n 0, 1) := by decide +kernel
theorem dX10_brings_1 : decode cX10_brings 1 = .ok (.aload_n 0, 1) := by decide +kernel
theorem dX10_brings_2 : decode cX10_brings 2 = .ok (.iload_n 1, 1) := by decide +kernel
theorem dX10_brings_3 : decode cX10_brings 3 = .ok (.invokevirtual 432, 3) := by decide +kernel
theorem dX10_brings_6 : decode cX10_brings 6 = .ok (.ifCond .eq 15, 3) := by decide +kernel
theorem dX10_brings_9 : decode cX10_brings 9 = .ok (.aload_n 0, 1) := by decide +kernel
theorem dX10_brings_10 : decode cX10_brings 10 = .ok (.iload_n 2, 1) := by decide +kernel
theorem dX10_brings_11 : decode cX10_brings 11 = .ok (.invokevirtual 419, 3) := by decide +kernel
theorem dX10_brings_14 : decode cX10_brings 14 = .ok (.ifCond .eq 7, 3) := by decide +kernel
theorem dX10_brings_17 : decode cX10_brings 17 = .ok (.iconst 0, 1) := by decide +kernel
theorem dX10_brings_18 : decode cX10_brings 18 = .ok (.goto 4, 3) := by decide +kernel
theorem dX10_brings_21 : decode cX10_brings 21 = .ok (.iconst 1, 1) := by decide +kernel
theorem dX10_brings_22 : decode cX10_brings 22 = .ok (.putfield 140, 3) := by decide +kernel
theorem dX10_brings_25 : decode cX10_brings 25 = .ok (.aload_n 0, 1) := by decide +kernel
theorem dX10_brings_26 : decode cX10_brings 26 = .ok (.getfield 140, 3) := by decide +kernel
theorem dX10_brings_29 : decode cX10_brings 29 = .ok (.ifCond .ne 16, 3) := by decide +kernel
theorem dX10_brings_32 : decode cX10_brings 32 = .ok (.aload_n 0, 1) := by decide +kernel
theorem dX10_brings_33 : decode cX10_brings 33 = .ok (.getfield 113, 3) := by decide +kernel
theorem dX10_brings_36 : decode cX10_brings 36 = .ok (.iconst 3, 1) := by decide +kernel
theorem dX10_brings_37 : decode cX10_brings 37 = .ok (.iload_n 1, 1) := by decide +kernel
theorem dX10_brings_38 : decode cX10_brings 38 = .ok (.imul, 1) := by decide +kernel
theorem dX10_brings_39 : decode cX10_brings 39 = .ok (.iload_n 2, 1) := by decide +kernel
theorem dX10_brings_40 : decode cX10_brings 40 = .ok (.iadd, 1) := by decide +kernel
theorem dX10_brings_41 : decode cX10_brings 41 = .ok (.laload, 1) := by decide +kernel
theorem dX10_brings_42 : decode cX10_brings 42 = .ok (.goto 4, 3) := by decide +kernel
theorem dX10_brings_45 : decode cX10_brings 45 = .ok (.lconst 0, 1) := by decide +kernel
theorem dX10_brings_46 : decode cX10_brings 46 = .ok (.lreturn, 1) := by decide +kernel
theorem dX10_chance_0 : decode cX10_chance 0 = .ok (.aload_n 0, 1) := by decide +kernel
theorem dX10_chance_1 : decode cX10_chance 1 = .ok (.iconst 0, 1) := by decide +kernel
theorem dX10_chance_2 : decode cX10_chance 2 = .ok (.putfield 140, 3) := by decide +kernel
theorem dX10_chance_5 : decode cX10_chance 5 = .ok (.aload_n 0, 1) := by decide +kernel
theorem dX10_chance_6 : decode cX10_chance 6 = .ok (.iload_n 1, 1) := by decide +kernel
theorem dX10_chance_7 : decode cX10_chance 7 = .ok (.invokevirtual 432, 3) := by decide +kernel
theorem dX10_chance_10 : decode cX10_chance 10 = .ok (.ifCond .eq 12, 3) := by decide +kernel
theorem dX10_chance_13 : decode cX10_chance 13 = .ok (.aload_n 0, 1) := by decide +kernel
theorem dX10_chance_14 : decode cX10_chance 14 = .ok (.getfield 116, 3) := by decide +kernel
theorem dX10_chance_17 : decode cX10_chance 17 = .ok (.iload_n 1, 1) := by decide +kernel
theorem dX10_chance_18 : decode cX10_chance 18 = .ok (.iaload, 1) := by decide +kernel
theorem dX10_chance_19 : decode cX10_chance 19 = .ok (.goto 8, 3) := by decide +kernel
theorem dX10_chance_22 : decode cX10_chance 22 = .ok (.aload_n 0, 1) := by decide +kernel
theorem dX10_chance_23 : decode cX10_chance 23 = .ok (.iconst 1, 1) := by decide +kernel
theorem dX10_chance_24 : decode cX10_chance 24 = .ok (.invokevirtual 146, 3) := by decide +kernel
theorem dX10_chance_27 : decode cX10_chance 27 = .ok (.ireturn, 1) := by decide +kernel
theorem dX10_isBetter_0 : decode cX10_isBetter 0 = .ok (.iconst 0, 1) := by decide +kernel
theorem dX10_isBetter_1 : decode cX10_isBetter 1 = .ok (.istore_n 3, 1) := by decide +kernel
theorem dX10_isBetter_2 : decode cX10_isBetter 2 = .ok (.iconst 1, 1) := by decide +kernel
theorem dX10_isBetter_3 : decode cX10_isBetter 3 = .ok (.istore 4, 2) := by decide +kernel
theorem dX10_isBetter_5 : decode cX10_isBetter 5 = .ok (.iconst 0, 1) := by decide +kernel
theorem dX10_isBetter_6 : decode cX10_isBetter 6 = .ok (.istore 5, 2) := by decide +kernel
theorem dX10_isBetter_8 : decode cX10_isBetter 8 = .ok (.iload 5, 2) := by decide +kernel
theorem dX10_isBetter_10 : decode cX10_isBetter 10 = .ok (.aload_n 0, 1) := by decide +kernel
theorem dX10_isBetter_11 : decode cX10_isBetter 11 = .ok (.getfield 201, 3) := by decide +kernel
theorem dX10_isBetter_14 : decode cX10_isBetter 14 = .ok (.if_icmp .ge 83, 3) := by decide +kernel
theorem dX10_isBetter_17 : decode cX10_isBetter 17 = .ok (.iload_n 3, 1) := by decide +kernel
theorem dX10_isBetter_18 : decode cX10_isBetter 18 = .ok (.ifCond .ne 29, 3) := by decide +kernel
theorem dX10_isBetter_21 : decode cX10_isBetter 21 = .ok (.aload_n 0, 1) := by decide +kernel
theorem dX10_isBetter_22 : decode cX10_isBetter 22 = .ok (.getfield 113, 3) := by decide +kernel
theorem dX10_isBetter_25 : decode cX10_isBetter 25 = .ok (.iconst 3, 1) := by decide +kernel
theorem dX10_isBetter_26 : decode cX10_isBetter 26 = .ok (.iload_n 1, 1) := by decide +kernel
theorem dX10_isBetter_27 : decode cX10_isBetter 27 = .ok (.imul, 1) := by decide +kernel
theorem dX10_isBetter_28 : decode cX10_isBetter 28 = .ok (.iload 5, 2) := by decide +kernel
theorem dX10_isBetter_30 : decode cX10_isBetter 30 = .ok (.iadd, 1) := by decide +kernel
theorem dX10_isBetter_31 : decode cX10_isBetter 31 = .ok (.laload, 1) := by decide +kernel
theorem dX10_isBetter_32 : decode cX10_isBetter 32 = .ok (.aload_n 0, 1) := by decide +kernel
theorem dX10_isBetter_33 : decode cX10_isBetter 33 = .ok (.getfield 113, 3) := by decide +kernel
theorem dX10_isBetter_36 : decode cX10_isBetter 36 = .ok (.iconst 3, 1) := by decide +kernel
theorem dX10_isBetter_37 : decode cX10_isBetter 37 = .ok (.iload_n 2, 1) := by decide +kernel
theorem dX10_isBetter_38 : decode cX10_isBetter 38 = .ok (.imul, 1) := by decide +kernel
theorem dX10_isBetter_39 : decode cX10_isBetter 39 = .ok (.iload 5, 2) := by decide +kernel
theorem dX10_isBetter_41 : decode cX10_isBetter 41 = .ok (.iadd, 1) := by decide +kernel
theorem dX10_isBetter_42 : decode cX10_isBetter 42 = .ok (.laload, 1) := by decide +kernel
theorem dX10_isBetter_43 : decode cX10_isBetter 43 = .ok (.lcmp, 1) := by decide +kernel
theorem dX10_isBetter_44 : decode cX10_isBetter 44 = .ok (.ifCond .le 7, 3) := by decide +kernel
theorem dX10_isBetter_47 : decode cX10_isBetter 47 = .ok (.iconst 1, 1) := by decide +kernel
theorem dX10_isBetter_48 : decode cX10_isBetter 48 = .ok (.goto 4, 3) := by decide +kernel
theorem dX10_isBetter_51 : decode cX10_isBetter 51 = .ok (.iconst 0, 1) := by decide +kernel
theorem dX10_isBetter_52 : decode cX10_isBetter 52 = .ok (.istore_n 3, 1) := by decide +kernel
theorem dX10_isBetter_53 : decode cX10_isBetter 53 = .ok (.iload 4, 2) := by decide +kernel
theorem dX10_isBetter_55 : decode cX10_isBetter 55 = .ok (.ifCond .eq 33, 3) := by decide +kernel
theorem dX10_isBetter_58 : decode cX10_isBetter 58 = .ok (.aload_n 0, 1) := by decide +kernel
theorem dX10_isBetter_59 : decode cX10_isBetter 59 = .ok (.getfield 113, 3) := by decide +kernel
theorem dX10_isBetter_62 : decode cX10_isBetter 62 = .ok (.iconst 3, 1) := by decide +kernel
theorem dX10_isBetter_63 : decode cX10_isBetter 63 = .ok (.iload_n 1, 1) := by decide +kernel
theorem dX10_isBetter_64 : decode cX10_isBetter 64 = .ok (.imul, 1) := by decide +kernel
theorem dX10_isBetter_65 : decode cX10_isBetter 65 = .ok (.iload 5, 2) := by decide +kernel
theorem dX10_isBetter_67 : decode cX10_isBetter 67 = .ok (.iadd, 1) := by decide +kernel
theorem dX10_isBetter_68 : decode cX10_isBetter 68 = .ok (.laload, 1) := by decide +kernel
theorem dX10_isBetter_69 : decode cX10_isBetter 69 = .ok (.aload_n 0, 1) := by decide +kernel
theorem dX10_isBetter_70 : decode cX10_isBetter 70 = .ok (.getfield 113, 3) := by decide +kernel
theorem dX10_isBetter_73 : decode cX10_isBetter 73 = .ok (.iconst 3, 1) := by decide +kernel
theorem dX10_isBetter_74 : decode cX10_isBetter 74 = .ok (.iload_n 2, 1) := by decide +kernel
theorem dX10_isBetter_75 : decode cX10_isBetter 75 = .ok (.imul, 1) := by decide +kernel
theorem dX10_isBetter_76 : decode cX10_isBetter 76 = .ok (.iload 5, 2) := by decide +kernel
theorem dX10_isBetter_78 : decode cX10_isBetter 78 = .ok (.iadd, 1) := by decide +kernel
theorem dX10_isBetter_79 : decode cX10_isBetter 79 = .ok (.laload, 1) := by decide +kernel
theorem dX10_isBetter_80 : decode cX10_isBetter 80 = .ok (.lcmp, 1) := by decide +kernel
theorem dX10_isBetter_81 : decode cX10_isBetter 81 = .ok (.ifCond .lt 7, 3) := by decide +kernel
theorem dX10_isBetter_84 : decode cX10_isBetter 84 = .ok (.iconst 1, 1) := by decide +kernel
theorem dX10_isBetter_85 : decode cX10_isBetter 85 = .ok (.goto 4, 3) := by decide +kernel
theorem dX10_isBetter_88 : decode cX10_isBetter 88 = .ok (.iconst 0, 1) := by decide +kernel
theorem dX10_isBetter_89 : decode cX10_isBetter 89 = .ok (.istore 4, 2) := by decide +kernel
theorem dX10_isBetter_91 : decode cX10_isBetter 91 = .ok (.iinc 5 1, 3) := by decide +kernel
theorem dX10_isBetter_94 : decode cX10_isBetter 94 = .ok (.goto (-86), 3) := by decide +kernel
theorem dX10_isBetter_97 : decode cX10_isBetter 97 = .ok (.iload_n 3, 1) := by decide +kernel
theorem dX10_isBetter_98 : decode cX10_isBetter 98 = .ok (.ifCond .eq 12, 3) := by decide +kernel
theorem dX10_isBetter_101 : decode cX10_isBetter 101 = .ok (.iload 4, 2) := by decide +kernel
theorem dX10_isBetter_103 : decode cX10_isBetter 103 = .ok (.ifCond .eq 7, 3) := by decide +kernel
theorem dX10_isBetter_106 : decode cX10_isBetter 106 = .ok (.iconst 1, 1) := by decide +kernel
theorem dX10_isBetter_107 : decode cX10_isBetter 107 = .ok (.goto 4, 3) := by decide +kernel
theorem dX10_isBetter_110 : decode cX10_isBetter 110 = .ok (.iconst 0, 1) := by decide +kernel
theorem dX10_isBetter_111 : decode cX10_isBetter 111 = .ok (.ireturn, 1) := by decide +kernel
theorem dX10_isWorthHaving_0 : decode cX10_isWorthHaving 0 = .ok (.aload_n 0, 1) := by decide +kernel
theorem dX10_isWorthHaving_1 : decode cX10_isWorthHaving 1 = .ok (.aload_n 0, 1) := by decide +kernel
theorem dX10_isWorthHaving_2 : decode cX10_isWorthHaving 2 = .ok (.iload_n 1, 1) := by decide +kernel
theorem dX10_isWorthHaving_3 : decode cX10_isWorthHaving 3 = .ok (.invokevirtual 432, 3) := by decide +kernel
theorem dX10_isWorthHaving_6 : decode cX10_isWorthHaving 6 = .ok (.ifCond .eq 7, 3) := by decide +kernel
theorem dX10_isWorthHaving_9 : decode cX10_isWorthHaving 9 = .ok (.iconst 0, 1) := by decide +kernel
theorem dX10_isWorthHaving_10 : decode cX10_isWorthHaving 10 = .ok (.goto 4, 3) := by decide +kernel
theorem dX10_isWorthHaving_13 : decode cX10_isWorthHaving 13 = .ok (.iconst 1, 1) := by decide +kernel
theorem dX10_isWorthHaving_14 : decode cX10_isWorthHaving 14 = .ok (.putfield 140, 3) := by decide +kernel
theorem dX10_isWorthHaving_17 : decode cX10_isWorthHaving 17 = .ok (.aload_n 0, 1) := by decide +kernel
theorem dX10_isWorthHaving_18 : decode cX10_isWorthHaving 18 = .ok (.getfield 140, 3) := by decide +kernel
theorem dX10_isWorthHaving_21 : decode cX10_isWorthHaving 21 = .ok (.ifCond .ne 7, 3) := by decide +kernel
theorem dX10_isWorthHaving_24 : decode cX10_isWorthHaving 24 = .ok (.iconst 1, 1) := by decide +kernel
theorem dX10_isWorthHaving_25 : decode cX10_isWorthHaving 25 = .ok (.goto 4, 3) := by decide +kernel
theorem dX10_isWorthHaving_28 : decode cX10_isWorthHaving 28 = .ok (.iconst 0, 1) := by decide +kernel
theorem dX10_isWorthHaving_29 : decode cX10_isWorthHaving 29 = .ok (.istore_n 2, 1) := by decide +kernel
theorem dX10_isWorthHaving_30 : decode cX10_isWorthHaving 30 = .ok (.iconst 0, 1) := by decide +kernel
theorem dX10_isWorthHaving_31 : decode cX10_isWorthHaving 31 = .ok (.istore_n 3, 1) := by decide +kernel
theorem dX10_isWorthHaving_32 : decode cX10_isWorthHaving 32 = .ok (.iload_n 3, 1) := by decide +kernel
theorem dX10_isWorthHaving_33 : decode cX10_isWorthHaving 33 = .ok (.aload_n 0, 1) := by decide +kernel
theorem dX10_isWorthHaving_34 : decode cX10_isWorthHaving 34 = .ok (.getfield 216, 3) := by decide +kernel
theorem dX10_isWorthHaving_37 : decode cX10_isWorthHaving 37 = .ok (.if_icmp .ge 28, 3) := by decide +kernel
theorem dX10_isWorthHaving_40 : decode cX10_isWorthHaving 40 = .ok (.iload_n 2, 1) := by decide +kernel
theorem dX10_isWorthHaving_41 : decode cX10_isWorthHaving 41 = .ok (.ifCond .eq 24, 3) := by decide +kernel
theorem dX10_isWorthHaving_44 : decode cX10_isWorthHaving 44 = .ok (.aload_n 0, 1) := by decide +kernel
theorem dX10_isWorthHaving_45 : decode cX10_isWorthHaving 45 = .ok (.iload_n 3, 1) := by decide +kernel
theorem dX10_isWorthHaving_46 : decode cX10_isWorthHaving 46 = .ok (.iload_n 1, 1) := by decide +kernel
theorem dX10_isWorthHaving_47 : decode cX10_isWorthHaving 47 = .ok (.invokevirtual 435, 3) := by decide +kernel
theorem dX10_isWorthHaving_50 : decode cX10_isWorthHaving 50 = .ok (.ifCond .ne 7, 3) := by decide +kernel
theorem dX10_isWorthHaving_53 : decode cX10_isWorthHaving 53 = .ok (.iconst 1, 1) := by decide +kernel
theorem dX10_isWorthHaving_54 : decode cX10_isWorthHaving 54 = .ok (.goto 4, 3) := by decide +kernel
theorem dX10_isWorthHaving_57 : decode cX10_isWorthHaving 57 = .ok (.iconst 0, 1) := by decide +kernel
theorem dX10_isWorthHaving_58 : decode cX10_isWorthHaving 58 = .ok (.istore_n 2, 1) := by decide +kernel
theorem dX10_isWorthHaving_59 : decode cX10_isWorthHaving 59 = .ok (.iinc 3 1, 3) := by decide +kernel
theorem dX10_isWorthHaving_62 : decode cX10_isWorthHaving 62 = .ok (.goto (-30), 3) := by decide +kernel
theorem dX10_isWorthHaving_65 : decode cX10_isWorthHaving 65 = .ok (.iload_n 2, 1) := by decide +kernel
theorem dX10_isWorthHaving_66 : decode cX10_isWorthHaving 66 = .ok (.ireturn, 1) := by decide +kernel
theorem dX10_bringsTheSame_0 : decode cX10_bringsTheSame 0 = .ok (.iconst 1, 1) := by decide +kernel
theorem dX10_bringsTheSame_1 : decode cX10_bringsTheSame 1 = .ok (.istore_n 3, 1) := by decide +kernel
theorem dX10_bringsTheSame_2 : decode cX10_bringsTheSame 2 = .ok (.iconst 0, 1) := by decide +kernel
theorem dX10_bringsTheSame_3 : decode cX10_bringsTheSame 3 = .ok (.istore 4, 2) := by decide +kernel
theorem dX10_bringsTheSame_5 : decode cX10_bringsTheSame 5 = .ok (.iload 4, 2) := by decide +kernel
theorem dX10_bringsTheSame_7 : decode cX10_bringsTheSame 7 = .ok (.aload_n 0, 1) := by decide +kernel
theorem dX10_bringsTheSame_8 : decode cX10_bringsTheSame 8 = .ok (.getfield 201, 3) := by decide +kernel
theorem dX10_bringsTheSame_11 : decode cX10_bringsTheSame 11 = .ok (.if_icmp .ge 45, 3) := by decide +kernel
theorem dX10_bringsTheSame_14 : decode cX10_bringsTheSame 14 = .ok (.iload_n 3, 1) := by decide +kernel
theorem dX10_bringsTheSame_15 : decode cX10_bringsTheSame 15 = .ok (.ifCond .eq 33, 3) := by decide +kernel
theorem dX10_bringsTheSame_18 : decode cX10_bringsTheSame 18 = .ok (.aload_n 0, 1) := by decide +kernel
theorem dX10_bringsTheSame_19 : decode cX10_bringsTheSame 19 = .ok (.getfield 113, 3) := by decide +kernel
theorem dX10_bringsTheSame_22 : decode cX10_bringsTheSame 22 = .ok (.iconst 3, 1) := by decide +kernel
theorem dX10_bringsTheSame_23 : decode cX10_bringsTheSame 23 = .ok (.iload_n 1, 1) := by decide +kernel
theorem dX10_bringsTheSame_24 : decode cX10_bringsTheSame 24 = .ok (.imul, 1) := by decide +kernel
theorem dX10_bringsTheSame_25 : decode cX10_bringsTheSame 25 = .ok (.iload 4, 2) := by decide +kernel
theorem dX10_bringsTheSame_27 : decode cX10_bringsTheSame 27 = .ok (.iadd, 1) := by decide +kernel
theorem dX10_bringsTheSame_28 : decode cX10_bringsTheSame 28 = .ok (.laload, 1) := by decide +kernel
theorem dX10_bringsTheSame_29 : decode cX10_bringsTheSame 29 = .ok (.aload_n 0, 1) := by decide +kernel
theorem dX10_bringsTheSame_30 : decode cX10_bringsTheSame 30 = .ok (.getfield 113, 3) := by decide +kernel
theorem dX10_bringsTheSame_33 : decode cX10_bringsTheSame 33 = .ok (.iconst 3, 1) := by decide +kernel
theorem dX10_bringsTheSame_34 : decode cX10_bringsTheSame 34 = .ok (.iload_n 2, 1) := by decide +kernel
theorem dX10_bringsTheSame_35 : decode cX10_bringsTheSame 35 = .ok (.imul, 1) := by decide +kernel
theorem dX10_bringsTheSame_36 : decode cX10_bringsTheSame 36 = .ok (.iload 4, 2) := by decide +kernel
theorem dX10_bringsTheSame_38 : decode cX10_bringsTheSame 38 = .ok (.iadd, 1) := by decide +kernel
theorem dX10_bringsTheSame_39 : decode cX10_bringsTheSame 39 = .ok (.laload, 1) := by decide +kernel
theorem dX10_bringsTheSame_40 : decode cX10_bringsTheSame 40 = .ok (.lcmp, 1) := by decide +kernel
theorem dX10_bringsTheSame_41 : decode cX10_bringsTheSame 41 = .ok (.ifCond .ne 7, 3) := by decide +kernel
theorem dX10_bringsTheSame_44 : decode cX10_bringsTheSame 44 = .ok (.iconst 1, 1) := by decide +kernel
theorem dX10_bringsTheSame_45 : decode cX10_bringsTheSame 45 = .ok (.goto 4, 3) := by decide +kernel
theorem dX10_bringsTheSame_48 : decode cX10_bringsTheSame 48 = .ok (.iconst 0, 1) := by decide +kernel
theorem dX10_bringsTheSame_49 : decode cX10_bringsTheSame 49 = .ok (.istore_n 3, 1) := by decide +kernel
theorem dX10_bringsTheSame_50 : decode cX10_bringsTheSame 50 = .ok (.iinc 4 1, 3) := by decide +kernel
theorem dX10_bringsTheSame_53 : decode cX10_bringsTheSame 53 = .ok (.goto (-48), 3) := by decide +kernel
theorem dX10_bringsTheSame_56 : decode cX10_bringsTheSame 56 = .ok (.iload_n 3, 1) := by decide +kernel
theorem dX10_bringsTheSame_57 : decode cX10_bringsTheSame 57 = .ok (.ireturn, 1) := by decide +kernel
theorem dX10_sweep_0 : decode cX10_sweep 0 = .ok (.aload_n 0, 1) := by decide +kernel
theorem dX10_sweep_1 : decode cX10_sweep 1 = .ok (.iconst 0, 1) := by decide +kernel
theorem dX10_sweep_2 : decode cX10_sweep 2 = .ok (.putfield 140, 3) := by decide +kernel
theorem dX10_sweep_5 : decode cX10_sweep 5 = .ok (.aload_n 0, 1) := by decide +kernel
theorem dX10_sweep_6 : decode cX10_sweep 6 = .ok (.iload_n 1, 1) := by decide +kernel
theorem dX10_sweep_7 : decode cX10_sweep 7 = .ok (.invokevirtual 419, 3) := by decide +kernel
theorem dX10_sweep_10 : decode cX10_sweep 10 = .ok (.ifCond .eq 11, 3) := by decide +kernel
theorem dX10_sweep_13 : decode cX10_sweep 13 = .ok (.aload_n 0, 1) := by decide +kernel
theorem dX10_sweep_14 : decode cX10_sweep 14 = .ok (.iload_n 2, 1) := by decide +kernel
theorem dX10_sweep_15 : decode cX10_sweep 15 = .ok (.invokevirtual 419, 3) := by decide +kernel
theorem dX10_sweep_18 : decode cX10_sweep 18 = .ok (.ifCond .ne 9, 3) := by decide +kernel
theorem dX10_sweep_21 : decode cX10_sweep 21 = .ok (.aload_n 0, 1) := by decide +kernel
theorem dX10_sweep_22 : decode cX10_sweep 22 = .ok (.iconst 1, 1) := by decide +kernel
theorem dX10_sweep_23 : decode cX10_sweep 23 = .ok (.invokevirtual 146, 3) := by decide +kernel
theorem dX10_sweep_26 : decode cX10_sweep 26 = .ok (.ireturn, 1) := by decide +kernel
theorem dX10_sweep_27 : decode cX10_sweep 27 = .ok (.iload_n 1, 1) := by decide +kernel
theorem dX10_sweep_28 : decode cX10_sweep 28 = .ok (.iload_n 2, 1) := by decide +kernel
theorem dX10_sweep_29 : decode cX10_sweep 29 = .ok (.if_icmp .eq 28, 3) := by decide +kernel
theorem dX10_sweep_32 : decode cX10_sweep 32 = .ok (.iload_n 3, 1) := by decide +kernel
theorem dX10_sweep_33 : decode cX10_sweep 33 = .ok (.i2l, 1) := by decide +kernel
theorem dX10_sweep_34 : decode cX10_sweep 34 = .ok (.lconst 1, 1) := by decide +kernel
theorem dX10_sweep_35 : decode cX10_sweep 35 = .ok (.ldc2_w 424, 3) := by decide +kernel
theorem dX10_sweep_38 : decode cX10_sweep 38 = .ok (.invokestatic 154, 3) := by decide +kernel
theorem dX10_sweep_41 : decode cX10_sweep 41 = .ok (.ifCond .eq 16, 3) := by decide +kernel
theorem dX10_sweep_44 : decode cX10_sweep 44 = .ok (.iload 4, 2) := by decide +kernel
theorem dX10_sweep_46 : decode cX10_sweep 46 = .ok (.i2l, 1) := by decide +kernel
theorem dX10_sweep_47 : decode cX10_sweep 47 = .ok (.lconst 1, 1) := by decide +kernel
theorem dX10_sweep_48 : decode cX10_sweep 48 = .ok (.ldc2_w 426, 3) := by decide +kernel
theorem dX10_sweep_51 : decode cX10_sweep 51 = .ok (.invokestatic 154, 3) := by decide +kernel
theorem dX10_sweep_54 : decode cX10_sweep 54 = .ok (.ifCond .ne 9, 3) := by decide +kernel
theorem dX10_sweep_57 : decode cX10_sweep 57 = .ok (.aload_n 0, 1) := by decide +kernel
theorem dX10_sweep_58 : decode cX10_sweep 58 = .ok (.iconst 2, 1) := by decide +kernel
theorem dX10_sweep_59 : decode cX10_sweep 59 = .ok (.invokevirtual 146, 3) := by decide +kernel
theorem dX10_sweep_62 : decode cX10_sweep 62 = .ok (.ireturn, 1) := by decide +kernel
theorem dX10_sweep_63 : decode cX10_sweep 63 = .ok (.aload_n 0, 1) := by decide +kernel
theorem dX10_sweep_64 : decode cX10_sweep 64 = .ok (.getfield 216, 3) := by decide +kernel
theorem dX10_sweep_67 : decode cX10_sweep 67 = .ok (.istore 5, 2) := by decide +kernel
theorem dX10_sweep_69 : decode cX10_sweep 69 = .ok (.iconst 3, 1) := by decide +kernel
theorem dX10_sweep_70 : decode cX10_sweep 70 = .ok (.newarray .int, 2) := by decide +kernel
theorem dX10_sweep_72 : decode cX10_sweep 72 = .ok (.astore 6, 2) := by decide +kernel
theorem dX10_sweep_74 : decode cX10_sweep 74 = .ok (.iconst 0, 1) := by decide +kernel
theorem dX10_sweep_75 : decode cX10_sweep 75 = .ok (.istore 7, 2) := by decide +kernel
theorem dX10_sweep_77 : decode cX10_sweep 77 = .ok (.iload 7, 2) := by decide +kernel
theorem dX10_sweep_79 : decode cX10_sweep 79 = .ok (.iload_n 3, 1) := by decide +kernel
theorem dX10_sweep_80 : decode cX10_sweep 80 = .ok (.if_icmp .gt 90, 3) := by decide +kernel
theorem dX10_sweep_83 : decode cX10_sweep 83 = .ok (.aload 6, 2) := by decide +kernel
theorem dX10_sweep_85 : decode cX10_sweep 85 = .ok (.iload_n 1, 1) := by decide +kernel
theorem dX10_sweep_86 : decode cX10_sweep 86 = .ok (.iload 7, 2) := by decide +kernel
theorem dX10_sweep_88 : decode cX10_sweep 88 = .ok (.iastore, 1) := by decide +kernel
theorem dX10_sweep_89 : decode cX10_sweep 89 = .ok (.aload 6, 2) := by decide +kernel
theorem dX10_sweep_91 : decode cX10_sweep 91 = .ok (.iload_n 2, 1) := by decide +kernel
theorem dX10_sweep_92 : decode cX10_sweep 92 = .ok (.iload_n 3, 1) := by decide +kernel
theorem dX10_sweep_93 : decode cX10_sweep 93 = .ok (.iload 7, 2) := by decide +kernel
theorem dX10_sweep_95 : decode cX10_sweep 95 = .ok (.isub, 1) := by decide +kernel
theorem dX10_sweep_96 : decode cX10_sweep 96 = .ok (.iastore, 1) := by decide +kernel
theorem dX10_sweep_97 : decode cX10_sweep 97 = .ok (.aload_n 0, 1) := by decide +kernel
theorem dX10_sweep_98 : decode cX10_sweep 98 = .ok (.iload 5, 2) := by decide +kernel
theorem dX10_sweep_100 : decode cX10_sweep 100 = .ok (.aload 6, 2) := by decide +kernel
theorem dX10_sweep_102 : decode cX10_sweep 102 = .ok (.iload 4, 2) := by decide +kernel
theorem dX10_sweep_104 : decode cX10_sweep 104 = .ok (.invokevirtual 428, 3) := by decide +kernel
theorem dX10_sweep_107 : decode cX10_sweep 107 = .ok (.iconst 1, 1) := by decide +kernel
theorem dX10_sweep_108 : decode cX10_sweep 108 = .ok (.istore 8, 2) := by decide +kernel
theorem dX10_sweep_110 : decode cX10_sweep 110 = .ok (.iconst 0, 1) := by decide +kernel
theorem dX10_sweep_111 : decode cX10_sweep 111 = .ok (.istore 9, 2) := by decide +kernel
theorem dX10_sweep_113 : decode cX10_sweep 113 = .ok (.iload 9, 2) := by decide +kernel
theorem dX10_sweep_115 : decode cX10_sweep 115 = .ok (.iload 5, 2) := by decide +kernel
theorem dX10_sweep_117 : decode cX10_sweep 117 = .ok (.if_icmp .ge 32, 3) := by decide +kernel
theorem dX10_sweep_120 : decode cX10_sweep 120 = .ok (.iload 8, 2) := by decide +kernel
theorem dX10_sweep_122 : decode cX10_sweep 122 = .ok (.ifCond .eq 18, 3) := by decide +kernel
theorem dX10_sweep_125 : decode cX10_sweep 125 = .ok (.aload_n 0, 1) := by decide +kernel
theorem dX10_sweep_126 : decode cX10_sweep 126 = .ok (.iload 9, 2) := by decide +kernel
theorem dX10_sweep_128 : decode cX10_sweep 128 = .ok (.iload 5, 2) := by decide +kernel
theorem dX10_sweep_130 : decode cX10_sweep 130 = .ok (.invokevirtual 438, 3) := by decide +kernel
theorem dX10_sweep_133 : decode cX10_sweep 133 = .ok (.ifCond .ne 7, 3) := by decide +kernel
theorem dX10_sweep_136 : decode cX10_sweep 136 = .ok (.iconst 1, 1) := by decide +kernel
theorem dX10_sweep_137 : decode cX10_sweep 137 = .ok (.goto 4, 3) := by decide +kernel
theorem dX10_sweep_140 : decode cX10_sweep 140 = .ok (.iconst 0, 1) := by decide +kernel
theorem dX10_sweep_141 : decode cX10_sweep 141 = .ok (.istore 8, 2) := by decide +kernel
theorem dX10_sweep_143 : decode cX10_sweep 143 = .ok (.iinc 9 1, 3) := by decide +kernel
theorem dX10_sweep_146 : decode cX10_sweep 146 = .ok (.goto (-33), 3) := by decide +kernel
theorem dX10_sweep_149 : decode cX10_sweep 149 = .ok (.iload 5, 2) := by decide +kernel
theorem dX10_sweep_151 : decode cX10_sweep 151 = .ok (.iload 8, 2) := by decide +kernel
theorem dX10_sweep_153 : decode cX10_sweep 153 = .ok (.ifCond .eq 7, 3) := by decide +kernel
theorem dX10_sweep_156 : decode cX10_sweep 156 = .ok (.iconst 1, 1) := by decide +kernel
theorem dX10_sweep_157 : decode cX10_sweep 157 = .ok (.goto 4, 3) := by decide +kernel
theorem dX10_sweep_160 : decode cX10_sweep 160 = .ok (.iconst 0, 1) := by decide +kernel
theorem dX10_sweep_161 : decode cX10_sweep 161 = .ok (.iadd, 1) := by decide +kernel
theorem dX10_sweep_162 : decode cX10_sweep 162 = .ok (.istore 5, 2) := by decide +kernel
theorem dX10_sweep_164 : decode cX10_sweep 164 = .ok (.iinc 7 1, 3) := by decide +kernel
theorem dX10_sweep_167 : decode cX10_sweep 167 = .ok (.goto (-90), 3) := by decide +kernel
theorem dX10_sweep_170 : decode cX10_sweep 170 = .ok (.iload 5, 2) := by decide +kernel
theorem dX10_sweep_172 : decode cX10_sweep 172 = .ok (.bipush 12, 2) := by decide +kernel
theorem dX10_sweep_174 : decode cX10_sweep 174 = .ok (.if_icmp .le 9, 3) := by decide +kernel
theorem dX10_sweep_177 : decode cX10_sweep 177 = .ok (.aload_n 0, 1) := by decide +kernel
theorem dX10_sweep_178 : decode cX10_sweep 178 = .ok (.iconst 3, 1) := by decide +kernel
theorem dX10_sweep_179 : decode cX10_sweep 179 = .ok (.invokevirtual 146, 3) := by decide +kernel
theorem dX10_sweep_182 : decode cX10_sweep 182 = .ok (.ireturn, 1) := by decide +kernel
theorem dX10_sweep_183 : decode cX10_sweep 183 = .ok (.aload_n 0, 1) := by decide +kernel
theorem dX10_sweep_184 : decode cX10_sweep 184 = .ok (.getfield 216, 3) := by decide +kernel
theorem dX10_sweep_187 : decode cX10_sweep 187 = .ok (.istore 7, 2) := by decide +kernel
theorem dX10_sweep_189 : decode cX10_sweep 189 = .ok (.aload_n 0, 1) := by decide +kernel
theorem dX10_sweep_190 : decode cX10_sweep 190 = .ok (.iload 5, 2) := by decide +kernel
theorem dX10_sweep_192 : decode cX10_sweep 192 = .ok (.putfield 216, 3) := by decide +kernel
theorem dX10_sweep_195 : decode cX10_sweep 195 = .ok (.iload 5, 2) := by decide +kernel
theorem dX10_sweep_197 : decode cX10_sweep 197 = .ok (.iload 7, 2) := by decide +kernel
theorem dX10_sweep_199 : decode cX10_sweep 199 = .ok (.isub, 1) := by decide +kernel
theorem dX10_sweep_200 : decode cX10_sweep 200 = .ok (.ireturn, 1) := by decide +kernel
theorem dX10_mixOf_0 : decode cX10_mixOf 0 = .ok (.iload_n 3, 1) := by decide +kernel
theorem dX10_mixOf_1 : decode cX10_mixOf 1 = .ok (.i2l, 1) := by decide +kernel
theorem dX10_mixOf_2 : decode cX10_mixOf 2 = .ok (.aload_n 0, 1) := by decide +kernel
theorem dX10_mixOf_3 : decode cX10_mixOf 3 = .ok (.getfield 113, 3) := by decide +kernel
theorem dX10_mixOf_6 : decode cX10_mixOf 6 = .ok (.iconst 3, 1) := by decide +kernel
theorem dX10_mixOf_7 : decode cX10_mixOf 7 = .ok (.iload_n 1, 1) := by decide +kernel
theorem dX10_mixOf_8 : decode cX10_mixOf 8 = .ok (.imul, 1) := by decide +kernel
theorem dX10_mixOf_9 : decode cX10_mixOf 9 = .ok (.iload 4, 2) := by decide +kernel
theorem dX10_mixOf_11 : decode cX10_mixOf 11 = .ok (.iadd, 1) := by decide +kernel
theorem dX10_mixOf_12 : decode cX10_mixOf 12 = .ok (.laload, 1) := by decide +kernel
theorem dX10_mixOf_13 : decode cX10_mixOf 13 = .ok (.lmul, 1) := by decide +kernel
theorem dX10_mixOf_14 : decode cX10_mixOf 14 = .ok (.bipush 100, 2) := by decide +kernel
theorem dX10_mixOf_16 : decode cX10_mixOf 16 = .ok (.iload_n 3, 1) := by decide +kernel
theorem dX10_mixOf_17 : decode cX10_mixOf 17 = .ok (.isub, 1) := by decide +kernel
theorem dX10_mixOf_18 : decode cX10_mixOf 18 = .ok (.i2l, 1) := by decide +kernel
theorem dX10_mixOf_19 : decode cX10_mixOf 19 = .ok (.aload_n 0, 1) := by decide +kernel
theorem dX10_mixOf_20 : decode cX10_mixOf 20 = .ok (.getfield 113, 3) := by decide +kernel
theorem dX10_mixOf_23 : decode cX10_mixOf 23 = .ok (.iconst 3, 1) := by decide +kernel
theorem dX10_mixOf_24 : decode cX10_mixOf 24 = .ok (.iload_n 2, 1) := by decide +kernel
theorem dX10_mixOf_25 : decode cX10_mixOf 25 = .ok (.imul, 1) := by decide +kernel
theorem dX10_mixOf_26 : decode cX10_mixOf 26 = .ok (.iload 4, 2) := by decide +kernel
theorem dX10_mixOf_28 : decode cX10_mixOf 28 = .ok (.iadd, 1) := by decide +kernel
theorem dX10_mixOf_29 : decode cX10_mixOf 29 = .ok (.laload, 1) := by decide +kernel
theorem dX10_mixOf_30 : decode cX10_mixOf 30 = .ok (.lmul, 1) := by decide +kernel
theorem dX10_mixOf_31 : decode cX10_mixOf 31 = .ok (.ladd, 1) := by decide +kernel
theorem dX10_mixOf_32 : decode cX10_mixOf 32 = .ok (.ldc2_w 328, 3) := by decide +kernel
theorem dX10_mixOf_35 : decode cX10_mixOf 35 = .ok (.ldiv, 1) := by decide +kernel
theorem dX10_mixOf_36 : decode cX10_mixOf 36 = .ok (.lreturn, 1) := by decide +kernel
theorem dX10_mix_0 : decode cX10_mix 0 = .ok (.aload_n 0, 1) := by decide +kernel
theorem dX10_mix_1 : decode cX10_mix 1 = .ok (.aload_n 0, 1) := by decide +kernel
theorem dX10_mix_2 : decode cX10_mix 2 = .ok (.iload_n 1, 1) := by decide +kernel
theorem dX10_mix_3 : decode cX10_mix 3 = .ok (.invokevirtual 432, 3) := by decide +kernel
theorem dX10_mix_6 : decode cX10_mix 6 = .ok (.ifCond .eq 20, 3) := by decide +kernel
theorem dX10_mix_9 : decode cX10_mix 9 = .ok (.aload_n 0, 1) := by decide +kernel
theorem dX10_mix_10 : decode cX10_mix 10 = .ok (.iload_n 2, 1) := by decide +kernel
theorem dX10_mix_11 : decode cX10_mix 11 = .ok (.invokevirtual 432, 3) := by decide +kernel
theorem dX10_mix_14 : decode cX10_mix 14 = .ok (.ifCond .eq 12, 3) := by decide +kernel
theorem dX10_mix_17 : decode cX10_mix 17 = .ok (.aload_n 0, 1) := by decide +kernel
theorem dX10_mix_18 : decode cX10_mix 18 = .ok (.iload 4, 2) := by decide +kernel
theorem dX10_mix_20 : decode cX10_mix 20 = .ok (.invokevirtual 419, 3) := by decide +kernel
theorem dX10_mix_23 : decode cX10_mix 23 = .ok (.ifCond .ne 7, 3) := by decide +kernel
theorem dX10_mix_26 : decode cX10_mix 26 = .ok (.iconst 1, 1) := by decide +kernel
theorem dX10_mix_27 : decode cX10_mix 27 = .ok (.goto 20, 3) := by decide +kernel
theorem dX10_mix_30 : decode cX10_mix 30 = .ok (.iload_n 3, 1) := by decide +kernel
theorem dX10_mix_31 : decode cX10_mix 31 = .ok (.i2l, 1) := by decide +kernel
theorem dX10_mix_32 : decode cX10_mix 32 = .ok (.lconst 0, 1) := by decide +kernel
theorem dX10_mix_33 : decode cX10_mix 33 = .ok (.ldc2_w 328, 3) := by decide +kernel
theorem dX10_mix_36 : decode cX10_mix 36 = .ok (.invokestatic 154, 3) := by decide +kernel
theorem dX10_mix_39 : decode cX10_mix 39 = .ok (.ifCond .eq 7, 3) := by decide +kernel
theorem dX10_mix_42 : decode cX10_mix 42 = .ok (.iconst 0, 1) := by decide +kernel
theorem dX10_mix_43 : decode cX10_mix 43 = .ok (.goto 4, 3) := by decide +kernel
theorem dX10_mix_46 : decode cX10_mix 46 = .ok (.iconst 2, 1) := by decide +kernel
theorem dX10_mix_47 : decode cX10_mix 47 = .ok (.putfield 140, 3) := by decide +kernel
theorem dX10_mix_50 : decode cX10_mix 50 = .ok (.aload_n 0, 1) := by decide +kernel
theorem dX10_mix_51 : decode cX10_mix 51 = .ok (.getfield 140, 3) := by decide +kernel
theorem dX10_mix_54 : decode cX10_mix 54 = .ok (.ifCond .ne 15, 3) := by decide +kernel
theorem dX10_mix_57 : decode cX10_mix 57 = .ok (.aload_n 0, 1) := by decide +kernel
theorem dX10_mix_58 : decode cX10_mix 58 = .ok (.iload_n 1, 1) := by decide +kernel
theorem dX10_mix_59 : decode cX10_mix 59 = .ok (.iload_n 2, 1) := by decide +kernel
theorem dX10_mix_60 : decode cX10_mix 60 = .ok (.iload_n 3, 1) := by decide +kernel
theorem dX10_mix_61 : decode cX10_mix 61 = .ok (.iload 4, 2) := by decide +kernel
theorem dX10_mix_63 : decode cX10_mix 63 = .ok (.invokevirtual 441, 3) := by decide +kernel
theorem dX10_mix_66 : decode cX10_mix 66 = .ok (.goto 4, 3) := by decide +kernel
theorem dX10_mix_69 : decode cX10_mix 69 = .ok (.lconst 0, 1) := by decide +kernel
theorem dX10_mix_70 : decode cX10_mix 70 = .ok (.lreturn, 1) := by decide +kernel
theorem dX10_bestMix_0 : decode cX10_bestMix 0 = .ok (.aload_n 0, 1) := by decide +kernel
theorem dX10_bestMix_1 : decode cX10_bestMix 1 = .ok (.iconst 0, 1) := by decide +kernel
theorem dX10_bestMix_2 : decode cX10_bestMix 2 = .ok (.putfield 140, 3) := by decide +kernel
theorem dX10_bestMix_5 : decode cX10_bestMix 5 = .ok (.aload_n 0, 1) := by decide +kernel
theorem dX10_bestMix_6 : decode cX10_bestMix 6 = .ok (.iload_n 1, 1) := by decide +kernel
theorem dX10_bestMix_7 : decode cX10_bestMix 7 = .ok (.invokevirtual 419, 3) := by decide +kernel
theorem dX10_bestMix_10 : decode cX10_bestMix 10 = .ok (.ifCond .eq 11, 3) := by decide +kernel
theorem dX10_bestMix_13 : decode cX10_bestMix 13 = .ok (.aload_n 0, 1) := by decide +kernel
theorem dX10_bestMix_14 : decode cX10_bestMix 14 = .ok (.iload_n 2, 1) := by decide +kernel
theorem dX10_bestMix_15 : decode cX10_bestMix 15 = .ok (.invokevirtual 419, 3) := by decide +kernel
theorem dX10_bestMix_18 : decode cX10_bestMix 18 = .ok (.ifCond .ne 9, 3) := by decide +kernel
theorem dX10_bestMix_21 : decode cX10_bestMix 21 = .ok (.aload_n 0, 1) := by decide +kernel
theorem dX10_bestMix_22 : decode cX10_bestMix 22 = .ok (.iconst 1, 1) := by decide +kernel
theorem dX10_bestMix_23 : decode cX10_bestMix 23 = .ok (.invokevirtual 146, 3) := by decide +kernel
theorem dX10_bestMix_26 : decode cX10_bestMix 26 = .ok (.ireturn, 1) := by decide +kernel
theorem dX10_bestMix_27 : decode cX10_bestMix 27 = .ok (.iconst (-1), 1) := by decide +kernel
theorem dX10_bestMix_28 : decode cX10_bestMix 28 = .ok (.istore 5, 2) := by decide +kernel
theorem dX10_bestMix_30 : decode cX10_bestMix 30 = .ok (.lconst 0, 1) := by decide +kernel
theorem dX10_bestMix_31 : decode cX10_bestMix 31 = .ok (.lstore 6, 2) := by decide +kernel
theorem dX10_bestMix_33 : decode cX10_bestMix 33 = .ok (.iconst 0, 1) := by decide +kernel
theorem dX10_bestMix_34 : decode cX10_bestMix 34 = .ok (.istore 8, 2) := by decide +kernel
theorem dX10_bestMix_36 : decode cX10_bestMix 36 = .ok (.iload 8, 2) := by decide +kernel
theorem dX10_bestMix_38 : decode cX10_bestMix 38 = .ok (.aload_n 0, 1) := by decide +kernel
theorem dX10_bestMix_39 : decode cX10_bestMix 39 = .ok (.getfield 216, 3) := by decide +kernel
theorem dX10_bestMix_42 : decode cX10_bestMix 42 = .ok (.if_icmp .ge 117, 3) := by decide +kernel
theorem dX10_bestMix_45 : decode cX10_bestMix 45 = .ok (.iload 8, 2) := by decide +kernel
theorem dX10_bestMix_47 : decode cX10_bestMix 47 = .ok (.istore 9, 2) := by decide +kernel
theorem dX10_bestMix_49 : decode cX10_bestMix 49 = .ok (.iload 9, 2) := by decide +kernel
theorem dX10_bestMix_51 : decode cX10_bestMix 51 = .ok (.aload_n 0, 1) := by decide +kernel
theorem dX10_bestMix_52 : decode cX10_bestMix 52 = .ok (.getfield 216, 3) := by decide +kernel
theorem dX10_bestMix_55 : decode cX10_bestMix 55 = .ok (.if_icmp .ge 98, 3) := by decide +kernel
theorem dX10_bestMix_58 : decode cX10_bestMix 58 = .ok (.iconst 0, 1) := by decide +kernel
theorem dX10_bestMix_59 : decode cX10_bestMix 59 = .ok (.istore 10, 2) := by decide +kernel
theorem dX10_bestMix_61 : decode cX10_bestMix 61 = .ok (.iload 10, 2) := by decide +kernel
theorem dX10_bestMix_63 : decode cX10_bestMix 63 = .ok (.bipush 100, 2) := by decide +kernel
theorem dX10_bestMix_65 : decode cX10_bestMix 65 = .ok (.if_icmp .gt 82, 3) := by decide +kernel
theorem dX10_bestMix_68 : decode cX10_bestMix 68 = .ok (.aload_n 0, 1) := by decide +kernel
theorem dX10_bestMix_69 : decode cX10_bestMix 69 = .ok (.iload 8, 2) := by decide +kernel
theorem dX10_bestMix_71 : decode cX10_bestMix 71 = .ok (.iload 9, 2) := by decide +kernel
theorem dX10_bestMix_73 : decode cX10_bestMix 73 = .ok (.iload 10, 2) := by decide +kernel
theorem dX10_bestMix_75 : decode cX10_bestMix 75 = .ok (.iload_n 2, 1) := by decide +kernel
theorem dX10_bestMix_76 : decode cX10_bestMix 76 = .ok (.invokevirtual 441, 3) := by decide +kernel
theorem dX10_bestMix_79 : decode cX10_bestMix 79 = .ok (.lload_n 3, 1) := by decide +kernel
theorem dX10_bestMix_80 : decode cX10_bestMix 80 = .ok (.lcmp, 1) := by decide +kernel
theorem dX10_bestMix_81 : decode cX10_bestMix 81 = .ok (.ifCond .lt 60, 3) := by decide +kernel
theorem dX10_bestMix_84 : decode cX10_bestMix 84 = .ok (.iload 5, 2) := by decide +kernel
theorem dX10_bestMix_86 : decode cX10_bestMix 86 = .ok (.iconst (-1), 1) := by decide +kernel
theorem dX10_bestMix_87 : decode cX10_bestMix 87 = .ok (.if_icmp .eq 23, 3) := by decide +kernel
theorem dX10_bestMix_90 : decode cX10_bestMix 90 = .ok (.aload_n 0, 1) := by decide +kernel
theorem dX10_bestMix_91 : decode cX10_bestMix 91 = .ok (.iload 8, 2) := by decide +kernel
theorem dX10_bestMix_93 : decode cX10_bestMix 93 = .ok (.iload 9, 2) := by decide +kernel
theorem dX10_bestMix_95 : decode cX10_bestMix 95 = .ok (.iload 10, 2) := by decide +kernel
theorem dX10_bestMix_97 : decode cX10_bestMix 97 = .ok (.iload_n 1, 1) := by decide +kernel
theorem dX10_bestMix_98 : decode cX10_bestMix 98 = .ok (.invokevirtual 441, 3) := by decide +kernel
theorem dX10_bestMix_101 : decode cX10_bestMix 101 = .ok (.lload 6, 2) := by decide +kernel
theorem dX10_bestMix_103 : decode cX10_bestMix 103 = .ok (.lcmp, 1) := by decide +kernel
theorem dX10_bestMix_104 : decode cX10_bestMix 104 = .ok (.ifCond .gt 6, 3) := by decide +kernel
theorem dX10_bestMix_107 : decode cX10_bestMix 107 = .ok (.goto 34, 3) := by decide +kernel
theorem dX10_bestMix_110 : decode cX10_bestMix 110 = .ok (.ldc_w 445, 3) := by decide +kernel
theorem dX10_bestMix_113 : decode cX10_bestMix 113 = .ok (.iload 8, 2) := by decide +kernel
theorem dX10_bestMix_115 : decode cX10_bestMix 115 = .ok (.imul, 1) := by decide +kernel
theorem dX10_bestMix_116 : decode cX10_bestMix 116 = .ok (.sipush 1000, 3) := by decide +kernel
theorem dX10_bestMix_119 : decode cX10_bestMix 119 = .ok (.iload 9, 2) := by decide +kernel
theorem dX10_bestMix_121 : decode cX10_bestMix 121 = .ok (.imul, 1) := by decide +kernel
theorem dX10_bestMix_122 : decode cX10_bestMix 122 = .ok (.iadd, 1) := by decide +kernel
theorem dX10_bestMix_123 : decode cX10_bestMix 123 = .ok (.iload 10, 2) := by decide +kernel
theorem dX10_bestMix_125 : decode cX10_bestMix 125 = .ok (.iadd, 1) := by decide +kernel
theorem dX10_bestMix_126 : decode cX10_bestMix 126 = .ok (.istore 5, 2) := by decide +kernel
theorem dX10_bestMix_128 : decode cX10_bestMix 128 = .ok (.aload_n 0, 1) := by decide +kernel
theorem dX10_bestMix_129 : decode cX10_bestMix 129 = .ok (.iload 8, 2) := by decide +kernel
theorem dX10_bestMix_131 : decode cX10_bestMix 131 = .ok (.iload 9, 2) := by decide +kernel
theorem dX10_bestMix_133 : decode cX10_bestMix 133 = .ok (.iload 10, 2) := by decide +kernel
theorem dX10_bestMix_135 : decode cX10_bestMix 135 = .ok (.iload_n 1, 1) := by decide +kernel
theorem dX10_bestMix_136 : decode cX10_bestMix 136 = .ok (.invokevirtual 441, 3) := by decide +kernel
theorem dX10_bestMix_139 : decode cX10_bestMix 139 = .ok (.lstore 6, 2) := by decide +kernel
theorem dX10_bestMix_141 : decode cX10_bestMix 141 = .ok (.iinc 10 1, 3) := by decide +kernel
theorem dX10_bestMix_144 : decode cX10_bestMix 144 = .ok (.goto (-83), 3) := by decide +kernel
theorem dX10_bestMix_147 : decode cX10_bestMix 147 = .ok (.iinc 9 1, 3) := by decide +kernel
theorem dX10_bestMix_150 : decode cX10_bestMix 150 = .ok (.goto (-101), 3) := by decide +kernel
theorem dX10_bestMix_153 : decode cX10_bestMix 153 = .ok (.iinc 8 1, 3) := by decide +kernel
theorem dX10_bestMix_156 : decode cX10_bestMix 156 = .ok (.goto (-120), 3) := by decide +kernel
theorem dX10_bestMix_159 : decode cX10_bestMix 159 = .ok (.iload 5, 2) := by decide +kernel
theorem dX10_bestMix_161 : decode cX10_bestMix 161 = .ok (.ireturn, 1) := by decide +kernel
theorem dX10_drop_0 : decode cX10_drop 0 = .ok (.aload_n 0, 1) := by decide +kernel
theorem dX10_drop_1 : decode cX10_drop 1 = .ok (.iconst 0, 1) := by decide +kernel
theorem dX10_drop_2 : decode cX10_drop 2 = .ok (.putfield 140, 3) := by decide +kernel
theorem dX10_drop_5 : decode cX10_drop 5 = .ok (.aload_n 0, 1) := by decide +kernel
theorem dX10_drop_6 : decode cX10_drop 6 = .ok (.iload_n 1, 1) := by decide +kernel
theorem dX10_drop_7 : decode cX10_drop 7 = .ok (.invokevirtual 432, 3) := by decide +kernel
theorem dX10_drop_10 : decode cX10_drop 10 = .ok (.ifCond .ne 9, 3) := by decide +kernel
theorem dX10_drop_13 : decode cX10_drop 13 = .ok (.aload_n 0, 1) := by decide +kernel
theorem dX10_drop_14 : decode cX10_drop 14 = .ok (.iconst 1, 1) := by decide +kernel
theorem dX10_drop_15 : decode cX10_drop 15 = .ok (.invokevirtual 146, 3) := by decide +kernel
theorem dX10_drop_18 : decode cX10_drop 18 = .ok (.ireturn, 1) := by decide +kernel
theorem dX10_drop_19 : decode cX10_drop 19 = .ok (.aload_n 0, 1) := by decide +kernel
theorem dX10_drop_20 : decode cX10_drop 20 = .ok (.dup, 1) := by decide +kernel
theorem dX10_drop_21 : decode cX10_drop 21 = .ok (.getfield 216, 3) := by decide +kernel
theorem dX10_drop_24 : decode cX10_drop 24 = .ok (.iconst 1, 1) := by decide +kernel
theorem dX10_drop_25 : decode cX10_drop 25 = .ok (.isub, 1) := by decide +kernel
theorem dX10_drop_26 : decode cX10_drop 26 = .ok (.putfield 216, 3) := by decide +kernel
theorem dX10_drop_29 : decode cX10_drop 29 = .ok (.aload_n 0, 1) := by decide +kernel
theorem dX10_drop_30 : decode cX10_drop 30 = .ok (.getfield 216, 3) := by decide +kernel
theorem dX10_drop_33 : decode cX10_drop 33 = .ok (.iload_n 1, 1) := by decide +kernel
theorem dX10_drop_34 : decode cX10_drop 34 = .ok (.isub, 1) := by decide +kernel
theorem dX10_drop_35 : decode cX10_drop 35 = .ok (.istore_n 2, 1) := by decide +kernel
theorem dX10_drop_36 : decode cX10_drop 36 = .ok (.aload_n 0, 1) := by decide +kernel
theorem dX10_drop_37 : decode cX10_drop 37 = .ok (.getfield 103, 3) := by decide +kernel
theorem dX10_drop_40 : decode cX10_drop 40 = .ok (.iload_n 1, 1) := by decide +kernel
theorem dX10_drop_41 : decode cX10_drop 41 = .ok (.iconst 1, 1) := by decide +kernel
theorem dX10_drop_42 : decode cX10_drop 42 = .ok (.iadd, 1) := by decide +kernel
theorem dX10_drop_43 : decode cX10_drop 43 = .ok (.aload_n 0, 1) := by decide +kernel
theorem dX10_drop_44 : decode cX10_drop 44 = .ok (.getfield 103, 3) := by decide +kernel
theorem dX10_drop_47 : decode cX10_drop 47 = .ok (.iload_n 1, 1) := by decide +kernel
theorem dX10_drop_48 : decode cX10_drop 48 = .ok (.iload_n 2, 1) := by decide +kernel
theorem dX10_drop_49 : decode cX10_drop 49 = .ok (.invokestatic 383, 3) := by decide +kernel
theorem dX10_drop_52 : decode cX10_drop 52 = .ok (.aload_n 0, 1) := by decide +kernel
theorem dX10_drop_53 : decode cX10_drop 53 = .ok (.getfield 116, 3) := by decide +kernel
theorem dX10_drop_56 : decode cX10_drop 56 = .ok (.iload_n 1, 1) := by decide +kernel
theorem dX10_drop_57 : decode cX10_drop 57 = .ok (.iconst 1, 1) := by decide +kernel
theorem dX10_drop_58 : decode cX10_drop 58 = .ok (.iadd, 1) := by decide +kernel
theorem dX10_drop_59 : decode cX10_drop 59 = .ok (.aload_n 0, 1) := by decide +kernel
theorem dX10_drop_60 : decode cX10_drop 60 = .ok (.getfield 116, 3) := by decide +kernel
theorem dX10_drop_63 : decode cX10_drop 63 = .ok (.iload_n 1, 1) := by decide +kernel
theorem dX10_drop_64 : decode cX10_drop 64 = .ok (.iload_n 2, 1) := by decide +kernel
theorem dX10_drop_65 : decode cX10_drop 65 = .ok (.invokestatic 383, 3) := by decide +kernel
theorem dX10_drop_68 : decode cX10_drop 68 = .ok (.aload_n 0, 1) := by decide +kernel
theorem dX10_drop_69 : decode cX10_drop 69 = .ok (.getfield 113, 3) := by decide +kernel
theorem dX10_drop_72 : decode cX10_drop 72 = .ok (.iconst 3, 1) := by decide +kernel
theorem dX10_drop_73 : decode cX10_drop 73 = .ok (.iload_n 1, 1) := by decide +kernel
theorem dX10_drop_74 : decode cX10_drop 74 = .ok (.iconst 1, 1) := by decide +kernel
theorem dX10_drop_75 : decode cX10_drop 75 = .ok (.iadd, 1) := by decide +kernel
theorem dX10_drop_76 : decode cX10_drop 76 = .ok (.imul, 1) := by decide +kernel
theorem dX10_drop_77 : decode cX10_drop 77 = .ok (.aload_n 0, 1) := by decide +kernel
theorem dX10_drop_78 : decode cX10_drop 78 = .ok (.getfield 113, 3) := by decide +kernel
theorem dX10_drop_81 : decode cX10_drop 81 = .ok (.iconst 3, 1) := by decide +kernel
theorem dX10_drop_82 : decode cX10_drop 82 = .ok (.iload_n 1, 1) := by decide +kernel
theorem dX10_drop_83 : decode cX10_drop 83 = .ok (.imul, 1) := by decide +kernel
theorem dX10_drop_84 : decode cX10_drop 84 = .ok (.iconst 3, 1) := by decide +kernel
theorem dX10_drop_85 : decode cX10_drop 85 = .ok (.iload_n 2, 1) := by decide +kernel
theorem dX10_drop_86 : decode cX10_drop 86 = .ok (.imul, 1) := by decide +kernel
theorem dX10_drop_87 : decode cX10_drop 87 = .ok (.invokestatic 383, 3) := by decide +kernel
theorem dX10_drop_90 : decode cX10_drop 90 = .ok (.aload_n 0, 1) := by decide +kernel
theorem dX10_drop_91 : decode cX10_drop 91 = .ok (.getfield 107, 3) := by decide +kernel
theorem dX10_drop_94 : decode cX10_drop 94 = .ok (.sipush 3100, 3) := by decide +kernel
theorem dX10_drop_97 : decode cX10_drop 97 = .ok (.iload_n 1, 1) := by decide +kernel
theorem dX10_drop_98 : decode cX10_drop 98 = .ok (.iconst 1, 1) := by decide +kernel
theorem dX10_drop_99 : decode cX10_drop 99 = .ok (.iadd, 1) := by decide +kernel
theorem dX10_drop_100 : decode cX10_drop 100 = .ok (.imul, 1) := by decide +kernel
theorem dX10_drop_101 : decode cX10_drop 101 = .ok (.aload_n 0, 1) := by decide +kernel
theorem dX10_drop_102 : decode cX10_drop 102 = .ok (.getfield 107, 3) := by decide +kernel
theorem dX10_drop_105 : decode cX10_drop 105 = .ok (.sipush 3100, 3) := by decide +kernel
theorem dX10_drop_108 : decode cX10_drop 108 = .ok (.iload_n 1, 1) := by decide +kernel
theorem dX10_drop_109 : decode cX10_drop 109 = .ok (.imul, 1) := by decide +kernel
theorem dX10_drop_110 : decode cX10_drop 110 = .ok (.sipush 3100, 3) := by decide +kernel
theorem dX10_drop_113 : decode cX10_drop 113 = .ok (.iload_n 2, 1) := by decide +kernel
theorem dX10_drop_114 : decode cX10_drop 114 = .ok (.imul, 1) := by decide +kernel
theorem dX10_drop_115 : decode cX10_drop 115 = .ok (.invokestatic 383, 3) := by decide +kernel
theorem dX10_drop_118 : decode cX10_drop 118 = .ok (.aload_n 0, 1) := by decide +kernel
theorem dX10_drop_119 : decode cX10_drop 119 = .ok (.getfield 110, 3) := by decide +kernel
theorem dX10_drop_122 : decode cX10_drop 122 = .ok (.sipush 3100, 3) := by decide +kernel
theorem dX10_drop_125 : decode cX10_drop 125 = .ok (.iload_n 1, 1) := by decide +kernel
theorem dX10_drop_126 : decode cX10_drop 126 = .ok (.iconst 1, 1) := by decide +kernel
theorem dX10_drop_127 : decode cX10_drop 127 = .ok (.iadd, 1) := by decide +kernel
theorem dX10_drop_128 : decode cX10_drop 128 = .ok (.imul, 1) := by decide +kernel
theorem dX10_drop_129 : decode cX10_drop 129 = .ok (.aload_n 0, 1) := by decide +kernel
theorem dX10_drop_130 : decode cX10_drop 130 = .ok (.getfield 110, 3) := by decide +kernel
theorem dX10_drop_133 : decode cX10_drop 133 = .ok (.sipush 3100, 3) := by decide +kernel
theorem dX10_drop_136 : decode cX10_drop 136 = .ok (.iload_n 1, 1) := by decide +kernel
theorem dX10_drop_137 : decode cX10_drop 137 = .ok (.imul, 1) := by decide +kernel
theorem dX10_drop_138 : decode cX10_drop 138 = .ok (.sipush 3100, 3) := by decide +kernel
theorem dX10_drop_141 : decode cX10_drop 141 = .ok (.iload_n 2, 1) := by decide +kernel
theorem dX10_drop_142 : decode cX10_drop 142 = .ok (.imul, 1) := by decide +kernel
theorem dX10_drop_143 : decode cX10_drop 143 = .ok (.invokestatic 383, 3) := by decide +kernel
theorem dX10_drop_146 : decode cX10_drop 146 = .ok (.aload_n 0, 1) := by decide +kernel
theorem dX10_drop_147 : decode cX10_drop 147 = .ok (.getfield 216, 3) := by decide +kernel
theorem dX10_drop_150 : decode cX10_drop 150 = .ok (.ireturn, 1) := by decide +kernel
theorem dX10_reach_0 : decode cX10_reach 0 = .ok (.aload_n 0, 1) := by decide +kernel
theorem dX10_reach_1 : decode cX10_reach 1 = .ok (.iconst 0, 1) := by decide +kernel
theorem dX10_reach_2 : decode cX10_reach 2 = .ok (.putfield 140, 3) := by decide +kernel
theorem dX10_reach_5 : decode cX10_reach 5 = .ok (.iload_n 1, 1) := by decide +kernel
theorem dX10_reach_6 : decode cX10_reach 6 = .ok (.i2l, 1) := by decide +kernel
theorem dX10_reach_7 : decode cX10_reach 7 = .ok (.lconst 0, 1) := by decide +kernel
theorem dX10_reach_8 : decode cX10_reach 8 = .ok (.ldc2_w 426, 3) := by decide +kernel
theorem dX10_reach_11 : decode cX10_reach 11 = .ok (.invokestatic 154, 3) := by decide +kernel
theorem dX10_reach_14 : decode cX10_reach 14 = .ok (.ifCond .ne 9, 3) := by decide +kernel
theorem dX10_reach_17 : decode cX10_reach 17 = .ok (.aload_n 0, 1) := by decide +kernel
theorem dX10_reach_18 : decode cX10_reach 18 = .ok (.iconst 1, 1) := by decide +kernel
theorem dX10_reach_19 : decode cX10_reach 19 = .ok (.invokevirtual 146, 3) := by decide +kernel
theorem dX10_reach_22 : decode cX10_reach 22 = .ok (.ireturn, 1) := by decide +kernel
theorem dX10_reach_23 : decode cX10_reach 23 = .ok (.aload_n 0, 1) := by decide +kernel
theorem dX10_reach_24 : decode cX10_reach 24 = .ok (.getfield 213, 3) := by decide +kernel
theorem dX10_reach_27 : decode cX10_reach 27 = .ok (.ifCond .ne 9, 3) := by decide +kernel
theorem dX10_reach_30 : decode cX10_reach 30 = .ok (.aload_n 0, 1) := by decide +kernel
theorem dX10_reach_31 : decode cX10_reach 31 = .ok (.iconst 2, 1) := by decide +kernel
theorem dX10_reach_32 : decode cX10_reach 32 = .ok (.invokevirtual 146, 3) := by decide +kernel
theorem dX10_reach_35 : decode cX10_reach 35 = .ok (.ireturn, 1) := by decide +kernel
theorem dX10_reach_36 : decode cX10_reach 36 = .ok (.iconst 0, 1) := by decide +kernel
theorem dX10_reach_37 : decode cX10_reach 37 = .ok (.istore_n 3, 1) := by decide +kernel
theorem dX10_reach_38 : decode cX10_reach 38 = .ok (.iload_n 3, 1) := by decide +kernel
theorem dX10_reach_39 : decode cX10_reach 39 = .ok (.aload_n 0, 1) := by decide +kernel
theorem dX10_reach_40 : decode cX10_reach 40 = .ok (.getfield 213, 3) := by decide +kernel
theorem dX10_reach_43 : decode cX10_reach 43 = .ok (.if_icmp .ge 31, 3) := by decide +kernel
theorem dX10_reach_46 : decode cX10_reach 46 = .ok (.aload_n 0, 1) := by decide +kernel
theorem dX10_reach_47 : decode cX10_reach 47 = .ok (.getfield 122, 3) := by decide +kernel
theorem dX10_reach_50 : decode cX10_reach 50 = .ok (.iload_n 3, 1) := by decide +kernel
theorem dX10_reach_51 : decode cX10_reach 51 = .ok (.aload_n 0, 1) := by decide +kernel
theorem dX10_reach_52 : decode cX10_reach 52 = .ok (.getfield 78, 3) := by decide +kernel
theorem dX10_reach_55 : decode cX10_reach 55 = .ok (.iload_n 3, 1) := by decide +kernel
theorem dX10_reach_56 : decode cX10_reach 56 = .ok (.baload, 1) := by decide +kernel
theorem dX10_reach_57 : decode cX10_reach 57 = .ok (.ifCond .eq 9, 3) := by decide +kernel
theorem dX10_reach_60 : decode cX10_reach 60 = .ok (.ldc2_w 417, 3) := by decide +kernel
theorem dX10_reach_63 : decode cX10_reach 63 = .ok (.goto 4, 3) := by decide +kernel
theorem dX10_reach_66 : decode cX10_reach 66 = .ok (.lconst 0, 1) := by decide +kernel
theorem dX10_reach_67 : decode cX10_reach 67 = .ok (.lastore, 1) := by decide +kernel
theorem dX10_reach_68 : decode cX10_reach 68 = .ok (.iinc 3 1, 3) := by decide +kernel
theorem dX10_reach_71 : decode cX10_reach 71 = .ok (.goto (-33), 3) := by decide +kernel
theorem dX10_reach_74 : decode cX10_reach 74 = .ok (.iconst 1, 1) := by decide +kernel
theorem dX10_reach_75 : decode cX10_reach 75 = .ok (.istore_n 3, 1) := by decide +kernel
theorem dX10_reach_76 : decode cX10_reach 76 = .ok (.iload_n 3, 1) := by decide +kernel
theorem dX10_reach_77 : decode cX10_reach 77 = .ok (.iload_n 1, 1) := by decide +kernel
theorem dX10_reach_78 : decode cX10_reach 78 = .ok (.if_icmp .gt 155, 3) := by decide +kernel
theorem dX10_reach_81 : decode cX10_reach 81 = .ok (.iconst 0, 1) := by decide +kernel
theorem dX10_reach_82 : decode cX10_reach 82 = .ok (.istore 4, 2) := by decide +kernel
theorem dX10_reach_84 : decode cX10_reach 84 = .ok (.iload 4, 2) := by decide +kernel
theorem dX10_reach_86 : decode cX10_reach 86 = .ok (.aload_n 0, 1) := by decide +kernel
theorem dX10_reach_87 : decode cX10_reach 87 = .ok (.getfield 213, 3) := by decide +kernel
theorem dX10_reach_90 : decode cX10_reach 90 = .ok (.if_icmp .ge 120, 3) := by decide +kernel
theorem dX10_reach_93 : decode cX10_reach 93 = .ok (.aload_n 0, 1) := by decide +kernel
theorem dX10_reach_94 : decode cX10_reach 94 = .ok (.getfield 119, 3) := by decide +kernel
theorem dX10_reach_97 : decode cX10_reach 97 = .ok (.iload 4, 2) := by decide +kernel
theorem dX10_reach_99 : decode cX10_reach 99 = .ok (.aload_n 0, 1) := by decide +kernel
theorem dX10_reach_100 : decode cX10_reach 100 = .ok (.getfield 78, 3) := by decide +kernel
theorem dX10_reach_103 : decode cX10_reach 103 = .ok (.iload 4, 2) := by decide +kernel
theorem dX10_reach_105 : decode cX10_reach 105 = .ok (.baload, 1) := by decide +kernel
theorem dX10_reach_106 : decode cX10_reach 106 = .ok (.ifCond .eq 9, 3) := by decide +kernel
theorem dX10_reach_109 : decode cX10_reach 109 = .ok (.ldc2_w 417, 3) := by decide +kernel
theorem dX10_reach_112 : decode cX10_reach 112 = .ok (.goto 4, 3) := by decide +kernel
theorem dX10_reach_115 : decode cX10_reach 115 = .ok (.lconst 0, 1) := by decide +kernel
theorem dX10_reach_116 : decode cX10_reach 116 = .ok (.lastore, 1) := by decide +kernel
theorem dX10_reach_117 : decode cX10_reach 117 = .ok (.iconst 0, 1) := by decide +kernel
theorem dX10_reach_118 : decode cX10_reach 118 = .ok (.istore 5, 2) := by decide +kernel
theorem dX10_reach_120 : decode cX10_reach 120 = .ok (.iload 5, 2) := by decide +kernel
theorem dX10_reach_122 : decode cX10_reach 122 = .ok (.aload_n 0, 1) := by decide +kernel
theorem dX10_reach_123 : decode cX10_reach 123 = .ok (.getfield 82, 3) := by decide +kernel
theorem dX10_reach_126 : decode cX10_reach 126 = .ok (.iload 4, 2) := by decide +kernel
theorem dX10_reach_128 : decode cX10_reach 128 = .ok (.iaload, 1) := by decide +kernel
theorem dX10_reach_129 : decode cX10_reach 129 = .ok (.if_icmp .ge 75, 3) := by decide +kernel
theorem dX10_reach_132 : decode cX10_reach 132 = .ok (.aload_n 0, 1) := by decide +kernel
theorem dX10_reach_133 : decode cX10_reach 133 = .ok (.bipush 16, 2) := by decide +kernel
theorem dX10_reach_135 : decode cX10_reach 135 = .ok (.iload 4, 2) := by decide +kernel
theorem dX10_reach_137 : decode cX10_reach 137 = .ok (.imul, 1) := by decide +kernel
theorem dX10_reach_138 : decode cX10_reach 138 = .ok (.iload 5, 2) := by decide +kernel
theorem dX10_reach_140 : decode cX10_reach 140 = .ok (.iadd, 1) := by decide +kernel
theorem dX10_reach_141 : decode cX10_reach 141 = .ok (.aload_n 0, 1) := by decide +kernel
theorem dX10_reach_142 : decode cX10_reach 142 = .ok (.getfield 122, 3) := by decide +kernel
theorem dX10_reach_145 : decode cX10_reach 145 = .ok (.iconst 0, 1) := by decide +kernel
theorem dX10_reach_146 : decode cX10_reach 146 = .ok (.invokevirtual 410, 3) := by decide +kernel
theorem dX10_reach_149 : decode cX10_reach 149 = .ok (.lstore 6, 2) := by decide +kernel
theorem dX10_reach_151 : decode cX10_reach 151 = .ok (.iload 5, 2) := by decide +kernel
theorem dX10_reach_153 : decode cX10_reach 153 = .ok (.ifCond .eq 36, 3) := by decide +kernel
theorem dX10_reach_156 : decode cX10_reach 156 = .ok (.iload_n 2, 1) := by decide +kernel
theorem dX10_reach_157 : decode cX10_reach 157 = .ok (.ifCond .eq 19, 3) := by decide +kernel
theorem dX10_reach_160 : decode cX10_reach 160 = .ok (.lload 6, 2) := by decide +kernel
theorem dX10_reach_162 : decode cX10_reach 162 = .ok (.aload_n 0, 1) := by decide +kernel
theorem dX10_reach_163 : decode cX10_reach 163 = .ok (.getfield 119, 3) := by decide +kernel
theorem dX10_reach_166 : decode cX10_reach 166 = .ok (.iload 4, 2) := by decide +kernel
theorem dX10_reach_168 : decode cX10_reach 168 = .ok (.laload, 1) := by decide +kernel
theorem dX10_reach_169 : decode cX10_reach 169 = .ok (.lcmp, 1) := by decide +kernel
theorem dX10_reach_170 : decode cX10_reach 170 = .ok (.ifCond .ge 28, 3) := by decide +kernel
theorem dX10_reach_173 : decode cX10_reach 173 = .ok (.goto 16, 3) := by decide +kernel
theorem dX10_reach_176 : decode cX10_reach 176 = .ok (.lload 6, 2) := by decide +kernel
theorem dX10_reach_178 : decode cX10_reach 178 = .ok (.aload_n 0, 1) := by decide +kernel
theorem dX10_reach_179 : decode cX10_reach 179 = .ok (.getfield 119, 3) := by decide +kernel
theorem dX10_reach_182 : decode cX10_reach 182 = .ok (.iload 4, 2) := by decide +kernel
theorem dX10_reach_184 : decode cX10_reach 184 = .ok (.laload, 1) := by decide +kernel
theorem dX10_reach_185 : decode cX10_reach 185 = .ok (.lcmp, 1) := by decide +kernel
theorem dX10_reach_186 : decode cX10_reach 186 = .ok (.ifCond .le 12, 3) := by decide +kernel
theorem dX10_reach_189 : decode cX10_reach 189 = .ok (.aload_n 0, 1) := by decide +kernel
theorem dX10_reach_190 : decode cX10_reach 190 = .ok (.getfield 119, 3) := by decide +kernel
theorem dX10_reach_193 : decode cX10_reach 193 = .ok (.iload 4, 2) := by decide +kernel
theorem dX10_reach_195 : decode cX10_reach 195 = .ok (.lload 6, 2) := by decide +kernel
theorem dX10_reach_197 : decode cX10_reach 197 = .ok (.lastore, 1) := by decide +kernel
theorem dX10_reach_198 : decode cX10_reach 198 = .ok (.iinc 5 1, 3) := by decide +kernel
theorem dX10_reach_201 : decode cX10_reach 201 = .ok (.goto (-81), 3) := by decide +kernel
theorem dX10_reach_204 : decode cX10_reach 204 = .ok (.iinc 4 1, 3) := by decide +kernel
theorem dX10_reach_207 : decode cX10_reach 207 = .ok (.goto (-123), 3) := by decide +kernel
theorem dX10_reach_210 : decode cX10_reach 210 = .ok (.aload_n 0, 1) := by decide +kernel
theorem dX10_reach_211 : decode cX10_reach 211 = .ok (.getfield 119, 3) := by decide +kernel
theorem dX10_reach_214 : decode cX10_reach 214 = .ok (.iconst 0, 1) := by decide +kernel
theorem dX10_reach_215 : decode cX10_reach 215 = .ok (.aload_n 0, 1) := by decide +kernel
theorem dX10_reach_216 : decode cX10_reach 216 = .ok (.getfield 122, 3) := by decide +kernel
theorem dX10_reach_219 : decode cX10_reach 219 = .ok (.iconst 0, 1) := by decide +kernel
theorem dX10_reach_220 : decode cX10_reach 220 = .ok (.aload_n 0, 1) := by decide +kernel
theorem dX10_reach_221 : decode cX10_reach 221 = .ok (.getfield 213, 3) := by decide +kernel
theorem dX10_reach_224 : decode cX10_reach 224 = .ok (.invokestatic 383, 3) := by decide +kernel
theorem dX10_reach_227 : decode cX10_reach 227 = .ok (.iinc 3 1, 3) := by decide +kernel
theorem dX10_reach_230 : decode cX10_reach 230 = .ok (.goto (-154), 3) := by decide +kernel
theorem dX10_reach_233 : decode cX10_reach 233 = .ok (.aload_n 0, 1) := by decide +kernel
theorem dX10_reach_234 : decode cX10_reach 234 = .ok (.getfield 122, 3) := by decide +kernel
theorem dX10_reach_237 : decode cX10_reach 237 = .ok (.iconst 0, 1) := by decide +kernel
theorem dX10_reach_238 : decode cX10_reach 238 = .ok (.laload, 1) := by decide +kernel
theorem dX10_reach_239 : decode cX10_reach 239 = .ok (.l2i, 1) := by decide +kernel
theorem dX10_reach_240 : decode cX10_reach 240 = .ok (.ireturn, 1) := by decide +kernel
theorem dX10_seed_0 : decode cX10_seed 0 = .ok (.aload_n 0, 1) := by decide +kernel
theorem dX10_seed_1 : decode cX10_seed 1 = .ok (.iconst 0, 1) := by decide +kernel
theorem dX10_seed_2 : decode cX10_seed 2 = .ok (.putfield 140, 3) := by decide +kernel
theorem dX10_seed_5 : decode cX10_seed 5 = .ok (.aload_n 0, 1) := by decide +kernel
theorem dX10_seed_6 : decode cX10_seed 6 = .ok (.getfield 446, 3) := by decide +kernel
theorem dX10_seed_9 : decode cX10_seed 9 = .ok (.lstore_n 3, 1) := by decide +kernel
theorem dX10_seed_10 : decode cX10_seed 10 = .ok (.aload_n 0, 1) := by decide +kernel
theorem dX10_seed_11 : decode cX10_seed 11 = .ok (.lload_n 1, 1) := by decide +kernel
theorem dX10_seed_12 : decode cX10_seed 12 = .ok (.putfield 446, 3) := by decide +kernel
theorem dX10_seed_15 : decode cX10_seed 15 = .ok (.lload_n 3, 1) := by decide +kernel
theorem dX10_seed_16 : decode cX10_seed 16 = .ok (.lreturn, 1) := by decide +kernel
theorem dX10_playOne_0 : decode cX10_playOne 0 = .ok (.iconst 0, 1) := by decide +kernel
theorem dX10_playOne_1 : decode cX10_playOne 1 = .ok (.istore_n 2, 1) := by decide +kernel
theorem dX10_playOne_2 : decode cX10_playOne 2 = .ok (.iload_n 2, 1) := by decide +kernel
theorem dX10_playOne_3 : decode cX10_playOne 3 = .ok (.iconst 3, 1) := by decide +kernel
theorem dX10_playOne_4 : decode cX10_playOne 4 = .ok (.if_icmp .gt 16, 3) := by decide +kernel
theorem dX10_playOne_7 : decode cX10_playOne 7 = .ok (.aload_n 0, 1) := by decide +kernel
theorem dX10_playOne_8 : decode cX10_playOne 8 = .ok (.getfield 125, 3) := by decide +kernel
theorem dX10_playOne_11 : decode cX10_playOne 11 = .ok (.iload_n 2, 1) := by decide +kernel
theorem dX10_playOne_12 : decode cX10_playOne 12 = .ok (.lconst 0, 1) := by decide +kernel
theorem dX10_playOne_13 : decode cX10_playOne 13 = .ok (.lastore, 1) := by decide +kernel
theorem dX10_playOne_14 : decode cX10_playOne 14 = .ok (.iinc 2 1, 3) := by decide +kernel
theorem dX10_playOne_17 : decode cX10_playOne 17 = .ok (.goto (-15), 3) := by decide +kernel
theorem dX10_playOne_20 : decode cX10_playOne 20 = .ok (.iconst 0, 1) := by decide +kernel
theorem dX10_playOne_21 : decode cX10_playOne 21 = .ok (.istore_n 2, 1) := by decide +kernel
theorem dX10_playOne_22 : decode cX10_playOne 22 = .ok (.aload_n 0, 1) := by decide +kernel
theorem dX10_playOne_23 : decode cX10_playOne 23 = .ok (.getfield 103, 3) := by decide +kernel
theorem dX10_playOne_26 : decode cX10_playOne 26 = .ok (.iload_n 1, 1) := by decide +kernel
theorem dX10_playOne_27 : decode cX10_playOne 27 = .ok (.iaload, 1) := by decide +kernel
theorem dX10_playOne_28 : decode cX10_playOne 28 = .ok (.istore_n 3, 1) := by decide +kernel
theorem dX10_playOne_29 : decode cX10_playOne 29 = .ok (.iload_n 3, 1) := by decide +kernel
theorem dX10_playOne_30 : decode cX10_playOne 30 = .ok (.ifCond .le 176, 3) := by decide +kernel
theorem dX10_playOne_33 : decode cX10_playOne 33 = .ok (.aload_n 0, 1) := by decide +kernel
theorem dX10_playOne_34 : decode cX10_playOne 34 = .ok (.getfield 82, 3) := by decide +kernel
theorem dX10_playOne_37 : decode cX10_playOne 37 = .ok (.iload_n 2, 1) := by decide +kernel
theorem dX10_playOne_38 : decode cX10_playOne 38 = .ok (.iaload, 1) := by decide +kernel
theorem dX10_playOne_39 : decode cX10_playOne 39 = .ok (.ifCond .le 167, 3) := by decide +kernel
theorem dX10_playOne_42 : decode cX10_playOne 42 = .ok (.bipush 16, 2) := by decide +kernel
theorem dX10_playOne_44 : decode cX10_playOne 44 = .ok (.iload_n 2, 1) := by decide +kernel
theorem dX10_playOne_45 : decode cX10_playOne 45 = .ok (.imul, 1) := by decide +kernel
theorem dX10_playOne_46 : decode cX10_playOne 46 = .ok (.aload_n 0, 1) := by decide +kernel
theorem dX10_playOne_47 : decode cX10_playOne 47 = .ok (.getfield 107, 3) := by decide +kernel
theorem dX10_playOne_50 : decode cX10_playOne 50 = .ok (.sipush 3100, 3) := by decide +kernel
theorem dX10_playOne_53 : decode cX10_playOne 53 = .ok (.iload_n 1, 1) := by decide +kernel
theorem dX10_playOne_54 : decode cX10_playOne 54 = .ok (.imul, 1) := by decide +kernel
theorem dX10_playOne_55 : decode cX10_playOne 55 = .ok (.bipush 100, 2) := by decide +kernel
theorem dX10_playOne_57 : decode cX10_playOne 57 = .ok (.iload_n 3, 1) := by decide +kernel
theorem dX10_playOne_58 : decode cX10_playOne 58 = .ok (.imul, 1) := by decide +kernel
theorem dX10_playOne_59 : decode cX10_playOne 59 = .ok (.iadd, 1) := by decide +kernel
theorem dX10_playOne_60 : decode cX10_playOne 60 = .ok (.iload_n 2, 1) := by decide +kernel
theorem dX10_playOne_61 : decode cX10_playOne 61 = .ok (.iadd, 1) := by decide +kernel
theorem dX10_playOne_62 : decode cX10_playOne 62 = .ok (.iaload, 1) := by decide +kernel
theorem dX10_playOne_63 : decode cX10_playOne 63 = .ok (.iadd, 1) := by decide +kernel
theorem dX10_playOne_64 : decode cX10_playOne 64 = .ok (.istore 4, 2) := by decide +kernel
theorem dX10_playOne_66 : decode cX10_playOne 66 = .ok (.iconst 0, 1) := by decide +kernel
theorem dX10_playOne_67 : decode cX10_playOne 67 = .ok (.istore 5, 2) := by decide +kernel
theorem dX10_playOne_69 : decode cX10_playOne 69 = .ok (.iload 5, 2) := by decide +kernel
theorem dX10_playOne_71 : decode cX10_playOne 71 = .ok (.aload_n 0, 1) := by decide +kernel
theorem dX10_playOne_72 : decode cX10_playOne 72 = .ok (.getfield 201, 3) := by decide +kernel
theorem dX10_playOne_75 : decode cX10_playOne 75 = .ok (.if_icmp .ge 33, 3) := by decide +kernel
theorem dX10_playOne_78 : decode cX10_playOne 78 = .ok (.aload_n 0, 1) := by decide +kernel
theorem dX10_playOne_79 : decode cX10_playOne 79 = .ok (.getfield 125, 3) := by decide +kernel
theorem dX10_playOne_82 : decode cX10_playOne 82 = .ok (.iconst 1, 1) := by decide +kernel
theorem dX10_playOne_83 : decode cX10_playOne 83 = .ok (.iload 5, 2) := by decide +kernel
theorem dX10_playOne_85 : decode cX10_playOne 85 = .ok (.iadd, 1) := by decide +kernel
theorem dX10_playOne_86 : decode cX10_playOne 86 = .ok (.dup2, 1) := by decide +kernel
theorem dX10_playOne_87 : decode cX10_playOne 87 = .ok (.laload, 1) := by decide +kernel
theorem dX10_playOne_88 : decode cX10_playOne 88 = .ok (.aload_n 0, 1) := by decide +kernel
theorem dX10_playOne_89 : decode cX10_playOne 89 = .ok (.getfield 88, 3) := by decide +kernel
theorem dX10_playOne_92 : decode cX10_playOne 92 = .ok (.iconst 3, 1) := by decide +kernel
theorem dX10_playOne_93 : decode cX10_playOne 93 = .ok (.iload 4, 2) := by decide +kernel
theorem dX10_playOne_95 : decode cX10_playOne 95 = .ok (.imul, 1) := by decide +kernel
theorem dX10_playOne_96 : decode cX10_playOne 96 = .ok (.iload 5, 2) := by decide +kernel
theorem dX10_playOne_98 : decode cX10_playOne 98 = .ok (.iadd, 1) := by decide +kernel
theorem dX10_playOne_99 : decode cX10_playOne 99 = .ok (.laload, 1) := by decide +kernel
theorem dX10_playOne_100 : decode cX10_playOne 100 = .ok (.ladd, 1) := by decide +kernel
theorem dX10_playOne_101 : decode cX10_playOne 101 = .ok (.lastore, 1) := by decide +kernel
theorem dX10_playOne_102 : decode cX10_playOne 102 = .ok (.iinc 5 1, 3) := by decide +kernel
theorem dX10_playOne_105 : decode cX10_playOne 105 = .ok (.goto (-36), 3) := by decide +kernel
theorem dX10_playOne_108 : decode cX10_playOne 108 = .ok (.aload_n 0, 1) := by decide +kernel
theorem dX10_playOne_109 : decode cX10_playOne 109 = .ok (.getfield 125, 3) := by decide +kernel
theorem dX10_playOne_112 : decode cX10_playOne 112 = .ok (.iconst 0, 1) := by decide +kernel
theorem dX10_playOne_113 : decode cX10_playOne 113 = .ok (.dup2, 1) := by decide +kernel
theorem dX10_playOne_114 : decode cX10_playOne 114 = .ok (.laload, 1) := by decide +kernel
theorem dX10_playOne_115 : decode cX10_playOne 115 = .ok (.lconst 1, 1) := by decide +kernel
theorem dX10_playOne_116 : decode cX10_playOne 116 = .ok (.ladd, 1) := by decide +kernel
theorem dX10_playOne_117 : decode cX10_playOne 117 = .ok (.lastore, 1) := by decide +kernel
theorem dX10_playOne_118 : decode cX10_playOne 118 = .ok (.aload_n 0, 1) := by decide +kernel
theorem dX10_playOne_119 : decode cX10_playOne 119 = .ok (.aload_n 0, 1) := by decide +kernel
theorem dX10_playOne_120 : decode cX10_playOne 120 = .ok (.getfield 446, 3) := by decide +kernel
theorem dX10_playOne_123 : decode cX10_playOne 123 = .ok (.ldc2_w 449, 3) := by decide +kernel
theorem dX10_playOne_126 : decode cX10_playOne 126 = .ok (.lmul, 1) := by decide +kernel
theorem dX10_playOne_127 : decode cX10_playOne 127 = .ok (.ldc2_w 451, 3) := by decide +kernel
theorem dX10_playOne_130 : decode cX10_playOne 130 = .ok (.ladd, 1) := by decide +kernel
theorem dX10_playOne_131 : decode cX10_playOne 131 = .ok (.putfield 446, 3) := by decide +kernel
theorem dX10_playOne_134 : decode cX10_playOne 134 = .ok (.aload_n 0, 1) := by decide +kernel
theorem dX10_playOne_135 : decode cX10_playOne 135 = .ok (.getfield 446, 3) := by decide +kernel
theorem dX10_playOne_138 : decode cX10_playOne 138 = .ok (.bipush 33, 2) := by decide +kernel
theorem dX10_playOne_140 : decode cX10_playOne 140 = .ok (.lushr, 1) := by decide +kernel
theorem dX10_playOne_141 : decode cX10_playOne 141 = .ok (.ldc2_w 328, 3) := by decide +kernel
theorem dX10_playOne_144 : decode cX10_playOne 144 = .ok (.lrem, 1) := by decide +kernel
theorem dX10_playOne_145 : decode cX10_playOne 145 = .ok (.lstore 5, 2) := by decide +kernel
theorem dX10_playOne_147 : decode cX10_playOne 147 = .ok (.iconst 0, 1) := by decide +kernel
theorem dX10_playOne_148 : decode cX10_playOne 148 = .ok (.istore 7, 2) := by decide +kernel
theorem dX10_playOne_150 : decode cX10_playOne 150 = .ok (.aload_n 0, 1) := by decide +kernel
theorem dX10_playOne_151 : decode cX10_playOne 151 = .ok (.iload 4, 2) := by decide +kernel
theorem dX10_playOne_153 : decode cX10_playOne 153 = .ok (.iconst 0, 1) := by decide +kernel
theorem dX10_playOne_154 : decode cX10_playOne 154 = .ok (.invokevirtual 405, 3) := by decide +kernel
theorem dX10_playOne_157 : decode cX10_playOne 157 = .ok (.istore 8, 2) := by decide +kernel
theorem dX10_playOne_159 : decode cX10_playOne 159 = .ok (.iload 8, 2) := by decide +kernel
theorem dX10_playOne_161 : decode cX10_playOne 161 = .ok (.i2l, 1) := by decide +kernel
theorem dX10_playOne_162 : decode cX10_playOne 162 = .ok (.lload 5, 2) := by decide +kernel
theorem dX10_playOne_164 : decode cX10_playOne 164 = .ok (.lcmp, 1) := by decide +kernel
theorem dX10_playOne_165 : decode cX10_playOne 165 = .ok (.ifCond .gt 22, 3) := by decide +kernel
theorem dX10_playOne_168 : decode cX10_playOne 168 = .ok (.iinc 7 1, 3) := by decide +kernel
theorem dX10_playOne_171 : decode cX10_playOne 171 = .ok (.iload 8, 2) := by decide +kernel
theorem dX10_playOne_173 : decode cX10_playOne 173 = .ok (.aload_n 0, 1) := by decide +kernel
theorem dX10_playOne_174 : decode cX10_playOne 174 = .ok (.iload 4, 2) := by decide +kernel
theorem dX10_playOne_176 : decode cX10_playOne 176 = .ok (.iload 7, 2) := by decide +kernel
theorem dX10_playOne_178 : decode cX10_playOne 178 = .ok (.invokevirtual 405, 3) := by decide +kernel
theorem dX10_playOne_181 : decode cX10_playOne 181 = .ok (.iadd, 1) := by decide +kernel
theorem dX10_playOne_182 : decode cX10_playOne 182 = .ok (.istore 8, 2) := by decide +kernel
theorem dX10_playOne_184 : decode cX10_playOne 184 = .ok (.goto (-25), 3) := by decide +kernel
theorem dX10_playOne_187 : decode cX10_playOne 187 = .ok (.aload_n 0, 1) := by decide +kernel
theorem dX10_playOne_188 : decode cX10_playOne 188 = .ok (.getfield 91, 3) := by decide +kernel
theorem dX10_playOne_191 : decode cX10_playOne 191 = .ok (.iconst 4, 1) := by decide +kernel
theorem dX10_playOne_192 : decode cX10_playOne 192 = .ok (.iload 4, 2) := by decide +kernel
theorem dX10_playOne_194 : decode cX10_playOne 194 = .ok (.imul, 1) := by decide +kernel
theorem dX10_playOne_195 : decode cX10_playOne 195 = .ok (.iload 7, 2) := by decide +kernel
theorem dX10_playOne_197 : decode cX10_playOne 197 = .ok (.iadd, 1) := by decide +kernel
theorem dX10_playOne_198 : decode cX10_playOne 198 = .ok (.iaload, 1) := by decide +kernel
theorem dX10_playOne_199 : decode cX10_playOne 199 = .ok (.istore_n 2, 1) := by decide +kernel
theorem dX10_playOne_200 : decode cX10_playOne 200 = .ok (.iinc 3 (-1), 3) := by decide +kernel
theorem dX10_playOne_203 : decode cX10_playOne 203 = .ok (.goto (-174), 3) := by decide +kernel
theorem dX10_playOne_206 : decode cX10_playOne 206 = .ok (.iload_n 2, 1) := by decide +kernel
theorem dX10_playOne_207 : decode cX10_playOne 207 = .ok (.ireturn, 1) := by decide +kernel
theorem dX10_play_0 : decode cX10_play 0 = .ok (.aload_n 0, 1) := by decide +kernel
theorem dX10_play_1 : decode cX10_play 1 = .ok (.iconst 0, 1) := by decide +kernel
theorem dX10_play_2 : decode cX10_play 2 = .ok (.putfield 140, 3) := by decide +kernel
theorem dX10_play_5 : decode cX10_play 5 = .ok (.aload_n 0, 1) := by decide +kernel
theorem dX10_play_6 : decode cX10_play 6 = .ok (.iload_n 1, 1) := by decide +kernel
theorem dX10_play_7 : decode cX10_play 7 = .ok (.invokevirtual 432, 3) := by decide +kernel
theorem dX10_play_10 : decode cX10_play 10 = .ok (.ifCond .eq 11, 3) := by decide +kernel
theorem dX10_play_13 : decode cX10_play 13 = .ok (.aload_n 0, 1) := by decide +kernel
theorem dX10_play_14 : decode cX10_play 14 = .ok (.iload_n 1, 1) := by decide +kernel
theorem dX10_play_15 : decode cX10_play 15 = .ok (.invokevirtual 453, 3) := by decide +kernel
theorem dX10_play_18 : decode cX10_play 18 = .ok (.goto 8, 3) := by decide +kernel
theorem dX10_play_21 : decode cX10_play 21 = .ok (.aload_n 0, 1) := by decide +kernel
theorem dX10_play_22 : decode cX10_play 22 = .ok (.iconst 1, 1) := by decide +kernel
theorem dX10_play_23 : decode cX10_play 23 = .ok (.invokevirtual 146, 3) := by decide +kernel
theorem dX10_play_26 : decode cX10_play 26 = .ok (.ireturn, 1) := by decide +kernel
theorem dX10_played_0 : decode cX10_played 0 = .ok (.aload_n 0, 1) := by decide +kernel
theorem dX10_played_1 : decode cX10_played 1 = .ok (.iload_n 1, 1) := by decide +kernel
theorem dX10_played_2 : decode cX10_played 2 = .ok (.i2l, 1) := by decide +kernel
theorem dX10_played_3 : decode cX10_played 3 = .ok (.lconst 0, 1) := by decide +kernel
theorem dX10_played_4 : decode cX10_played 4 = .ok (.ldc2_w 456, 3) := by decide +kernel
theorem dX10_played_7 : decode cX10_played 7 = .ok (.invokestatic 154, 3) := by decide +kernel
theorem dX10_played_10 : decode cX10_played 10 = .ok (.ifCond .eq 7, 3) := by decide +kernel
theorem dX10_played_13 : decode cX10_played 13 = .ok (.iconst 0, 1) := by decide +kernel
theorem dX10_played_14 : decode cX10_played 14 = .ok (.goto 4, 3) := by decide +kernel
theorem dX10_played_17 : decode cX10_played 17 = .ok (.iconst 1, 1) := by decide +kernel
theorem dX10_played_18 : decode cX10_played 18 = .ok (.putfield 140, 3) := by decide +kernel
theorem dX10_played_21 : decode cX10_played 21 = .ok (.aload_n 0, 1) := by decide +kernel
theorem dX10_played_22 : decode cX10_played 22 = .ok (.getfield 140, 3) := by decide +kernel
theorem dX10_played_25 : decode cX10_played 25 = .ok (.ifCond .ne 12, 3) := by decide +kernel
theorem dX10_played_28 : decode cX10_played 28 = .ok (.aload_n 0, 1) := by decide +kernel
theorem dX10_played_29 : decode cX10_played 29 = .ok (.getfield 125, 3) := by decide +kernel
theorem dX10_played_32 : decode cX10_played 32 = .ok (.iload_n 1, 1) := by decide +kernel
theorem dX10_played_33 : decode cX10_played 33 = .ok (.laload, 1) := by decide +kernel
theorem dX10_played_34 : decode cX10_played 34 = .ok (.goto 4, 3) := by decide +kernel
theorem dX10_played_37 : decode cX10_played 37 = .ok (.lconst 0, 1) := by decide +kernel
theorem dX10_played_38 : decode cX10_played 38 = .ok (.lreturn, 1) := by decide +kernel
theorem dX10_average_0 : decode cX10_average 0 = .ok (.aload_n 0, 1) := by decide +kernel
theorem dX10_average_1 : decode cX10_average 1 = .ok (.aload_n 0, 1) := by decide +kernel
theorem dX10_average_2 : decode cX10_average 2 = .ok (.iload_n 1, 1) := by decide +kernel
theorem dX10_average_3 : decode cX10_average 3 = .ok (.invokevirtual 432, 3) := by decide +kernel
theorem dX10_average_6 : decode cX10_average 6 = .ok (.ifCond .eq 11, 3) := by decide +kernel
theorem dX10_average_9 : decode cX10_average 9 = .ok (.aload_n 0, 1) := by decide +kernel
theorem dX10_average_10 : decode cX10_average 10 = .ok (.iload_n 2, 1) := by decide +kernel
theorem dX10_average_11 : decode cX10_average 11 = .ok (.invokevirtual 419, 3) := by decide +kernel
theorem dX10_average_14 : decode cX10_average 14 = .ok (.ifCond .ne 7, 3) := by decide +kernel
theorem dX10_average_17 : decode cX10_average 17 = .ok (.iconst 1, 1) := by decide +kernel
theorem dX10_average_18 : decode cX10_average 18 = .ok (.goto 20, 3) := by decide +kernel
theorem dX10_average_21 : decode cX10_average 21 = .ok (.iload_n 3, 1) := by decide +kernel
theorem dX10_average_22 : decode cX10_average 22 = .ok (.i2l, 1) := by decide +kernel
theorem dX10_average_23 : decode cX10_average 23 = .ok (.lconst 1, 1) := by decide +kernel
theorem dX10_average_24 : decode cX10_average 24 = .ok (.ldc2_w 458, 3) := by decide +kernel
theorem dX10_average_27 : decode cX10_average 27 = .ok (.invokestatic 154, 3) := by decide +kernel
theorem dX10_average_30 : decode cX10_average 30 = .ok (.ifCond .eq 7, 3) := by decide +kernel
theorem dX10_average_33 : decode cX10_average 33 = .ok (.iconst 0, 1) := by decide +kernel
theorem dX10_average_34 : decode cX10_average 34 = .ok (.goto 4, 3) := by decide +kernel
theorem dX10_average_37 : decode cX10_average 37 = .ok (.iconst 2, 1) := by decide +kernel
theorem dX10_average_38 : decode cX10_average 38 = .ok (.putfield 140, 3) := by decide +kernel
theorem dX10_average_41 : decode cX10_average 41 = .ok (.aload_n 0, 1) := by decide +kernel
theorem dX10_average_42 : decode cX10_average 42 = .ok (.getfield 140, 3) := by decide +kernel
theorem dX10_average_45 : decode cX10_average 45 = .ok (.ifCond .eq 5, 3) := by decide +kernel
theorem dX10_average_48 : decode cX10_average 48 = .ok (.dconst 0, 1) := by decide +kernel
theorem dX10_average_49 : decode cX10_average 49 = .ok (.dreturn, 1) := by decide +kernel
theorem dX10_average_50 : decode cX10_average 50 = .ok (.lconst 0, 1) := by decide +kernel
theorem dX10_average_51 : decode cX10_average 51 = .ok (.lstore 4, 2) := by decide +kernel
theorem dX10_average_53 : decode cX10_average 53 = .ok (.iconst 0, 1) := by decide +kernel
theorem dX10_average_54 : decode cX10_average 54 = .ok (.istore 6, 2) := by decide +kernel
theorem dX10_average_56 : decode cX10_average 56 = .ok (.iload 6, 2) := by decide +kernel
theorem dX10_average_58 : decode cX10_average 58 = .ok (.iload_n 3, 1) := by decide +kernel
theorem dX10_average_59 : decode cX10_average 59 = .ok (.if_icmp .ge 38, 3) := by decide +kernel
theorem dX10_average_62 : decode cX10_average 62 = .ok (.aload_n 0, 1) := by decide +kernel
theorem dX10_average_63 : decode cX10_average 63 = .ok (.iload_n 1, 1) := by decide +kernel
theorem dX10_average_64 : decode cX10_average 64 = .ok (.invokevirtual 453, 3) := by decide +kernel
theorem dX10_average_67 : decode cX10_average 67 = .ok (.istore 7, 2) := by decide +kernel
theorem dX10_average_69 : decode cX10_average 69 = .ok (.lload 4, 2) := by decide +kernel
theorem dX10_average_71 : decode cX10_average 71 = .ok (.iload 7, 2) := by decide +kernel
theorem dX10_average_73 : decode cX10_average 73 = .ok (.ifCond .ge 7, 3) := by decide +kernel
theorem dX10_average_76 : decode cX10_average 76 = .ok (.lconst 0, 1) := by decide +kernel
theorem dX10_average_77 : decode cX10_average 77 = .ok (.goto 11, 3) := by decide +kernel
theorem dX10_average_80 : decode cX10_average 80 = .ok (.aload_n 0, 1) := by decide +kernel
theorem dX10_average_81 : decode cX10_average 81 = .ok (.getfield 125, 3) := by decide +kernel
theorem dX10_average_84 : decode cX10_average 84 = .ok (.iconst 1, 1) := by decide +kernel
theorem dX10_average_85 : decode cX10_average 85 = .ok (.iload_n 2, 1) := by decide +kernel
theorem dX10_average_86 : decode cX10_average 86 = .ok (.iadd, 1) := by decide +kernel
theorem dX10_average_87 : decode cX10_average 87 = .ok (.laload, 1) := by decide +kernel
theorem dX10_average_88 : decode cX10_average 88 = .ok (.ladd, 1) := by decide +kernel
theorem dX10_average_89 : decode cX10_average 89 = .ok (.lstore 4, 2) := by decide +kernel
theorem dX10_average_91 : decode cX10_average 91 = .ok (.iinc 6 1, 3) := by decide +kernel
theorem dX10_average_94 : decode cX10_average 94 = .ok (.goto (-38), 3) := by decide +kernel
theorem dX10_average_97 : decode cX10_average 97 = .ok (.lload 4, 2) := by decide +kernel
theorem dX10_average_99 : decode cX10_average 99 = .ok (.l2d, 1) := by decide +kernel
theorem dX10_average_100 : decode cX10_average 100 = .ok (.iload_n 3, 1) := by decide +kernel
theorem dX10_average_101 : decode cX10_average 101 = .ok (.i2d, 1) := by decide +kernel
theorem dX10_average_102 : decode cX10_average 102 = .ok (.ddiv, 1) := by decide +kernel
theorem dX10_average_103 : decode cX10_average 103 = .ok (.dreturn, 1) := by decide +kernel
theorem dX10_digest_0 : decode cX10_digest 0 = .ok (.aload_n 0, 1) := by decide +kernel
theorem dX10_digest_1 : decode cX10_digest 1 = .ok (.iconst 0, 1) := by decide +kernel
theorem dX10_digest_2 : decode cX10_digest 2 = .ok (.putfield 140, 3) := by decide +kernel
theorem dX10_digest_5 : decode cX10_digest 5 = .ok (.ldc2_w 460, 3) := by decide +kernel
theorem dX10_digest_8 : decode cX10_digest 8 = .ok (.lstore_n 1, 1) := by decide +kernel
theorem dX10_digest_9 : decode cX10_digest 9 = .ok (.iconst 0, 1) := by decide +kernel
theorem dX10_digest_10 : decode cX10_digest 10 = .ok (.istore_n 3, 1) := by decide +kernel
theorem dX10_digest_11 : decode cX10_digest 11 = .ok (.iload_n 3, 1) := by decide +kernel
theorem dX10_digest_12 : decode cX10_digest 12 = .ok (.bipush 6, 2) := by decide +kernel
theorem dX10_digest_14 : decode cX10_digest 14 = .ok (.if_icmp .ge 22, 3) := by decide +kernel
theorem dX10_digest_17 : decode cX10_digest 17 = .ok (.lload_n 1, 1) := by decide +kernel
theorem dX10_digest_18 : decode cX10_digest 18 = .ok (.ldc2_w 462, 3) := by decide +kernel
theorem dX10_digest_21 : decode cX10_digest 21 = .ok (.lmul, 1) := by decide +kernel
theorem dX10_digest_22 : decode cX10_digest 22 = .ok (.aload_n 0, 1) := by decide +kernel
theorem dX10_digest_23 : decode cX10_digest 23 = .ok (.iload_n 3, 1) := by decide +kernel
theorem dX10_digest_24 : decode cX10_digest 24 = .ok (.invokevirtual 356, 3) := by decide +kernel
theorem dX10_digest_27 : decode cX10_digest 27 = .ok (.i2l, 1) := by decide +kernel
theorem dX10_digest_28 : decode cX10_digest 28 = .ok (.ladd, 1) := by decide +kernel
theorem dX10_digest_29 : decode cX10_digest 29 = .ok (.lstore_n 1, 1) := by decide +kernel
theorem dX10_digest_30 : decode cX10_digest 30 = .ok (.iinc 3 1, 3) := by decide +kernel
theorem dX10_digest_33 : decode cX10_digest 33 = .ok (.goto (-22), 3) := by decide +kernel
theorem dX10_digest_36 : decode cX10_digest 36 = .ok (.lload_n 1, 1) := by decide +kernel
theorem dX10_digest_37 : decode cX10_digest 37 = .ok (.ldc2_w 462, 3) := by decide +kernel
theorem dX10_digest_40 : decode cX10_digest 40 = .ok (.lmul, 1) := by decide +kernel
theorem dX10_digest_41 : decode cX10_digest 41 = .ok (.aload_n 0, 1) := by decide +kernel
theorem dX10_digest_42 : decode cX10_digest 42 = .ok (.getfield 446, 3) := by decide +kernel
theorem dX10_digest_45 : decode cX10_digest 45 = .ok (.ladd, 1) := by decide +kernel
theorem dX10_digest_46 : decode cX10_digest 46 = .ok (.lstore_n 1, 1) := by decide +kernel
theorem dX10_digest_47 : decode cX10_digest 47 = .ok (.iconst 0, 1) := by decide +kernel
theorem dX10_digest_48 : decode cX10_digest 48 = .ok (.istore_n 3, 1) := by decide +kernel
theorem dX10_digest_49 : decode cX10_digest 49 = .ok (.iload_n 3, 1) := by decide +kernel
theorem dX10_digest_50 : decode cX10_digest 50 = .ok (.aload_n 0, 1) := by decide +kernel
theorem dX10_digest_51 : decode cX10_digest 51 = .ok (.getfield 201, 3) := by decide +kernel
theorem dX10_digest_54 : decode cX10_digest 54 = .ok (.if_icmp .ge 23, 3) := by decide +kernel
theorem dX10_digest_57 : decode cX10_digest 57 = .ok (.lload_n 1, 1) := by decide +kernel
theorem dX10_digest_58 : decode cX10_digest 58 = .ok (.ldc2_w 462, 3) := by decide +kernel
theorem dX10_digest_61 : decode cX10_digest 61 = .ok (.lmul, 1) := by decide +kernel
theorem dX10_digest_62 : decode cX10_digest 62 = .ok (.aload_n 0, 1) := by decide +kernel
theorem dX10_digest_63 : decode cX10_digest 63 = .ok (.getfield 100, 3) := by decide +kernel
theorem dX10_digest_66 : decode cX10_digest 66 = .ok (.iload_n 3, 1) := by decide +kernel
theorem dX10_digest_67 : decode cX10_digest 67 = .ok (.iaload, 1) := by decide +kernel
theorem dX10_digest_68 : decode cX10_digest 68 = .ok (.i2l, 1) := by decide +kernel
theorem dX10_digest_69 : decode cX10_digest 69 = .ok (.ladd, 1) := by decide +kernel
theorem dX10_digest_70 : decode cX10_digest 70 = .ok (.lstore_n 1, 1) := by decide +kernel
theorem dX10_digest_71 : decode cX10_digest 71 = .ok (.iinc 3 1, 3) := by decide +kernel
theorem dX10_digest_74 : decode cX10_digest 74 = .ok (.goto (-25), 3) := by decide +kernel
theorem dX10_digest_77 : decode cX10_digest 77 = .ok (.iconst 0, 1) := by decide +kernel
theorem dX10_digest_78 : decode cX10_digest 78 = .ok (.istore_n 3, 1) := by decide +kernel
theorem dX10_digest_79 : decode cX10_digest 79 = .ok (.iload_n 3, 1) := by decide +kernel
theorem dX10_digest_80 : decode cX10_digest 80 = .ok (.aload_n 0, 1) := by decide +kernel
theorem dX10_digest_81 : decode cX10_digest 81 = .ok (.getfield 213, 3) := by decide +kernel
theorem dX10_digest_84 : decode cX10_digest 84 = .ok (.if_icmp .ge 60, 3) := by decide +kernel
theorem dX10_digest_87 : decode cX10_digest 87 = .ok (.iconst 0, 1) := by decide +kernel
theorem dX10_digest_88 : decode cX10_digest 88 = .ok (.istore 4, 2) := by decide +kernel
theorem dX10_digest_90 : decode cX10_digest 90 = .ok (.iload 4, 2) := by decide +kernel
theorem dX10_digest_92 : decode cX10_digest 92 = .ok (.aload_n 0, 1) := by decide +kernel
theorem dX10_digest_93 : decode cX10_digest 93 = .ok (.getfield 198, 3) := by decide +kernel
theorem dX10_digest_96 : decode cX10_digest 96 = .ok (.if_icmp .ge 29, 3) := by decide +kernel
theorem dX10_digest_99 : decode cX10_digest 99 = .ok (.lload_n 1, 1) := by decide +kernel
theorem dX10_digest_100 : decode cX10_digest 100 = .ok (.ldc2_w 462, 3) := by decide +kernel
theorem dX10_digest_103 : decode cX10_digest 103 = .ok (.lmul, 1) := by decide +kernel
theorem dX10_digest_104 : decode cX10_digest 104 = .ok (.aload_n 0, 1) := by decide +kernel
theorem dX10_digest_105 : decode cX10_digest 105 = .ok (.getfield 75, 3) := by decide +kernel
theorem dX10_digest_108 : decode cX10_digest 108 = .ok (.bipush 6, 2) := by decide +kernel
theorem dX10_digest_110 : decode cX10_digest 110 = .ok (.iload_n 3, 1) := by decide +kernel
theorem dX10_digest_111 : decode cX10_digest 111 = .ok (.imul, 1) := by decide +kernel
theorem dX10_digest_112 : decode cX10_digest 112 = .ok (.iload 4, 2) := by decide +kernel
theorem dX10_digest_114 : decode cX10_digest 114 = .ok (.iadd, 1) := by decide +kernel
theorem dX10_digest_115 : decode cX10_digest 115 = .ok (.iaload, 1) := by decide +kernel
theorem dX10_digest_116 : decode cX10_digest 116 = .ok (.i2l, 1) := by decide +kernel
theorem dX10_digest_117 : decode cX10_digest 117 = .ok (.ladd, 1) := by decide +kernel
theorem dX10_digest_118 : decode cX10_digest 118 = .ok (.lstore_n 1, 1) := by decide +kernel
theorem dX10_digest_119 : decode cX10_digest 119 = .ok (.iinc 4 1, 3) := by decide +kernel
theorem dX10_digest_122 : decode cX10_digest 122 = .ok (.goto (-32), 3) := by decide +kernel
theorem dX10_digest_125 : decode cX10_digest 125 = .ok (.lload_n 1, 1) := by decide +kernel
theorem dX10_digest_126 : decode cX10_digest 126 = .ok (.ldc2_w 462, 3) := by decide +kernel
theorem dX10_digest_129 : decode cX10_digest 129 = .ok (.lmul, 1) := by decide +kernel
theorem dX10_digest_130 : decode cX10_digest 130 = .ok (.aload_n 0, 1) := by decide +kernel
theorem dX10_digest_131 : decode cX10_digest 131 = .ok (.iload_n 3, 1) := by decide +kernel
theorem dX10_digest_132 : decode cX10_digest 132 = .ok (.invokevirtual 395, 3) := by decide +kernel
theorem dX10_digest_135 : decode cX10_digest 135 = .ok (.i2l, 1) := by decide +kernel
theorem dX10_digest_136 : decode cX10_digest 136 = .ok (.ladd, 1) := by decide +kernel
theorem dX10_digest_137 : decode cX10_digest 137 = .ok (.lstore_n 1, 1) := by decide +kernel
theorem dX10_digest_138 : decode cX10_digest 138 = .ok (.iinc 3 1, 3) := by decide +kernel
theorem dX10_digest_141 : decode cX10_digest 141 = .ok (.goto (-62), 3) := by decide +kernel
theorem dX10_digest_144 : decode cX10_digest 144 = .ok (.iconst 0, 1) := by decide +kernel
theorem dX10_digest_145 : decode cX10_digest 145 = .ok (.istore_n 3, 1) := by decide +kernel
theorem dX10_digest_146 : decode cX10_digest 146 = .ok (.iload_n 3, 1) := by decide +kernel
theorem dX10_digest_147 : decode cX10_digest 147 = .ok (.aload_n 0, 1) := by decide +kernel
theorem dX10_digest_148 : decode cX10_digest 148 = .ok (.getfield 216, 3) := by decide +kernel
theorem dX10_digest_151 : decode cX10_digest 151 = .ok (.if_icmp .ge 122, 3) := by decide +kernel
theorem dX10_digest_154 : decode cX10_digest 154 = .ok (.lload_n 1, 1) := by decide +kernel
theorem dX10_digest_155 : decode cX10_digest 155 = .ok (.ldc2_w 462, 3) := by decide +kernel
theorem dX10_digest_158 : decode cX10_digest 158 = .ok (.lmul, 1) := by decide +kernel
theorem dX10_digest_159 : decode cX10_digest 159 = .ok (.aload_n 0, 1) := by decide +kernel
theorem dX10_digest_160 : decode cX10_digest 160 = .ok (.getfield 103, 3) := by decide +kernel
theorem dX10_digest_163 : decode cX10_digest 163 = .ok (.iload_n 3, 1) := by decide +kernel
theorem dX10_digest_164 : decode cX10_digest 164 = .ok (.iaload, 1) := by decide +kernel
theorem dX10_digest_165 : decode cX10_digest 165 = .ok (.i2l, 1) := by decide +kernel
theorem dX10_digest_166 : decode cX10_digest 166 = .ok (.ladd, 1) := by decide +kernel
theorem dX10_digest_167 : decode cX10_digest 167 = .ok (.lstore_n 1, 1) := by decide +kernel
theorem dX10_digest_168 : decode cX10_digest 168 = .ok (.iconst 0, 1) := by decide +kernel
theorem dX10_digest_169 : decode cX10_digest 169 = .ok (.istore 4, 2) := by decide +kernel
theorem dX10_digest_171 : decode cX10_digest 171 = .ok (.iload 4, 2) := by decide +kernel
theorem dX10_digest_173 : decode cX10_digest 173 = .ok (.aload_n 0, 1) := by decide +kernel
theorem dX10_digest_174 : decode cX10_digest 174 = .ok (.getfield 201, 3) := by decide +kernel
theorem dX10_digest_177 : decode cX10_digest 177 = .ok (.if_icmp .ge 27, 3) := by decide +kernel
theorem dX10_digest_180 : decode cX10_digest 180 = .ok (.lload_n 1, 1) := by decide +kernel
theorem dX10_digest_181 : decode cX10_digest 181 = .ok (.ldc2_w 462, 3) := by decide +kernel
theorem dX10_digest_184 : decode cX10_digest 184 = .ok (.lmul, 1) := by decide +kernel
theorem dX10_digest_185 : decode cX10_digest 185 = .ok (.aload_n 0, 1) := by decide +kernel
theorem dX10_digest_186 : decode cX10_digest 186 = .ok (.getfield 113, 3) := by decide +kernel
theorem dX10_digest_189 : decode cX10_digest 189 = .ok (.iconst 3, 1) := by decide +kernel
theorem dX10_digest_190 : decode cX10_digest 190 = .ok (.iload_n 3, 1) := by decide +kernel
theorem dX10_digest_191 : decode cX10_digest 191 = .ok (.imul, 1) := by decide +kernel
theorem dX10_digest_192 : decode cX10_digest 192 = .ok (.iload 4, 2) := by decide +kernel
theorem dX10_digest_194 : decode cX10_digest 194 = .ok (.iadd, 1) := by decide +kernel
theorem dX10_digest_195 : decode cX10_digest 195 = .ok (.laload, 1) := by decide +kernel
theorem dX10_digest_196 : decode cX10_digest 196 = .ok (.ladd, 1) := by decide +kernel
theorem dX10_digest_197 : decode cX10_digest 197 = .ok (.lstore_n 1, 1) := by decide +kernel
theorem dX10_digest_198 : decode cX10_digest 198 = .ok (.iinc 4 1, 3) := by decide +kernel
theorem dX10_digest_201 : decode cX10_digest 201 = .ok (.goto (-30), 3) := by decide +kernel
theorem dX10_digest_204 : decode cX10_digest 204 = .ok (.lload_n 1, 1) := by decide +kernel
theorem dX10_digest_205 : decode cX10_digest 205 = .ok (.ldc2_w 462, 3) := by decide +kernel
theorem dX10_digest_208 : decode cX10_digest 208 = .ok (.lmul, 1) := by decide +kernel
theorem dX10_digest_209 : decode cX10_digest 209 = .ok (.aload_n 0, 1) := by decide +kernel
theorem dX10_digest_210 : decode cX10_digest 210 = .ok (.getfield 116, 3) := by decide +kernel
theorem dX10_digest_213 : decode cX10_digest 213 = .ok (.iload_n 3, 1) := by decide +kernel
theorem dX10_digest_214 : decode cX10_digest 214 = .ok (.iaload, 1) := by decide +kernel
theorem dX10_digest_215 : decode cX10_digest 215 = .ok (.i2l, 1) := by decide +kernel
theorem dX10_digest_216 : decode cX10_digest 216 = .ok (.ladd, 1) := by decide +kernel
theorem dX10_digest_217 : decode cX10_digest 217 = .ok (.lstore_n 1, 1) := by decide +kernel
theorem dX10_digest_218 : decode cX10_digest 218 = .ok (.iconst 0, 1) := by decide +kernel
theorem dX10_digest_219 : decode cX10_digest 219 = .ok (.istore 4, 2) := by decide +kernel
theorem dX10_digest_221 : decode cX10_digest 221 = .ok (.iload 4, 2) := by decide +kernel
theorem dX10_digest_223 : decode cX10_digest 223 = .ok (.aload_n 0, 1) := by decide +kernel
theorem dX10_digest_224 : decode cX10_digest 224 = .ok (.getfield 213, 3) := by decide +kernel
theorem dX10_digest_227 : decode cX10_digest 227 = .ok (.if_icmp .ge 40, 3) := by decide +kernel
theorem dX10_digest_230 : decode cX10_digest 230 = .ok (.lload_n 1, 1) := by decide +kernel
theorem dX10_digest_231 : decode cX10_digest 231 = .ok (.ldc2_w 462, 3) := by decide +kernel
theorem dX10_digest_234 : decode cX10_digest 234 = .ok (.lmul, 1) := by decide +kernel
theorem dX10_digest_235 : decode cX10_digest 235 = .ok (.aload_n 0, 1) := by decide +kernel
theorem dX10_digest_236 : decode cX10_digest 236 = .ok (.getfield 107, 3) := by decide +kernel
theorem dX10_digest_239 : decode cX10_digest 239 = .ok (.sipush 3100, 3) := by decide +kernel
theorem dX10_digest_242 : decode cX10_digest 242 = .ok (.iload_n 3, 1) := by decide +kernel
theorem dX10_digest_243 : decode cX10_digest 243 = .ok (.imul, 1) := by decide +kernel
theorem dX10_digest_244 : decode cX10_digest 244 = .ok (.bipush 100, 2) := by decide +kernel
theorem dX10_digest_246 : decode cX10_digest 246 = .ok (.aload_n 0, 1) := by decide +kernel
theorem dX10_digest_247 : decode cX10_digest 247 = .ok (.getfield 103, 3) := by decide +kernel
theorem dX10_digest_250 : decode cX10_digest 250 = .ok (.iload_n 3, 1) := by decide +kernel
theorem dX10_digest_251 : decode cX10_digest 251 = .ok (.iaload, 1) := by decide +kernel
theorem dX10_digest_252 : decode cX10_digest 252 = .ok (.imul, 1) := by decide +kernel
theorem dX10_digest_253 : decode cX10_digest 253 = .ok (.iadd, 1) := by decide +kernel
theorem dX10_digest_254 : decode cX10_digest 254 = .ok (.iload 4, 2) := by decide +kernel
theorem dX10_digest_256 : decode cX10_digest 256 = .ok (.iadd, 1) := by decide +kernel
theorem dX10_digest_257 : decode cX10_digest 257 = .ok (.iaload, 1) := by decide +kernel
theorem dX10_digest_258 : decode cX10_digest 258 = .ok (.i2l, 1) := by decide +kernel
theorem dX10_digest_259 : decode cX10_digest 259 = .ok (.ladd, 1) := by decide +kernel
theorem dX10_digest_260 : decode cX10_digest 260 = .ok (.lstore_n 1, 1) := by decide +kernel
theorem dX10_digest_261 : decode cX10_digest 261 = .ok (.iinc 4 1, 3) := by decide +kernel
theorem dX10_digest_264 : decode cX10_digest 264 = .ok (.goto (-43), 3) := by decide +kernel
theorem dX10_digest_267 : decode cX10_digest 267 = .ok (.iinc 3 1, 3) := by decide +kernel
theorem dX10_digest_270 : decode cX10_digest 270 = .ok (.goto (-124), 3) := by decide +kernel
theorem dX10_digest_273 : decode cX10_digest 273 = .ok (.lload_n 1, 1) := by decide +kernel
theorem dX10_digest_274 : decode cX10_digest 274 = .ok (.lreturn, 1) := by decide +kernel
