theorem dX12_init_0 : decode cX12_init 0 = .ok (.aload_n 0, 1) := by decide +kernel
theorem dX12_init_1 : decode cX12_init 1 = .ok (.invokespecial 1, 3) := by decide +kernel
theorem dX12_init_4 : decode cX12_init 4 = .ok (.aload_n 0, 1) := by decide +kernel
theorem dX12_init_5 : decode cX12_init 5 = .ok (.iconst 5, 1) := by decide +kernel
theorem dX12_init_6 : decode cX12_init 6 = .ok (.newarray .int, 2) := by decide +kernel
theorem dX12_init_8 : decode cX12_init 8 = .ok (.putfield 7, 3) := by decide +kernel
theorem dX12_init_11 : decode cX12_init 11 = .ok (.aload_n 0, 1) := by decide +kernel
theorem dX12_init_12 : decode cX12_init 12 = .ok (.iconst 5, 1) := by decide +kernel
theorem dX12_init_13 : decode cX12_init 13 = .ok (.newarray .int, 2) := by decide +kernel
theorem dX12_init_15 : decode cX12_init 15 = .ok (.putfield 13, 3) := by decide +kernel
theorem dX12_init_18 : decode cX12_init 18 = .ok (.aload_n 0, 1) := by decide +kernel
theorem dX12_init_19 : decode cX12_init 19 = .ok (.iconst 5, 1) := by decide +kernel
theorem dX12_init_20 : decode cX12_init 20 = .ok (.newarray .boolean, 2) := by decide +kernel
theorem dX12_init_22 : decode cX12_init 22 = .ok (.putfield 16, 3) := by decide +kernel
theorem dX12_init_25 : decode cX12_init 25 = .ok (.aload_n 0, 1) := by decide +kernel
theorem dX12_init_26 : decode cX12_init 26 = .ok (.bipush 20, 2) := by decide +kernel
theorem dX12_init_28 : decode cX12_init 28 = .ok (.newarray .int, 2) := by decide +kernel
theorem dX12_init_30 : decode cX12_init 30 = .ok (.putfield 20, 3) := by decide +kernel
theorem dX12_init_33 : decode cX12_init 33 = .ok (.aload_n 0, 1) := by decide +kernel
theorem dX12_init_34 : decode cX12_init 34 = .ok (.bipush 20, 2) := by decide +kernel
theorem dX12_init_36 : decode cX12_init 36 = .ok (.newarray .int, 2) := by decide +kernel
theorem dX12_init_38 : decode cX12_init 38 = .ok (.putfield 23, 3) := by decide +kernel
theorem dX12_init_41 : decode cX12_init 41 = .ok (.aload_n 0, 1) := by decide +kernel
theorem dX12_init_42 : decode cX12_init 42 = .ok (.bipush 20, 2) := by decide +kernel
theorem dX12_init_44 : decode cX12_init 44 = .ok (.newarray .int, 2) := by decide +kernel
theorem dX12_init_46 : decode cX12_init 46 = .ok (.putfield 26, 3) := by decide +kernel
theorem dX12_init_49 : decode cX12_init 49 = .ok (.aload_n 0, 1) := by decide +kernel
theorem dX12_init_50 : decode cX12_init 50 = .ok (.bipush 20, 2) := by decide +kernel
theorem dX12_init_52 : decode cX12_init 52 = .ok (.newarray .boolean, 2) := by decide +kernel
theorem dX12_init_54 : decode cX12_init 54 = .ok (.putfield 29, 3) := by decide +kernel
theorem dX12_init_57 : decode cX12_init 57 = .ok (.aload_n 0, 1) := by decide +kernel
theorem dX12_init_58 : decode cX12_init 58 = .ok (.bipush 20, 2) := by decide +kernel
theorem dX12_init_60 : decode cX12_init 60 = .ok (.newarray .int, 2) := by decide +kernel
theorem dX12_init_62 : decode cX12_init 62 = .ok (.putfield 32, 3) := by decide +kernel
theorem dX12_init_65 : decode cX12_init 65 = .ok (.aload_n 0, 1) := by decide +kernel
theorem dX12_init_66 : decode cX12_init 66 = .ok (.bipush 20, 2) := by decide +kernel
theorem dX12_init_68 : decode cX12_init 68 = .ok (.newarray .int, 2) := by decide +kernel
theorem dX12_init_70 : decode cX12_init 70 = .ok (.putfield 35, 3) := by decide +kernel
theorem dX12_init_73 : decode cX12_init 73 = .ok (.aload_n 0, 1) := by decide +kernel
theorem dX12_init_74 : decode cX12_init 74 = .ok (.bipush 20, 2) := by decide +kernel
theorem dX12_init_76 : decode cX12_init 76 = .ok (.newarray .int, 2) := by decide +kernel
theorem dX12_init_78 : decode cX12_init 78 = .ok (.putfield 38, 3) := by decide +kernel
theorem dX12_init_81 : decode cX12_init 81 = .ok (.aload_n 0, 1) := by decide +kernel
theorem dX12_init_82 : decode cX12_init 82 = .ok (.bipush 20, 2) := by decide +kernel
theorem dX12_init_84 : decode cX12_init 84 = .ok (.newarray .int, 2) := by decide +kernel
theorem dX12_init_86 : decode cX12_init 86 = .ok (.putfield 41, 3) := by decide +kernel
theorem dX12_init_89 : decode cX12_init 89 = .ok (.aload_n 0, 1) := by decide +kernel
theorem dX12_init_90 : decode cX12_init 90 = .ok (.bipush 20, 2) := by decide +kernel
theorem dX12_init_92 : decode cX12_init 92 = .ok (.newarray .int, 2) := by decide +kernel
theorem dX12_init_94 : decode cX12_init 94 = .ok (.putfield 44, 3) := by decide +kernel
theorem dX12_init_97 : decode cX12_init 97 = .ok (.aload_n 0, 1) := by decide +kernel
theorem dX12_init_98 : decode cX12_init 98 = .ok (.sipush 160, 3) := by decide +kernel
theorem dX12_init_101 : decode cX12_init 101 = .ok (.newarray .int, 2) := by decide +kernel
theorem dX12_init_103 : decode cX12_init 103 = .ok (.putfield 47, 3) := by decide +kernel
theorem dX12_init_106 : decode cX12_init 106 = .ok (.aload_n 0, 1) := by decide +kernel
theorem dX12_init_107 : decode cX12_init 107 = .ok (.bipush 20, 2) := by decide +kernel
theorem dX12_init_109 : decode cX12_init 109 = .ok (.newarray .long, 2) := by decide +kernel
theorem dX12_init_111 : decode cX12_init 111 = .ok (.putfield 50, 3) := by decide +kernel
theorem dX12_init_114 : decode cX12_init 114 = .ok (.aload_n 0, 1) := by decide +kernel
theorem dX12_init_115 : decode cX12_init 115 = .ok (.bipush 20, 2) := by decide +kernel
theorem dX12_init_117 : decode cX12_init 117 = .ok (.newarray .long, 2) := by decide +kernel
theorem dX12_init_119 : decode cX12_init 119 = .ok (.putfield 54, 3) := by decide +kernel
theorem dX12_init_122 : decode cX12_init 122 = .ok (.aload_n 0, 1) := by decide +kernel
theorem dX12_init_123 : decode cX12_init 123 = .ok (.bipush 20, 2) := by decide +kernel
theorem dX12_init_125 : decode cX12_init 125 = .ok (.newarray .boolean, 2) := by decide +kernel
theorem dX12_init_127 : decode cX12_init 127 = .ok (.putfield 57, 3) := by decide +kernel
theorem dX12_init_130 : decode cX12_init 130 = .ok (.aload_n 0, 1) := by decide +kernel
theorem dX12_init_131 : decode cX12_init 131 = .ok (.bipush 20, 2) := by decide +kernel
theorem dX12_init_133 : decode cX12_init 133 = .ok (.newarray .int, 2) := by decide +kernel
theorem dX12_init_135 : decode cX12_init 135 = .ok (.putfield 60, 3) := by decide +kernel
theorem dX12_init_138 : decode cX12_init 138 = .ok (.aload_n 0, 1) := by decide +kernel
theorem dX12_init_139 : decode cX12_init 139 = .ok (.sipush 400, 3) := by decide +kernel
theorem dX12_init_142 : decode cX12_init 142 = .ok (.newarray .int, 2) := by decide +kernel
theorem dX12_init_144 : decode cX12_init 144 = .ok (.putfield 63, 3) := by decide +kernel
theorem dX12_init_147 : decode cX12_init 147 = .ok (.aload_n 0, 1) := by decide +kernel
theorem dX12_init_148 : decode cX12_init 148 = .ok (.sipush 400, 3) := by decide +kernel
theorem dX12_init_151 : decode cX12_init 151 = .ok (.newarray .int, 2) := by decide +kernel
theorem dX12_init_153 : decode cX12_init 153 = .ok (.putfield 66, 3) := by decide +kernel
theorem dX12_init_156 : decode cX12_init 156 = .ok (.aload_n 0, 1) := by decide +kernel
theorem dX12_init_157 : decode cX12_init 157 = .ok (.sipush 400, 3) := by decide +kernel
theorem dX12_init_160 : decode cX12_init 160 = .ok (.newarray .int, 2) := by decide +kernel
theorem dX12_init_162 : decode cX12_init 162 = .ok (.putfield 69, 3) := by decide +kernel
theorem dX12_init_165 : decode cX12_init 165 = .ok (.aload_n 0, 1) := by decide +kernel
theorem dX12_init_166 : decode cX12_init 166 = .ok (.sipush 400, 3) := by decide +kernel
theorem dX12_init_169 : decode cX12_init 169 = .ok (.newarray .long, 2) := by decide +kernel
theorem dX12_init_171 : decode cX12_init 171 = .ok (.putfield 72, 3) := by decide +kernel
theorem dX12_init_174 : decode cX12_init 174 = .ok (.aload_n 0, 1) := by decide +kernel
theorem dX12_init_175 : decode cX12_init 175 = .ok (.sipush 400, 3) := by decide +kernel
theorem dX12_init_178 : decode cX12_init 178 = .ok (.newarray .long, 2) := by decide +kernel
theorem dX12_init_180 : decode cX12_init 180 = .ok (.putfield 75, 3) := by decide +kernel
theorem dX12_init_183 : decode cX12_init 183 = .ok (.aload_n 0, 1) := by decide +kernel
theorem dX12_init_184 : decode cX12_init 184 = .ok (.iconst (-1), 1) := by decide +kernel
theorem dX12_init_185 : decode cX12_init 185 = .ok (.putfield 78, 3) := by decide +kernel
theorem dX12_init_188 : decode cX12_init 188 = .ok (.aload_n 0, 1) := by decide +kernel
theorem dX12_init_189 : decode cX12_init 189 = .ok (.sipush 400, 3) := by decide +kernel
theorem dX12_init_192 : decode cX12_init 192 = .ok (.newarray .boolean, 2) := by decide +kernel
theorem dX12_init_194 : decode cX12_init 194 = .ok (.putfield 82, 3) := by decide +kernel
theorem dX12_init_197 : decode cX12_init 197 = .ok (.aload_n 0, 1) := by decide +kernel
theorem dX12_init_198 : decode cX12_init 198 = .ok (.sipush 400, 3) := by decide +kernel
theorem dX12_init_201 : decode cX12_init 201 = .ok (.newarray .int, 2) := by decide +kernel
theorem dX12_init_203 : decode cX12_init 203 = .ok (.putfield 85, 3) := by decide +kernel
theorem dX12_init_206 : decode cX12_init 206 = .ok (.aload_n 0, 1) := by decide +kernel
theorem dX12_init_207 : decode cX12_init 207 = .ok (.sipush 400, 3) := by decide +kernel
theorem dX12_init_210 : decode cX12_init 210 = .ok (.newarray .int, 2) := by decide +kernel
theorem dX12_init_212 : decode cX12_init 212 = .ok (.putfield 88, 3) := by decide +kernel
theorem dX12_init_215 : decode cX12_init 215 = .ok (.aload_n 0, 1) := by decide +kernel
theorem dX12_init_216 : decode cX12_init 216 = .ok (.sipush 400, 3) := by decide +kernel
theorem dX12_init_219 : decode cX12_init 219 = .ok (.newarray .int, 2) := by decide +kernel
theorem dX12_init_221 : decode cX12_init 221 = .ok (.putfield 91, 3) := by decide +kernel
theorem dX12_init_224 : decode cX12_init 224 = .ok (.aload_n 0, 1) := by decide +kernel
theorem dX12_init_225 : decode cX12_init 225 = .ok (.sipush 400, 3) := by decide +kernel
theorem dX12_init_228 : decode cX12_init 228 = .ok (.newarray .long, 2) := by decide +kernel
theorem dX12_init_230 : decode cX12_init 230 = .ok (.putfield 94, 3) := by decide +kernel
theorem dX12_init_233 : decode cX12_init 233 = .ok (.aload_n 0, 1) := by decide +kernel
theorem dX12_init_234 : decode cX12_init 234 = .ok (.sipush 400, 3) := by decide +kernel
theorem dX12_init_237 : decode cX12_init 237 = .ok (.newarray .long, 2) := by decide +kernel
theorem dX12_init_239 : decode cX12_init 239 = .ok (.putfield 97, 3) := by decide +kernel
theorem dX12_init_242 : decode cX12_init 242 = .ok (.aload_n 0, 1) := by decide +kernel
theorem dX12_init_243 : decode cX12_init 243 = .ok (.sipush 400, 3) := by decide +kernel
theorem dX12_init_246 : decode cX12_init 246 = .ok (.newarray .int, 2) := by decide +kernel
theorem dX12_init_248 : decode cX12_init 248 = .ok (.putfield 100, 3) := by decide +kernel
theorem dX12_init_251 : decode cX12_init 251 = .ok (.aload_n 0, 1) := by decide +kernel
theorem dX12_init_252 : decode cX12_init 252 = .ok (.sipush 400, 3) := by decide +kernel
theorem dX12_init_255 : decode cX12_init 255 = .ok (.newarray .int, 2) := by decide +kernel
theorem dX12_init_257 : decode cX12_init 257 = .ok (.putfield 103, 3) := by decide +kernel
theorem dX12_init_260 : decode cX12_init 260 = .ok (.aload_n 0, 1) := by decide +kernel
theorem dX12_init_261 : decode cX12_init 261 = .ok (.sipush 400, 3) := by decide +kernel
theorem dX12_init_264 : decode cX12_init 264 = .ok (.newarray .int, 2) := by decide +kernel
theorem dX12_init_266 : decode cX12_init 266 = .ok (.putfield 106, 3) := by decide +kernel
theorem dX12_init_269 : decode cX12_init 269 = .ok (.aload_n 0, 1) := by decide +kernel
theorem dX12_init_270 : decode cX12_init 270 = .ok (.sipush 400, 3) := by decide +kernel
theorem dX12_init_273 : decode cX12_init 273 = .ok (.newarray .int, 2) := by decide +kernel
theorem dX12_init_275 : decode cX12_init 275 = .ok (.putfield 109, 3) := by decide +kernel
theorem dX12_init_278 : decode cX12_init 278 = .ok (.aload_n 0, 1) := by decide +kernel
theorem dX12_init_279 : decode cX12_init 279 = .ok (.sipush 400, 3) := by decide +kernel
theorem dX12_init_282 : decode cX12_init 282 = .ok (.newarray .int, 2) := by decide +kernel
theorem dX12_init_284 : decode cX12_init 284 = .ok (.putfield 112, 3) := by decide +kernel
theorem dX12_init_287 : decode cX12_init 287 = .ok (.aload_n 0, 1) := by decide +kernel
theorem dX12_init_288 : decode cX12_init 288 = .ok (.sipush 400, 3) := by decide +kernel
theorem dX12_init_291 : decode cX12_init 291 = .ok (.newarray .int, 2) := by decide +kernel
theorem dX12_init_293 : decode cX12_init 293 = .ok (.putfield 115, 3) := by decide +kernel
theorem dX12_init_296 : decode cX12_init 296 = .ok (.aload_n 0, 1) := by decide +kernel
theorem dX12_init_297 : decode cX12_init 297 = .ok (.sipush 400, 3) := by decide +kernel
theorem dX12_init_300 : decode cX12_init 300 = .ok (.newarray .int, 2) := by decide +kernel
theorem dX12_init_302 : decode cX12_init 302 = .ok (.putfield 118, 3) := by decide +kernel
theorem dX12_init_305 : decode cX12_init 305 = .ok (.aload_n 0, 1) := by decide +kernel
theorem dX12_init_306 : decode cX12_init 306 = .ok (.sipush 400, 3) := by decide +kernel
theorem dX12_init_309 : decode cX12_init 309 = .ok (.newarray .int, 2) := by decide +kernel
theorem dX12_init_311 : decode cX12_init 311 = .ok (.putfield 121, 3) := by decide +kernel
theorem dX12_init_314 : decode cX12_init 314 = .ok (.aload_n 0, 1) := by decide +kernel
theorem dX12_init_315 : decode cX12_init 315 = .ok (.sipush 400, 3) := by decide +kernel
theorem dX12_init_318 : decode cX12_init 318 = .ok (.newarray .long, 2) := by decide +kernel
theorem dX12_init_320 : decode cX12_init 320 = .ok (.putfield 124, 3) := by decide +kernel
theorem dX12_init_323 : decode cX12_init 323 = .ok (.aload_n 0, 1) := by decide +kernel
theorem dX12_init_324 : decode cX12_init 324 = .ok (.sipush 400, 3) := by decide +kernel
theorem dX12_init_327 : decode cX12_init 327 = .ok (.newarray .long, 2) := by decide +kernel
theorem dX12_init_329 : decode cX12_init 329 = .ok (.putfield 127, 3) := by decide +kernel
theorem dX12_init_332 : decode cX12_init 332 = .ok (.aload_n 0, 1) := by decide +kernel
theorem dX12_init_333 : decode cX12_init 333 = .ok (.bipush 120, 2) := by decide +kernel
theorem dX12_init_335 : decode cX12_init 335 = .ok (.newarray .long, 2) := by decide +kernel
theorem dX12_init_337 : decode cX12_init 337 = .ok (.putfield 130, 3) := by decide +kernel
theorem dX12_init_340 : decode cX12_init 340 = .ok (.aload_n 0, 1) := by decide +kernel
theorem dX12_init_341 : decode cX12_init 341 = .ok (.bipush 120, 2) := by decide +kernel
theorem dX12_init_343 : decode cX12_init 343 = .ok (.newarray .long, 2) := by decide +kernel
theorem dX12_init_345 : decode cX12_init 345 = .ok (.putfield 133, 3) := by decide +kernel
theorem dX12_init_348 : decode cX12_init 348 = .ok (.aload_n 0, 1) := by decide +kernel
theorem dX12_init_349 : decode cX12_init 349 = .ok (.bipush 6, 2) := by decide +kernel
theorem dX12_init_351 : decode cX12_init 351 = .ok (.newarray .int, 2) := by decide +kernel
theorem dX12_init_353 : decode cX12_init 353 = .ok (.putfield 136, 3) := by decide +kernel
theorem dX12_init_356 : decode cX12_init 356 = .ok (.aload_n 0, 1) := by decide +kernel
theorem dX12_init_357 : decode cX12_init 357 = .ok (.bipush 6, 2) := by decide +kernel
theorem dX12_init_359 : decode cX12_init 359 = .ok (.newarray .int, 2) := by decide +kernel
theorem dX12_init_361 : decode cX12_init 361 = .ok (.putfield 139, 3) := by decide +kernel
theorem dX12_init_364 : decode cX12_init 364 = .ok (.aload_n 0, 1) := by decide +kernel
theorem dX12_init_365 : decode cX12_init 365 = .ok (.bipush 6, 2) := by decide +kernel
theorem dX12_init_367 : decode cX12_init 367 = .ok (.newarray .int, 2) := by decide +kernel
theorem dX12_init_369 : decode cX12_init 369 = .ok (.putfield 142, 3) := by decide +kernel
theorem dX12_init_372 : decode cX12_init 372 = .ok (.aload_n 0, 1) := by decide +kernel
theorem dX12_init_373 : decode cX12_init 373 = .ok (.bipush 120, 2) := by decide +kernel
theorem dX12_init_375 : decode cX12_init 375 = .ok (.newarray .long, 2) := by decide +kernel
theorem dX12_init_377 : decode cX12_init 377 = .ok (.putfield 145, 3) := by decide +kernel
theorem dX12_init_380 : decode cX12_init 380 = .ok (.aload_n 0, 1) := by decide +kernel
theorem dX12_init_381 : decode cX12_init 381 = .ok (.iload_n 1, 1) := by decide +kernel
theorem dX12_init_382 : decode cX12_init 382 = .ok (.ifCond .ge 7, 3) := by decide +kernel
theorem dX12_init_385 : decode cX12_init 385 = .ok (.iconst 0, 1) := by decide +kernel
theorem dX12_init_386 : decode cX12_init 386 = .ok (.goto 15, 3) := by decide +kernel
theorem dX12_init_389 : decode cX12_init 389 = .ok (.iload_n 1, 1) := by decide +kernel
theorem dX12_init_390 : decode cX12_init 390 = .ok (.bipush 100, 2) := by decide +kernel
theorem dX12_init_392 : decode cX12_init 392 = .ok (.if_icmp .le 8, 3) := by decide +kernel
theorem dX12_init_395 : decode cX12_init 395 = .ok (.bipush 100, 2) := by decide +kernel
theorem dX12_init_397 : decode cX12_init 397 = .ok (.goto 4, 3) := by decide +kernel
theorem dX12_init_400 : decode cX12_init 400 = .ok (.iload_n 1, 1) := by decide +kernel
theorem dX12_init_401 : decode cX12_init 401 = .ok (.putfield 148, 3) := by decide +kernel
theorem dX12_init_404 : decode cX12_init 404 = .ok (.return_, 1) := by decide +kernel
theorem dX12_in_0 : decode cX12_in 0 = .ok (.iload_n 0, 1) := by decide +kernel
theorem dX12_in_1 : decode cX12_in 1 = .ok (.iload_n 1, 1) := by decide +kernel
theorem dX12_in_2 : decode cX12_in 2 = .ok (.if_icmp .lt 12, 3) := by decide +kernel
theorem dX12_in_5 : decode cX12_in 5 = .ok (.iload_n 0, 1) := by decide +kernel
theorem dX12_in_6 : decode cX12_in 6 = .ok (.iload_n 2, 1) := by decide +kernel
theorem dX12_in_7 : decode cX12_in 7 = .ok (.if_icmp .gt 7, 3) := by decide +kernel
theorem dX12_in_10 : decode cX12_in 10 = .ok (.iconst 1, 1) := by decide +kernel
theorem dX12_in_11 : decode cX12_in 11 = .ok (.goto 4, 3) := by decide +kernel
theorem dX12_in_14 : decode cX12_in 14 = .ok (.iconst 0, 1) := by decide +kernel
theorem dX12_in_15 : decode cX12_in 15 = .ok (.ireturn, 1) := by decide +kernel
theorem dX12_isClock_0 : decode cX12_isClock 0 = .ok (.iload_n 1, 1) := by decide +kernel
theorem dX12_isClock_1 : decode cX12_isClock 1 = .ok (.ldc 151, 2) := by decide +kernel
theorem dX12_isClock_3 : decode cX12_isClock 3 = .ok (.ldc 152, 2) := by decide +kernel
theorem dX12_isClock_5 : decode cX12_isClock 5 = .ok (.invokestatic 153, 3) := by decide +kernel
theorem dX12_isClock_8 : decode cX12_isClock 8 = .ok (.ifCond .eq 30, 3) := by decide +kernel
theorem dX12_isClock_11 : decode cX12_isClock 11 = .ok (.iload_n 2, 1) := by decide +kernel
theorem dX12_isClock_12 : decode cX12_isClock 12 = .ok (.sipush 1000, 3) := by decide +kernel
theorem dX12_isClock_15 : decode cX12_isClock 15 = .ok (.aload_n 0, 1) := by decide +kernel
theorem dX12_isClock_16 : decode cX12_isClock 16 = .ok (.getfield 148, 3) := by decide +kernel
theorem dX12_isClock_19 : decode cX12_isClock 19 = .ok (.isub, 1) := by decide +kernel
theorem dX12_isClock_20 : decode cX12_isClock 20 = .ok (.sipush 1000, 3) := by decide +kernel
theorem dX12_isClock_23 : decode cX12_isClock 23 = .ok (.aload_n 0, 1) := by decide +kernel
theorem dX12_isClock_24 : decode cX12_isClock 24 = .ok (.getfield 148, 3) := by decide +kernel
theorem dX12_isClock_27 : decode cX12_isClock 27 = .ok (.iadd, 1) := by decide +kernel
theorem dX12_isClock_28 : decode cX12_isClock 28 = .ok (.invokestatic 153, 3) := by decide +kernel
theorem dX12_isClock_31 : decode cX12_isClock 31 = .ok (.ifCond .eq 7, 3) := by decide +kernel
theorem dX12_isClock_34 : decode cX12_isClock 34 = .ok (.iconst 1, 1) := by decide +kernel
theorem dX12_isClock_35 : decode cX12_isClock 35 = .ok (.goto 4, 3) := by decide +kernel
theorem dX12_isClock_38 : decode cX12_isClock 38 = .ok (.iconst 0, 1) := by decide +kernel
theorem dX12_isClock_39 : decode cX12_isClock 39 = .ok (.ireturn, 1) := by decide +kernel
theorem dX12_keeper_0 : decode cX12_keeper 0 = .ok (.aload_n 0, 1) := by decide +kernel
theorem dX12_keeper_1 : decode cX12_keeper 1 = .ok (.iload_n 1, 1) := by decide +kernel
theorem dX12_keeper_2 : decode cX12_keeper 2 = .ok (.iload_n 2, 1) := by decide +kernel
theorem dX12_keeper_3 : decode cX12_keeper 3 = .ok (.invokevirtual 157, 3) := by decide +kernel
theorem dX12_keeper_6 : decode cX12_keeper 6 = .ok (.ifCond .ne 6, 3) := by decide +kernel
theorem dX12_keeper_9 : decode cX12_keeper 9 = .ok (.bipush (-2), 2) := by decide +kernel
theorem dX12_keeper_11 : decode cX12_keeper 11 = .ok (.ireturn, 1) := by decide +kernel
theorem dX12_keeper_12 : decode cX12_keeper 12 = .ok (.aload_n 0, 1) := by decide +kernel
theorem dX12_keeper_13 : decode cX12_keeper 13 = .ok (.getfield 161, 3) := by decide +kernel
theorem dX12_keeper_16 : decode cX12_keeper 16 = .ok (.iconst 5, 1) := by decide +kernel
theorem dX12_keeper_17 : decode cX12_keeper 17 = .ok (.if_icmp .ne 6, 3) := by decide +kernel
theorem dX12_keeper_20 : decode cX12_keeper 20 = .ok (.bipush (-4), 2) := by decide +kernel
theorem dX12_keeper_22 : decode cX12_keeper 22 = .ok (.ireturn, 1) := by decide +kernel
theorem dX12_keeper_23 : decode cX12_keeper 23 = .ok (.aload_n 0, 1) := by decide +kernel
theorem dX12_keeper_24 : decode cX12_keeper 24 = .ok (.getfield 7, 3) := by decide +kernel
theorem dX12_keeper_27 : decode cX12_keeper 27 = .ok (.aload_n 0, 1) := by decide +kernel
theorem dX12_keeper_28 : decode cX12_keeper 28 = .ok (.getfield 161, 3) := by decide +kernel
theorem dX12_keeper_31 : decode cX12_keeper 31 = .ok (.iload_n 1, 1) := by decide +kernel
theorem dX12_keeper_32 : decode cX12_keeper 32 = .ok (.iastore, 1) := by decide +kernel
theorem dX12_keeper_33 : decode cX12_keeper 33 = .ok (.aload_n 0, 1) := by decide +kernel
theorem dX12_keeper_34 : decode cX12_keeper 34 = .ok (.getfield 13, 3) := by decide +kernel
theorem dX12_keeper_37 : decode cX12_keeper 37 = .ok (.aload_n 0, 1) := by decide +kernel
theorem dX12_keeper_38 : decode cX12_keeper 38 = .ok (.getfield 161, 3) := by decide +kernel
theorem dX12_keeper_41 : decode cX12_keeper 41 = .ok (.iload_n 2, 1) := by decide +kernel
theorem dX12_keeper_42 : decode cX12_keeper 42 = .ok (.iastore, 1) := by decide +kernel
theorem dX12_keeper_43 : decode cX12_keeper 43 = .ok (.aload_n 0, 1) := by decide +kernel
theorem dX12_keeper_44 : decode cX12_keeper 44 = .ok (.getfield 16, 3) := by decide +kernel
theorem dX12_keeper_47 : decode cX12_keeper 47 = .ok (.aload_n 0, 1) := by decide +kernel
theorem dX12_keeper_48 : decode cX12_keeper 48 = .ok (.getfield 161, 3) := by decide +kernel
theorem dX12_keeper_51 : decode cX12_keeper 51 = .ok (.iconst 1, 1) := by decide +kernel
theorem dX12_keeper_52 : decode cX12_keeper 52 = .ok (.bastore, 1) := by decide +kernel
theorem dX12_keeper_53 : decode cX12_keeper 53 = .ok (.aload_n 0, 1) := by decide +kernel
theorem dX12_keeper_54 : decode cX12_keeper 54 = .ok (.dup, 1) := by decide +kernel
theorem dX12_keeper_55 : decode cX12_keeper 55 = .ok (.getfield 161, 3) := by decide +kernel
theorem dX12_keeper_58 : decode cX12_keeper 58 = .ok (.iconst 1, 1) := by decide +kernel
theorem dX12_keeper_59 : decode cX12_keeper 59 = .ok (.iadd, 1) := by decide +kernel
theorem dX12_keeper_60 : decode cX12_keeper 60 = .ok (.putfield 161, 3) := by decide +kernel
theorem dX12_keeper_63 : decode cX12_keeper 63 = .ok (.aload_n 0, 1) := by decide +kernel
theorem dX12_keeper_64 : decode cX12_keeper 64 = .ok (.getfield 161, 3) := by decide +kernel
theorem dX12_keeper_67 : decode cX12_keeper 67 = .ok (.iconst 1, 1) := by decide +kernel
theorem dX12_keeper_68 : decode cX12_keeper 68 = .ok (.isub, 1) := by decide +kernel
theorem dX12_keeper_69 : decode cX12_keeper 69 = .ok (.ireturn, 1) := by decide +kernel
theorem dX12_worker_0 : decode cX12_worker 0 = .ok (.aload_n 0, 1) := by decide +kernel
theorem dX12_worker_1 : decode cX12_worker 1 = .ok (.iload_n 1, 1) := by decide +kernel
theorem dX12_worker_2 : decode cX12_worker 2 = .ok (.iload_n 2, 1) := by decide +kernel
theorem dX12_worker_3 : decode cX12_worker 3 = .ok (.invokevirtual 157, 3) := by decide +kernel
theorem dX12_worker_6 : decode cX12_worker 6 = .ok (.ifCond .ne 6, 3) := by decide +kernel
theorem dX12_worker_9 : decode cX12_worker 9 = .ok (.bipush (-2), 2) := by decide +kernel
theorem dX12_worker_11 : decode cX12_worker 11 = .ok (.ireturn, 1) := by decide +kernel
theorem dX12_worker_12 : decode cX12_worker 12 = .ok (.aload_n 0, 1) := by decide +kernel
theorem dX12_worker_13 : decode cX12_worker 13 = .ok (.getfield 164, 3) := by decide +kernel
theorem dX12_worker_16 : decode cX12_worker 16 = .ok (.bipush 20, 2) := by decide +kernel
theorem dX12_worker_18 : decode cX12_worker 18 = .ok (.if_icmp .ne 6, 3) := by decide +kernel
theorem dX12_worker_21 : decode cX12_worker 21 = .ok (.bipush (-4), 2) := by decide +kernel
theorem dX12_worker_23 : decode cX12_worker 23 = .ok (.ireturn, 1) := by decide +kernel
theorem dX12_worker_24 : decode cX12_worker 24 = .ok (.aload_n 0, 1) := by decide +kernel
theorem dX12_worker_25 : decode cX12_worker 25 = .ok (.getfield 20, 3) := by decide +kernel
theorem dX12_worker_28 : decode cX12_worker 28 = .ok (.aload_n 0, 1) := by decide +kernel
theorem dX12_worker_29 : decode cX12_worker 29 = .ok (.getfield 164, 3) := by decide +kernel
theorem dX12_worker_32 : decode cX12_worker 32 = .ok (.iload_n 1, 1) := by decide +kernel
theorem dX12_worker_33 : decode cX12_worker 33 = .ok (.iastore, 1) := by decide +kernel
theorem dX12_worker_34 : decode cX12_worker 34 = .ok (.aload_n 0, 1) := by decide +kernel
theorem dX12_worker_35 : decode cX12_worker 35 = .ok (.getfield 23, 3) := by decide +kernel
theorem dX12_worker_38 : decode cX12_worker 38 = .ok (.aload_n 0, 1) := by decide +kernel
theorem dX12_worker_39 : decode cX12_worker 39 = .ok (.getfield 164, 3) := by decide +kernel
theorem dX12_worker_42 : decode cX12_worker 42 = .ok (.iload_n 2, 1) := by decide +kernel
theorem dX12_worker_43 : decode cX12_worker 43 = .ok (.iastore, 1) := by decide +kernel
theorem dX12_worker_44 : decode cX12_worker 44 = .ok (.aload_n 0, 1) := by decide +kernel
theorem dX12_worker_45 : decode cX12_worker 45 = .ok (.getfield 29, 3) := by decide +kernel
theorem dX12_worker_48 : decode cX12_worker 48 = .ok (.aload_n 0, 1) := by decide +kernel
theorem dX12_worker_49 : decode cX12_worker 49 = .ok (.getfield 164, 3) := by decide +kernel
theorem dX12_worker_52 : decode cX12_worker 52 = .ok (.iconst 1, 1) := by decide +kernel
theorem dX12_worker_53 : decode cX12_worker 53 = .ok (.bastore, 1) := by decide +kernel
theorem dX12_worker_54 : decode cX12_worker 54 = .ok (.aload_n 0, 1) := by decide +kernel
theorem dX12_worker_55 : decode cX12_worker 55 = .ok (.dup, 1) := by decide +kernel
theorem dX12_worker_56 : decode cX12_worker 56 = .ok (.getfield 164, 3) := by decide +kernel
theorem dX12_worker_59 : decode cX12_worker 59 = .ok (.iconst 1, 1) := by decide +kernel
theorem dX12_worker_60 : decode cX12_worker 60 = .ok (.iadd, 1) := by decide +kernel
theorem dX12_worker_61 : decode cX12_worker 61 = .ok (.putfield 164, 3) := by decide +kernel
theorem dX12_worker_64 : decode cX12_worker 64 = .ok (.aload_n 0, 1) := by decide +kernel
theorem dX12_worker_65 : decode cX12_worker 65 = .ok (.getfield 164, 3) := by decide +kernel
theorem dX12_worker_68 : decode cX12_worker 68 = .ok (.iconst 1, 1) := by decide +kernel
theorem dX12_worker_69 : decode cX12_worker 69 = .ok (.isub, 1) := by decide +kernel
theorem dX12_worker_70 : decode cX12_worker 70 = .ok (.ireturn, 1) := by decide +kernel
theorem dX12_thing_0 : decode cX12_thing 0 = .ok (.iload_n 1, 1) := by decide +kernel
theorem dX12_thing_1 : decode cX12_thing 1 = .ok (.iconst 0, 1) := by decide +kernel
theorem dX12_thing_2 : decode cX12_thing 2 = .ok (.iconst 4, 1) := by decide +kernel
theorem dX12_thing_3 : decode cX12_thing 3 = .ok (.invokestatic 153, 3) := by decide +kernel
theorem dX12_thing_6 : decode cX12_thing 6 = .ok (.ifCond .eq 36, 3) := by decide +kernel
theorem dX12_thing_9 : decode cX12_thing 9 = .ok (.iload_n 2, 1) := by decide +kernel
theorem dX12_thing_10 : decode cX12_thing 10 = .ok (.iconst 1, 1) := by decide +kernel
theorem dX12_thing_11 : decode cX12_thing 11 = .ok (.sipush 1000, 3) := by decide +kernel
theorem dX12_thing_14 : decode cX12_thing 14 = .ok (.invokestatic 153, 3) := by decide +kernel
theorem dX12_thing_17 : decode cX12_thing 17 = .ok (.ifCond .eq 25, 3) := by decide +kernel
theorem dX12_thing_20 : decode cX12_thing 20 = .ok (.iload_n 1, 1) := by decide +kernel
theorem dX12_thing_21 : decode cX12_thing 21 = .ok (.iconst 2, 1) := by decide +kernel
theorem dX12_thing_22 : decode cX12_thing 22 = .ok (.if_icmp .ne 16, 3) := by decide +kernel
theorem dX12_thing_25 : decode cX12_thing 25 = .ok (.iload_n 3, 1) := by decide +kernel
theorem dX12_thing_26 : decode cX12_thing 26 = .ok (.iconst 1, 1) := by decide +kernel
theorem dX12_thing_27 : decode cX12_thing 27 = .ok (.bipush 100, 2) := by decide +kernel
theorem dX12_thing_29 : decode cX12_thing 29 = .ok (.invokestatic 153, 3) := by decide +kernel
theorem dX12_thing_32 : decode cX12_thing 32 = .ok (.ifCond .eq 10, 3) := by decide +kernel
theorem dX12_thing_35 : decode cX12_thing 35 = .ok (.goto 10, 3) := by decide +kernel
theorem dX12_thing_38 : decode cX12_thing 38 = .ok (.iload_n 3, 1) := by decide +kernel
theorem dX12_thing_39 : decode cX12_thing 39 = .ok (.ifCond .eq 6, 3) := by decide +kernel
theorem dX12_thing_42 : decode cX12_thing 42 = .ok (.bipush (-2), 2) := by decide +kernel
theorem dX12_thing_44 : decode cX12_thing 44 = .ok (.ireturn, 1) := by decide +kernel
theorem dX12_thing_45 : decode cX12_thing 45 = .ok (.aload_n 0, 1) := by decide +kernel
theorem dX12_thing_46 : decode cX12_thing 46 = .ok (.getfield 167, 3) := by decide +kernel
theorem dX12_thing_49 : decode cX12_thing 49 = .ok (.bipush 20, 2) := by decide +kernel
theorem dX12_thing_51 : decode cX12_thing 51 = .ok (.if_icmp .ne 6, 3) := by decide +kernel
theorem dX12_thing_54 : decode cX12_thing 54 = .ok (.bipush (-4), 2) := by decide +kernel
theorem dX12_thing_56 : decode cX12_thing 56 = .ok (.ireturn, 1) := by decide +kernel
theorem dX12_thing_57 : decode cX12_thing 57 = .ok (.aload_n 0, 1) := by decide +kernel
theorem dX12_thing_58 : decode cX12_thing 58 = .ok (.getfield 32, 3) := by decide +kernel
theorem dX12_thing_61 : decode cX12_thing 61 = .ok (.aload_n 0, 1) := by decide +kernel
theorem dX12_thing_62 : decode cX12_thing 62 = .ok (.getfield 167, 3) := by decide +kernel
theorem dX12_thing_65 : decode cX12_thing 65 = .ok (.iload_n 1, 1) := by decide +kernel
theorem dX12_thing_66 : decode cX12_thing 66 = .ok (.iastore, 1) := by decide +kernel
theorem dX12_thing_67 : decode cX12_thing 67 = .ok (.aload_n 0, 1) := by decide +kernel
theorem dX12_thing_68 : decode cX12_thing 68 = .ok (.getfield 35, 3) := by decide +kernel
theorem dX12_thing_71 : decode cX12_thing 71 = .ok (.aload_n 0, 1) := by decide +kernel
theorem dX12_thing_72 : decode cX12_thing 72 = .ok (.getfield 167, 3) := by decide +kernel
theorem dX12_thing_75 : decode cX12_thing 75 = .ok (.iload_n 2, 1) := by decide +kernel
theorem dX12_thing_76 : decode cX12_thing 76 = .ok (.iastore, 1) := by decide +kernel
theorem dX12_thing_77 : decode cX12_thing 77 = .ok (.aload_n 0, 1) := by decide +kernel
theorem dX12_thing_78 : decode cX12_thing 78 = .ok (.getfield 38, 3) := by decide +kernel
theorem dX12_thing_81 : decode cX12_thing 81 = .ok (.aload_n 0, 1) := by decide +kernel
theorem dX12_thing_82 : decode cX12_thing 82 = .ok (.getfield 167, 3) := by decide +kernel
theorem dX12_thing_85 : decode cX12_thing 85 = .ok (.iload_n 3, 1) := by decide +kernel
theorem dX12_thing_86 : decode cX12_thing 86 = .ok (.iastore, 1) := by decide +kernel
theorem dX12_thing_87 : decode cX12_thing 87 = .ok (.aload_n 0, 1) := by decide +kernel
theorem dX12_thing_88 : decode cX12_thing 88 = .ok (.getfield 41, 3) := by decide +kernel
theorem dX12_thing_91 : decode cX12_thing 91 = .ok (.aload_n 0, 1) := by decide +kernel
theorem dX12_thing_92 : decode cX12_thing 92 = .ok (.getfield 167, 3) := by decide +kernel
theorem dX12_thing_95 : decode cX12_thing 95 = .ok (.iconst (-1), 1) := by decide +kernel
theorem dX12_thing_96 : decode cX12_thing 96 = .ok (.iastore, 1) := by decide +kernel
theorem dX12_thing_97 : decode cX12_thing 97 = .ok (.aload_n 0, 1) := by decide +kernel
theorem dX12_thing_98 : decode cX12_thing 98 = .ok (.dup, 1) := by decide +kernel
theorem dX12_thing_99 : decode cX12_thing 99 = .ok (.getfield 167, 3) := by decide +kernel
theorem dX12_thing_102 : decode cX12_thing 102 = .ok (.iconst 1, 1) := by decide +kernel
theorem dX12_thing_103 : decode cX12_thing 103 = .ok (.iadd, 1) := by decide +kernel
theorem dX12_thing_104 : decode cX12_thing 104 = .ok (.putfield 167, 3) := by decide +kernel
theorem dX12_thing_107 : decode cX12_thing 107 = .ok (.aload_n 0, 1) := by decide +kernel
theorem dX12_thing_108 : decode cX12_thing 108 = .ok (.getfield 167, 3) := by decide +kernel
theorem dX12_thing_111 : decode cX12_thing 111 = .ok (.iconst 1, 1) := by decide +kernel
theorem dX12_thing_112 : decode cX12_thing 112 = .ok (.isub, 1) := by decide +kernel
theorem dX12_thing_113 : decode cX12_thing 113 = .ok (.ireturn, 1) := by decide +kernel
theorem dX12_store_0 : decode cX12_store 0 = .ok (.aload_n 0, 1) := by decide +kernel
theorem dX12_store_1 : decode cX12_store 1 = .ok (.getfield 170, 3) := by decide +kernel
theorem dX12_store_4 : decode cX12_store 4 = .ok (.bipush 6, 2) := by decide +kernel
theorem dX12_store_6 : decode cX12_store 6 = .ok (.if_icmp .ne 6, 3) := by decide +kernel
theorem dX12_store_9 : decode cX12_store 9 = .ok (.bipush (-4), 2) := by decide +kernel
theorem dX12_store_11 : decode cX12_store 11 = .ok (.ireturn, 1) := by decide +kernel
theorem dX12_store_12 : decode cX12_store 12 = .ok (.aload_n 0, 1) := by decide +kernel
theorem dX12_store_13 : decode cX12_store 13 = .ok (.dup, 1) := by decide +kernel
theorem dX12_store_14 : decode cX12_store 14 = .ok (.getfield 170, 3) := by decide +kernel
theorem dX12_store_17 : decode cX12_store 17 = .ok (.iconst 1, 1) := by decide +kernel
theorem dX12_store_18 : decode cX12_store 18 = .ok (.iadd, 1) := by decide +kernel
theorem dX12_store_19 : decode cX12_store 19 = .ok (.putfield 170, 3) := by decide +kernel
theorem dX12_store_22 : decode cX12_store 22 = .ok (.aload_n 0, 1) := by decide +kernel
theorem dX12_store_23 : decode cX12_store 23 = .ok (.getfield 170, 3) := by decide +kernel
theorem dX12_store_26 : decode cX12_store 26 = .ok (.iconst 1, 1) := by decide +kernel
theorem dX12_store_27 : decode cX12_store 27 = .ok (.isub, 1) := by decide +kernel
theorem dX12_store_28 : decode cX12_store 28 = .ok (.ireturn, 1) := by decide +kernel
theorem dX12_tick_0 : decode cX12_tick 0 = .ok (.iload_n 1, 1) := by decide +kernel
theorem dX12_tick_1 : decode cX12_tick 1 = .ok (.iconst 0, 1) := by decide +kernel
theorem dX12_tick_2 : decode cX12_tick 2 = .ok (.ldc 173, 2) := by decide +kernel
theorem dX12_tick_4 : decode cX12_tick 4 = .ok (.invokestatic 153, 3) := by decide +kernel
theorem dX12_tick_7 : decode cX12_tick 7 = .ok (.ifCond .ne 6, 3) := by decide +kernel
theorem dX12_tick_10 : decode cX12_tick 10 = .ok (.bipush (-2), 2) := by decide +kernel
theorem dX12_tick_12 : decode cX12_tick 12 = .ok (.ireturn, 1) := by decide +kernel
theorem dX12_tick_13 : decode cX12_tick 13 = .ok (.aload_n 0, 1) := by decide +kernel
theorem dX12_tick_14 : decode cX12_tick 14 = .ok (.getfield 174, 3) := by decide +kernel
theorem dX12_tick_17 : decode cX12_tick 17 = .ok (.iload_n 1, 1) := by decide +kernel
theorem dX12_tick_18 : decode cX12_tick 18 = .ok (.iadd, 1) := by decide +kernel
theorem dX12_tick_19 : decode cX12_tick 19 = .ok (.ldc 177, 2) := by decide +kernel
theorem dX12_tick_21 : decode cX12_tick 21 = .ok (.if_icmp .le 6, 3) := by decide +kernel
theorem dX12_tick_24 : decode cX12_tick 24 = .ok (.bipush (-4), 2) := by decide +kernel
theorem dX12_tick_26 : decode cX12_tick 26 = .ok (.ireturn, 1) := by decide +kernel
theorem dX12_tick_27 : decode cX12_tick 27 = .ok (.aload_n 0, 1) := by decide +kernel
theorem dX12_tick_28 : decode cX12_tick 28 = .ok (.dup, 1) := by decide +kernel
theorem dX12_tick_29 : decode cX12_tick 29 = .ok (.getfield 174, 3) := by decide +kernel
theorem dX12_tick_32 : decode cX12_tick 32 = .ok (.iload_n 1, 1) := by decide +kernel
theorem dX12_tick_33 : decode cX12_tick 33 = .ok (.iadd, 1) := by decide +kernel
theorem dX12_tick_34 : decode cX12_tick 34 = .ok (.putfield 174, 3) := by decide +kernel
theorem dX12_tick_37 : decode cX12_tick 37 = .ok (.aload_n 0, 1) := by decide +kernel
theorem dX12_tick_38 : decode cX12_tick 38 = .ok (.getfield 174, 3) := by decide +kernel
theorem dX12_tick_41 : decode cX12_tick 41 = .ok (.ireturn, 1) := by decide +kernel
theorem dX12_isKeeper_0 : decode cX12_isKeeper 0 = .ok (.iload_n 1, 1) := by decide +kernel
theorem dX12_isKeeper_1 : decode cX12_isKeeper 1 = .ok (.iconst 0, 1) := by decide +kernel
theorem dX12_isKeeper_2 : decode cX12_isKeeper 2 = .ok (.aload_n 0, 1) := by decide +kernel
theorem dX12_isKeeper_3 : decode cX12_isKeeper 3 = .ok (.getfield 161, 3) := by decide +kernel
theorem dX12_isKeeper_6 : decode cX12_isKeeper 6 = .ok (.iconst 1, 1) := by decide +kernel
theorem dX12_isKeeper_7 : decode cX12_isKeeper 7 = .ok (.isub, 1) := by decide +kernel
theorem dX12_isKeeper_8 : decode cX12_isKeeper 8 = .ok (.invokestatic 153, 3) := by decide +kernel
theorem dX12_isKeeper_11 : decode cX12_isKeeper 11 = .ok (.ireturn, 1) := by decide +kernel
theorem dX12_isWorker_0 : decode cX12_isWorker 0 = .ok (.iload_n 1, 1) := by decide +kernel
theorem dX12_isWorker_1 : decode cX12_isWorker 1 = .ok (.iconst 0, 1) := by decide +kernel
theorem dX12_isWorker_2 : decode cX12_isWorker 2 = .ok (.aload_n 0, 1) := by decide +kernel
theorem dX12_isWorker_3 : decode cX12_isWorker 3 = .ok (.getfield 164, 3) := by decide +kernel
theorem dX12_isWorker_6 : decode cX12_isWorker 6 = .ok (.iconst 1, 1) := by decide +kernel
theorem dX12_isWorker_7 : decode cX12_isWorker 7 = .ok (.isub, 1) := by decide +kernel
theorem dX12_isWorker_8 : decode cX12_isWorker 8 = .ok (.invokestatic 153, 3) := by decide +kernel
theorem dX12_isWorker_11 : decode cX12_isWorker 11 = .ok (.ireturn, 1) := by decide +kernel
theorem dX12_isThing_0 : decode cX12_isThing 0 = .ok (.iload_n 1, 1) := by decide +kernel
theorem dX12_isThing_1 : decode cX12_isThing 1 = .ok (.iconst 0, 1) := by decide +kernel
theorem dX12_isThing_2 : decode cX12_isThing 2 = .ok (.aload_n 0, 1) := by decide +kernel
theorem dX12_isThing_3 : decode cX12_isThing 3 = .ok (.getfield 167, 3) := by decide +kernel
theorem dX12_isThing_6 : decode cX12_isThing 6 = .ok (.iconst 1, 1) := by decide +kernel
theorem dX12_isThing_7 : decode cX12_isThing 7 = .ok (.isub, 1) := by decide +kernel
theorem dX12_isThing_8 : decode cX12_isThing 8 = .ok (.invokestatic 153, 3) := by decide +kernel
theorem dX12_isThing_11 : decode cX12_isThing 11 = .ok (.ireturn, 1) := by decide +kernel
theorem dX12_isLetter_0 : decode cX12_isLetter 0 = .ok (.iload_n 1, 1) := by decide +kernel
theorem dX12_isLetter_1 : decode cX12_isLetter 1 = .ok (.iconst 0, 1) := by decide +kernel
theorem dX12_isLetter_2 : decode cX12_isLetter 2 = .ok (.aload_n 0, 1) := by decide +kernel
theorem dX12_isLetter_3 : decode cX12_isLetter 3 = .ok (.getfield 178, 3) := by decide +kernel
theorem dX12_isLetter_6 : decode cX12_isLetter 6 = .ok (.iconst 1, 1) := by decide +kernel
theorem dX12_isLetter_7 : decode cX12_isLetter 7 = .ok (.isub, 1) := by decide +kernel
theorem dX12_isLetter_8 : decode cX12_isLetter 8 = .ok (.invokestatic 153, 3) := by decide +kernel
theorem dX12_isLetter_11 : decode cX12_isLetter 11 = .ok (.ireturn, 1) := by decide +kernel
theorem dX12_kClock_0 : decode cX12_kClock 0 = .ok (.aload_n 0, 1) := by decide +kernel
theorem dX12_kClock_1 : decode cX12_kClock 1 = .ok (.getfield 7, 3) := by decide +kernel
theorem dX12_kClock_4 : decode cX12_kClock 4 = .ok (.iload_n 1, 1) := by decide +kernel
theorem dX12_kClock_5 : decode cX12_kClock 5 = .ok (.iaload, 1) := by decide +kernel
theorem dX12_kClock_6 : decode cX12_kClock 6 = .ok (.i2l, 1) := by decide +kernel
theorem dX12_kClock_7 : decode cX12_kClock 7 = .ok (.aload_n 0, 1) := by decide +kernel
theorem dX12_kClock_8 : decode cX12_kClock 8 = .ok (.getfield 174, 3) := by decide +kernel
theorem dX12_kClock_11 : decode cX12_kClock 11 = .ok (.i2l, 1) := by decide +kernel
theorem dX12_kClock_12 : decode cX12_kClock 12 = .ok (.aload_n 0, 1) := by decide +kernel
theorem dX12_kClock_13 : decode cX12_kClock 13 = .ok (.getfield 13, 3) := by decide +kernel
theorem dX12_kClock_16 : decode cX12_kClock 16 = .ok (.iload_n 1, 1) := by decide +kernel
theorem dX12_kClock_17 : decode cX12_kClock 17 = .ok (.iaload, 1) := by decide +kernel
theorem dX12_kClock_18 : decode cX12_kClock 18 = .ok (.i2l, 1) := by decide +kernel
theorem dX12_kClock_19 : decode cX12_kClock 19 = .ok (.lmul, 1) := by decide +kernel
theorem dX12_kClock_20 : decode cX12_kClock 20 = .ok (.ldc2_w 181, 3) := by decide +kernel
theorem dX12_kClock_23 : decode cX12_kClock 23 = .ok (.ldiv, 1) := by decide +kernel
theorem dX12_kClock_24 : decode cX12_kClock 24 = .ok (.ladd, 1) := by decide +kernel
theorem dX12_kClock_25 : decode cX12_kClock 25 = .ok (.lreturn, 1) := by decide +kernel
theorem dX12_wClock_0 : decode cX12_wClock 0 = .ok (.aload_n 0, 1) := by decide +kernel
theorem dX12_wClock_1 : decode cX12_wClock 1 = .ok (.getfield 20, 3) := by decide +kernel
theorem dX12_wClock_4 : decode cX12_wClock 4 = .ok (.iload_n 1, 1) := by decide +kernel
theorem dX12_wClock_5 : decode cX12_wClock 5 = .ok (.iaload, 1) := by decide +kernel
theorem dX12_wClock_6 : decode cX12_wClock 6 = .ok (.i2l, 1) := by decide +kernel
theorem dX12_wClock_7 : decode cX12_wClock 7 = .ok (.aload_n 0, 1) := by decide +kernel
theorem dX12_wClock_8 : decode cX12_wClock 8 = .ok (.getfield 174, 3) := by decide +kernel
theorem dX12_wClock_11 : decode cX12_wClock 11 = .ok (.i2l, 1) := by decide +kernel
theorem dX12_wClock_12 : decode cX12_wClock 12 = .ok (.aload_n 0, 1) := by decide +kernel
theorem dX12_wClock_13 : decode cX12_wClock 13 = .ok (.getfield 23, 3) := by decide +kernel
theorem dX12_wClock_16 : decode cX12_wClock 16 = .ok (.iload_n 1, 1) := by decide +kernel
theorem dX12_wClock_17 : decode cX12_wClock 17 = .ok (.iaload, 1) := by decide +kernel
theorem dX12_wClock_18 : decode cX12_wClock 18 = .ok (.i2l, 1) := by decide +kernel
theorem dX12_wClock_19 : decode cX12_wClock 19 = .ok (.lmul, 1) := by decide +kernel
theorem dX12_wClock_20 : decode cX12_wClock 20 = .ok (.ldc2_w 181, 3) := by decide +kernel
theorem dX12_wClock_23 : decode cX12_wClock 23 = .ok (.ldiv, 1) := by decide +kernel
theorem dX12_wClock_24 : decode cX12_wClock 24 = .ok (.ladd, 1) := by decide +kernel
theorem dX12_wClock_25 : decode cX12_wClock 25 = .ok (.lreturn, 1) := by decide +kernel
theorem dX12_clock_0 : decode cX12_clock 0 = .ok (.iload_n 1, 1) := by decide +kernel
theorem dX12_clock_1 : decode cX12_clock 1 = .ok (.ifCond .ne 17, 3) := by decide +kernel
theorem dX12_clock_4 : decode cX12_clock 4 = .ok (.aload_n 0, 1) := by decide +kernel
theorem dX12_clock_5 : decode cX12_clock 5 = .ok (.iload_n 2, 1) := by decide +kernel
theorem dX12_clock_6 : decode cX12_clock 6 = .ok (.invokevirtual 183, 3) := by decide +kernel
theorem dX12_clock_9 : decode cX12_clock 9 = .ok (.ifCond .eq 9, 3) := by decide +kernel
theorem dX12_clock_12 : decode cX12_clock 12 = .ok (.aload_n 0, 1) := by decide +kernel
theorem dX12_clock_13 : decode cX12_clock 13 = .ok (.iload_n 2, 1) := by decide +kernel
theorem dX12_clock_14 : decode cX12_clock 14 = .ok (.invokevirtual 187, 3) := by decide +kernel
theorem dX12_clock_17 : decode cX12_clock 17 = .ok (.lreturn, 1) := by decide +kernel
theorem dX12_clock_18 : decode cX12_clock 18 = .ok (.iload_n 1, 1) := by decide +kernel
theorem dX12_clock_19 : decode cX12_clock 19 = .ok (.iconst 1, 1) := by decide +kernel
theorem dX12_clock_20 : decode cX12_clock 20 = .ok (.if_icmp .ne 19, 3) := by decide +kernel
theorem dX12_clock_23 : decode cX12_clock 23 = .ok (.aload_n 0, 1) := by decide +kernel
theorem dX12_clock_24 : decode cX12_clock 24 = .ok (.iload_n 2, 1) := by decide +kernel
theorem dX12_clock_25 : decode cX12_clock 25 = .ok (.invokevirtual 191, 3) := by decide +kernel
theorem dX12_clock_28 : decode cX12_clock 28 = .ok (.ifCond .eq 11, 3) := by decide +kernel
theorem dX12_clock_31 : decode cX12_clock 31 = .ok (.aload_n 0, 1) := by decide +kernel
theorem dX12_clock_32 : decode cX12_clock 32 = .ok (.iload_n 2, 1) := by decide +kernel
theorem dX12_clock_33 : decode cX12_clock 33 = .ok (.invokevirtual 194, 3) := by decide +kernel
theorem dX12_clock_36 : decode cX12_clock 36 = .ok (.goto 6, 3) := by decide +kernel
theorem dX12_clock_39 : decode cX12_clock 39 = .ok (.ldc2_w 197, 3) := by decide +kernel
theorem dX12_clock_42 : decode cX12_clock 42 = .ok (.lreturn, 1) := by decide +kernel
theorem dX12_long0_0 : decode cX12_long0 0 = .ok (.aload_n 0, 1) := by decide +kernel
theorem dX12_long0_1 : decode cX12_long0 1 = .ok (.getfield 35, 3) := by decide +kernel
theorem dX12_long0_4 : decode cX12_long0 4 = .ok (.iload_n 1, 1) := by decide +kernel
theorem dX12_long0_5 : decode cX12_long0 5 = .ok (.iaload, 1) := by decide +kernel
theorem dX12_long0_6 : decode cX12_long0 6 = .ok (.sipush 1000, 3) := by decide +kernel
theorem dX12_long0_9 : decode cX12_long0 9 = .ok (.aload_n 0, 1) := by decide +kernel
theorem dX12_long0_10 : decode cX12_long0 10 = .ok (.getfield 148, 3) := by decide +kernel
theorem dX12_long0_13 : decode cX12_long0 13 = .ok (.iadd, 1) := by decide +kernel
theorem dX12_long0_14 : decode cX12_long0 14 = .ok (.imul, 1) := by decide +kernel
theorem dX12_long0_15 : decode cX12_long0 15 = .ok (.istore_n 2, 1) := by decide +kernel
theorem dX12_long0_16 : decode cX12_long0 16 = .ok (.sipush 1000, 3) := by decide +kernel
theorem dX12_long0_19 : decode cX12_long0 19 = .ok (.aload_n 0, 1) := by decide +kernel
theorem dX12_long0_20 : decode cX12_long0 20 = .ok (.getfield 148, 3) := by decide +kernel
theorem dX12_long0_23 : decode cX12_long0 23 = .ok (.isub, 1) := by decide +kernel
theorem dX12_long0_24 : decode cX12_long0 24 = .ok (.istore_n 3, 1) := by decide +kernel
theorem dX12_long0_25 : decode cX12_long0 25 = .ok (.iload_n 2, 1) := by decide +kernel
theorem dX12_long0_26 : decode cX12_long0 26 = .ok (.iload_n 3, 1) := by decide +kernel
theorem dX12_long0_27 : decode cX12_long0 27 = .ok (.iadd, 1) := by decide +kernel
theorem dX12_long0_28 : decode cX12_long0 28 = .ok (.iconst 1, 1) := by decide +kernel
theorem dX12_long0_29 : decode cX12_long0 29 = .ok (.isub, 1) := by decide +kernel
theorem dX12_long0_30 : decode cX12_long0 30 = .ok (.iload_n 3, 1) := by decide +kernel
theorem dX12_long0_31 : decode cX12_long0 31 = .ok (.idiv, 1) := by decide +kernel
theorem dX12_long0_32 : decode cX12_long0 32 = .ok (.iconst 2, 1) := by decide +kernel
theorem dX12_long0_33 : decode cX12_long0 33 = .ok (.iadd, 1) := by decide +kernel
theorem dX12_long0_34 : decode cX12_long0 34 = .ok (.ireturn, 1) := by decide +kernel
theorem dX12_awake_0 : decode cX12_awake 0 = .ok (.iconst 0, 1) := by decide +kernel
theorem dX12_awake_1 : decode cX12_awake 1 = .ok (.istore_n 1, 1) := by decide +kernel
theorem dX12_awake_2 : decode cX12_awake 2 = .ok (.iconst 0, 1) := by decide +kernel
theorem dX12_awake_3 : decode cX12_awake 3 = .ok (.istore_n 2, 1) := by decide +kernel
theorem dX12_awake_4 : decode cX12_awake 4 = .ok (.iload_n 2, 1) := by decide +kernel
theorem dX12_awake_5 : decode cX12_awake 5 = .ok (.aload_n 0, 1) := by decide +kernel
theorem dX12_awake_6 : decode cX12_awake 6 = .ok (.getfield 161, 3) := by decide +kernel
theorem dX12_awake_9 : decode cX12_awake 9 = .ok (.if_icmp .ge 26, 3) := by decide +kernel
theorem dX12_awake_12 : decode cX12_awake 12 = .ok (.iload_n 1, 1) := by decide +kernel
theorem dX12_awake_13 : decode cX12_awake 13 = .ok (.aload_n 0, 1) := by decide +kernel
theorem dX12_awake_14 : decode cX12_awake 14 = .ok (.getfield 16, 3) := by decide +kernel
theorem dX12_awake_17 : decode cX12_awake 17 = .ok (.iload_n 2, 1) := by decide +kernel
theorem dX12_awake_18 : decode cX12_awake 18 = .ok (.baload, 1) := by decide +kernel
theorem dX12_awake_19 : decode cX12_awake 19 = .ok (.ifCond .eq 7, 3) := by decide +kernel
theorem dX12_awake_22 : decode cX12_awake 22 = .ok (.iconst 1, 1) := by decide +kernel
theorem dX12_awake_23 : decode cX12_awake 23 = .ok (.goto 4, 3) := by decide +kernel
theorem dX12_awake_26 : decode cX12_awake 26 = .ok (.iconst 0, 1) := by decide +kernel
theorem dX12_awake_27 : decode cX12_awake 27 = .ok (.iadd, 1) := by decide +kernel
theorem dX12_awake_28 : decode cX12_awake 28 = .ok (.istore_n 1, 1) := by decide +kernel
theorem dX12_awake_29 : decode cX12_awake 29 = .ok (.iinc 2 1, 3) := by decide +kernel
theorem dX12_awake_32 : decode cX12_awake 32 = .ok (.goto (-28), 3) := by decide +kernel
theorem dX12_awake_35 : decode cX12_awake 35 = .ok (.iload_n 1, 1) := by decide +kernel
theorem dX12_awake_36 : decode cX12_awake 36 = .ok (.ireturn, 1) := by decide +kernel
theorem dX12_isMost_0 : decode cX12_isMost 0 = .ok (.iconst 2, 1) := by decide +kernel
theorem dX12_isMost_1 : decode cX12_isMost 1 = .ok (.aload_n 0, 1) := by decide +kernel
theorem dX12_isMost_2 : decode cX12_isMost 2 = .ok (.invokevirtual 199, 3) := by decide +kernel
theorem dX12_isMost_5 : decode cX12_isMost 5 = .ok (.imul, 1) := by decide +kernel
theorem dX12_isMost_6 : decode cX12_isMost 6 = .ok (.aload_n 0, 1) := by decide +kernel
theorem dX12_isMost_7 : decode cX12_isMost 7 = .ok (.getfield 161, 3) := by decide +kernel
theorem dX12_isMost_10 : decode cX12_isMost 10 = .ok (.if_icmp .le 7, 3) := by decide +kernel
theorem dX12_isMost_13 : decode cX12_isMost 13 = .ok (.iconst 1, 1) := by decide +kernel
theorem dX12_isMost_14 : decode cX12_isMost 14 = .ok (.goto 4, 3) := by decide +kernel
theorem dX12_isMost_17 : decode cX12_isMost 17 = .ok (.iconst 0, 1) := by decide +kernel
theorem dX12_isMost_18 : decode cX12_isMost 18 = .ok (.ireturn, 1) := by decide +kernel
theorem dX12_wake_0 : decode cX12_wake 0 = .ok (.iload_n 1, 1) := by decide +kernel
theorem dX12_wake_1 : decode cX12_wake 1 = .ok (.ifCond .ne 62, 3) := by decide +kernel
theorem dX12_wake_4 : decode cX12_wake 4 = .ok (.aload_n 0, 1) := by decide +kernel
theorem dX12_wake_5 : decode cX12_wake 5 = .ok (.iload_n 2, 1) := by decide +kernel
theorem dX12_wake_6 : decode cX12_wake 6 = .ok (.invokevirtual 183, 3) := by decide +kernel
theorem dX12_wake_9 : decode cX12_wake 9 = .ok (.ifCond .eq 54, 3) := by decide +kernel
theorem dX12_wake_12 : decode cX12_wake 12 = .ok (.aload_n 0, 1) := by decide +kernel
theorem dX12_wake_13 : decode cX12_wake 13 = .ok (.getfield 16, 3) := by decide +kernel
theorem dX12_wake_16 : decode cX12_wake 16 = .ok (.iload_n 2, 1) := by decide +kernel
theorem dX12_wake_17 : decode cX12_wake 17 = .ok (.baload, 1) := by decide +kernel
theorem dX12_wake_18 : decode cX12_wake 18 = .ok (.istore 4, 2) := by decide +kernel
theorem dX12_wake_20 : decode cX12_wake 20 = .ok (.aload_n 0, 1) := by decide +kernel
theorem dX12_wake_21 : decode cX12_wake 21 = .ok (.getfield 16, 3) := by decide +kernel
theorem dX12_wake_24 : decode cX12_wake 24 = .ok (.iload_n 2, 1) := by decide +kernel
theorem dX12_wake_25 : decode cX12_wake 25 = .ok (.iload_n 3, 1) := by decide +kernel
theorem dX12_wake_26 : decode cX12_wake 26 = .ok (.bastore, 1) := by decide +kernel
theorem dX12_wake_27 : decode cX12_wake 27 = .ok (.aload_n 0, 1) := by decide +kernel
theorem dX12_wake_28 : decode cX12_wake 28 = .ok (.aload_n 0, 1) := by decide +kernel
theorem dX12_wake_29 : decode cX12_wake 29 = .ok (.getfield 78, 3) := by decide +kernel
theorem dX12_wake_32 : decode cX12_wake 32 = .ok (.iload_n 2, 1) := by decide +kernel
theorem dX12_wake_33 : decode cX12_wake 33 = .ok (.if_icmp .ne 11, 3) := by decide +kernel
theorem dX12_wake_36 : decode cX12_wake 36 = .ok (.iload_n 3, 1) := by decide +kernel
theorem dX12_wake_37 : decode cX12_wake 37 = .ok (.ifCond .ne 7, 3) := by decide +kernel
theorem dX12_wake_40 : decode cX12_wake 40 = .ok (.iconst (-1), 1) := by decide +kernel
theorem dX12_wake_41 : decode cX12_wake 41 = .ok (.goto 7, 3) := by decide +kernel
theorem dX12_wake_44 : decode cX12_wake 44 = .ok (.aload_n 0, 1) := by decide +kernel
theorem dX12_wake_45 : decode cX12_wake 45 = .ok (.getfield 78, 3) := by decide +kernel
theorem dX12_wake_48 : decode cX12_wake 48 = .ok (.putfield 78, 3) := by decide +kernel
theorem dX12_wake_51 : decode cX12_wake 51 = .ok (.iload 4, 2) := by decide +kernel
theorem dX12_wake_53 : decode cX12_wake 53 = .ok (.iload_n 3, 1) := by decide +kernel
theorem dX12_wake_54 : decode cX12_wake 54 = .ok (.if_icmp .ne 7, 3) := by decide +kernel
theorem dX12_wake_57 : decode cX12_wake 57 = .ok (.iconst 0, 1) := by decide +kernel
theorem dX12_wake_58 : decode cX12_wake 58 = .ok (.goto 4, 3) := by decide +kernel
theorem dX12_wake_61 : decode cX12_wake 61 = .ok (.iconst 1, 1) := by decide +kernel
theorem dX12_wake_62 : decode cX12_wake 62 = .ok (.ireturn, 1) := by decide +kernel
theorem dX12_wake_63 : decode cX12_wake 63 = .ok (.iload_n 1, 1) := by decide +kernel
theorem dX12_wake_64 : decode cX12_wake 64 = .ok (.iconst 1, 1) := by decide +kernel
theorem dX12_wake_65 : decode cX12_wake 65 = .ok (.if_icmp .ne 38, 3) := by decide +kernel
theorem dX12_wake_68 : decode cX12_wake 68 = .ok (.aload_n 0, 1) := by decide +kernel
theorem dX12_wake_69 : decode cX12_wake 69 = .ok (.iload_n 2, 1) := by decide +kernel
theorem dX12_wake_70 : decode cX12_wake 70 = .ok (.invokevirtual 191, 3) := by decide +kernel
theorem dX12_wake_73 : decode cX12_wake 73 = .ok (.ifCond .eq 30, 3) := by decide +kernel
theorem dX12_wake_76 : decode cX12_wake 76 = .ok (.aload_n 0, 1) := by decide +kernel
theorem dX12_wake_77 : decode cX12_wake 77 = .ok (.getfield 29, 3) := by decide +kernel
theorem dX12_wake_80 : decode cX12_wake 80 = .ok (.iload_n 2, 1) := by decide +kernel
theorem dX12_wake_81 : decode cX12_wake 81 = .ok (.baload, 1) := by decide +kernel
theorem dX12_wake_82 : decode cX12_wake 82 = .ok (.istore 4, 2) := by decide +kernel
theorem dX12_wake_84 : decode cX12_wake 84 = .ok (.aload_n 0, 1) := by decide +kernel
theorem dX12_wake_85 : decode cX12_wake 85 = .ok (.getfield 29, 3) := by decide +kernel
theorem dX12_wake_88 : decode cX12_wake 88 = .ok (.iload_n 2, 1) := by decide +kernel
theorem dX12_wake_89 : decode cX12_wake 89 = .ok (.iload_n 3, 1) := by decide +kernel
theorem dX12_wake_90 : decode cX12_wake 90 = .ok (.bastore, 1) := by decide +kernel
theorem dX12_wake_91 : decode cX12_wake 91 = .ok (.iload 4, 2) := by decide +kernel
theorem dX12_wake_93 : decode cX12_wake 93 = .ok (.iload_n 3, 1) := by decide +kernel
theorem dX12_wake_94 : decode cX12_wake 94 = .ok (.if_icmp .ne 7, 3) := by decide +kernel
theorem dX12_wake_97 : decode cX12_wake 97 = .ok (.iconst 0, 1) := by decide +kernel
theorem dX12_wake_98 : decode cX12_wake 98 = .ok (.goto 4, 3) := by decide +kernel
theorem dX12_wake_101 : decode cX12_wake 101 = .ok (.iconst 1, 1) := by decide +kernel
theorem dX12_wake_102 : decode cX12_wake 102 = .ok (.ireturn, 1) := by decide +kernel
theorem dX12_wake_103 : decode cX12_wake 103 = .ok (.bipush (-2), 2) := by decide +kernel
theorem dX12_wake_105 : decode cX12_wake 105 = .ok (.ireturn, 1) := by decide +kernel
theorem dX12_fall_0 : decode cX12_fall 0 = .ok (.aload_n 0, 1) := by decide +kernel
theorem dX12_fall_1 : decode cX12_fall 1 = .ok (.iload_n 1, 1) := by decide +kernel
theorem dX12_fall_2 : decode cX12_fall 2 = .ok (.invokevirtual 191, 3) := by decide +kernel
theorem dX12_fall_5 : decode cX12_fall 5 = .ok (.ifCond .ne 6, 3) := by decide +kernel
theorem dX12_fall_8 : decode cX12_fall 8 = .ok (.bipush (-2), 2) := by decide +kernel
theorem dX12_fall_10 : decode cX12_fall 10 = .ok (.ireturn, 1) := by decide +kernel
theorem dX12_fall_11 : decode cX12_fall 11 = .ok (.iconst 0, 1) := by decide +kernel
theorem dX12_fall_12 : decode cX12_fall 12 = .ok (.istore_n 2, 1) := by decide +kernel
theorem dX12_fall_13 : decode cX12_fall 13 = .ok (.iconst 0, 1) := by decide +kernel
theorem dX12_fall_14 : decode cX12_fall 14 = .ok (.istore_n 3, 1) := by decide +kernel
theorem dX12_fall_15 : decode cX12_fall 15 = .ok (.iload_n 3, 1) := by decide +kernel
theorem dX12_fall_16 : decode cX12_fall 16 = .ok (.bipush 20, 2) := by decide +kernel
theorem dX12_fall_18 : decode cX12_fall 18 = .ok (.if_icmp .ge 55, 3) := by decide +kernel
theorem dX12_fall_21 : decode cX12_fall 21 = .ok (.iload_n 2, 1) := by decide +kernel
theorem dX12_fall_22 : decode cX12_fall 22 = .ok (.aload_n 0, 1) := by decide +kernel
theorem dX12_fall_23 : decode cX12_fall 23 = .ok (.getfield 82, 3) := by decide +kernel
theorem dX12_fall_26 : decode cX12_fall 26 = .ok (.bipush 20, 2) := by decide +kernel
theorem dX12_fall_28 : decode cX12_fall 28 = .ok (.iload_n 1, 1) := by decide +kernel
theorem dX12_fall_29 : decode cX12_fall 29 = .ok (.imul, 1) := by decide +kernel
theorem dX12_fall_30 : decode cX12_fall 30 = .ok (.iload_n 3, 1) := by decide +kernel
theorem dX12_fall_31 : decode cX12_fall 31 = .ok (.iadd, 1) := by decide +kernel
theorem dX12_fall_32 : decode cX12_fall 32 = .ok (.baload, 1) := by decide +kernel
theorem dX12_fall_33 : decode cX12_fall 33 = .ok (.ifCond .eq 7, 3) := by decide +kernel
theorem dX12_fall_36 : decode cX12_fall 36 = .ok (.iconst 1, 1) := by decide +kernel
theorem dX12_fall_37 : decode cX12_fall 37 = .ok (.goto 4, 3) := by decide +kernel
theorem dX12_fall_40 : decode cX12_fall 40 = .ok (.iconst 0, 1) := by decide +kernel
theorem dX12_fall_41 : decode cX12_fall 41 = .ok (.iadd, 1) := by decide +kernel
theorem dX12_fall_42 : decode cX12_fall 42 = .ok (.istore_n 2, 1) := by decide +kernel
theorem dX12_fall_43 : decode cX12_fall 43 = .ok (.aload_n 0, 1) := by decide +kernel
theorem dX12_fall_44 : decode cX12_fall 44 = .ok (.getfield 82, 3) := by decide +kernel
theorem dX12_fall_47 : decode cX12_fall 47 = .ok (.bipush 20, 2) := by decide +kernel
theorem dX12_fall_49 : decode cX12_fall 49 = .ok (.iload_n 1, 1) := by decide +kernel
theorem dX12_fall_50 : decode cX12_fall 50 = .ok (.imul, 1) := by decide +kernel
theorem dX12_fall_51 : decode cX12_fall 51 = .ok (.iload_n 3, 1) := by decide +kernel
theorem dX12_fall_52 : decode cX12_fall 52 = .ok (.iadd, 1) := by decide +kernel
theorem dX12_fall_53 : decode cX12_fall 53 = .ok (.iconst 0, 1) := by decide +kernel
theorem dX12_fall_54 : decode cX12_fall 54 = .ok (.bastore, 1) := by decide +kernel
theorem dX12_fall_55 : decode cX12_fall 55 = .ok (.aload_n 0, 1) := by decide +kernel
theorem dX12_fall_56 : decode cX12_fall 56 = .ok (.getfield 91, 3) := by decide +kernel
theorem dX12_fall_59 : decode cX12_fall 59 = .ok (.bipush 20, 2) := by decide +kernel
theorem dX12_fall_61 : decode cX12_fall 61 = .ok (.iload_n 1, 1) := by decide +kernel
theorem dX12_fall_62 : decode cX12_fall 62 = .ok (.imul, 1) := by decide +kernel
theorem dX12_fall_63 : decode cX12_fall 63 = .ok (.iload_n 3, 1) := by decide +kernel
theorem dX12_fall_64 : decode cX12_fall 64 = .ok (.iadd, 1) := by decide +kernel
theorem dX12_fall_65 : decode cX12_fall 65 = .ok (.iconst 0, 1) := by decide +kernel
theorem dX12_fall_66 : decode cX12_fall 66 = .ok (.iastore, 1) := by decide +kernel
theorem dX12_fall_67 : decode cX12_fall 67 = .ok (.iinc 3 1, 3) := by decide +kernel
theorem dX12_fall_70 : decode cX12_fall 70 = .ok (.goto (-55), 3) := by decide +kernel
theorem dX12_fall_73 : decode cX12_fall 73 = .ok (.aload_n 0, 1) := by decide +kernel
theorem dX12_fall_74 : decode cX12_fall 74 = .ok (.getfield 29, 3) := by decide +kernel
theorem dX12_fall_77 : decode cX12_fall 77 = .ok (.iload_n 1, 1) := by decide +kernel
theorem dX12_fall_78 : decode cX12_fall 78 = .ok (.iconst 0, 1) := by decide +kernel
theorem dX12_fall_79 : decode cX12_fall 79 = .ok (.bastore, 1) := by decide +kernel
theorem dX12_fall_80 : decode cX12_fall 80 = .ok (.iload_n 2, 1) := by decide +kernel
theorem dX12_fall_81 : decode cX12_fall 81 = .ok (.ireturn, 1) := by decide +kernel
theorem dX12_lead_0 : decode cX12_lead 0 = .ok (.aload_n 0, 1) := by decide +kernel
theorem dX12_lead_1 : decode cX12_lead 1 = .ok (.iload_n 1, 1) := by decide +kernel
theorem dX12_lead_2 : decode cX12_lead 2 = .ok (.invokevirtual 183, 3) := by decide +kernel
theorem dX12_lead_5 : decode cX12_lead 5 = .ok (.ifCond .ne 6, 3) := by decide +kernel
theorem dX12_lead_8 : decode cX12_lead 8 = .ok (.bipush (-2), 2) := by decide +kernel
theorem dX12_lead_10 : decode cX12_lead 10 = .ok (.ireturn, 1) := by decide +kernel
theorem dX12_lead_11 : decode cX12_lead 11 = .ok (.aload_n 0, 1) := by decide +kernel
theorem dX12_lead_12 : decode cX12_lead 12 = .ok (.getfield 16, 3) := by decide +kernel
theorem dX12_lead_15 : decode cX12_lead 15 = .ok (.iload_n 1, 1) := by decide +kernel
theorem dX12_lead_16 : decode cX12_lead 16 = .ok (.baload, 1) := by decide +kernel
theorem dX12_lead_17 : decode cX12_lead 17 = .ok (.ifCond .eq 10, 3) := by decide +kernel
theorem dX12_lead_20 : decode cX12_lead 20 = .ok (.aload_n 0, 1) := by decide +kernel
theorem dX12_lead_21 : decode cX12_lead 21 = .ok (.invokevirtual 203, 3) := by decide +kernel
theorem dX12_lead_24 : decode cX12_lead 24 = .ok (.ifCond .ne 6, 3) := by decide +kernel
theorem dX12_lead_27 : decode cX12_lead 27 = .ok (.bipush (-3), 2) := by decide +kernel
theorem dX12_lead_29 : decode cX12_lead 29 = .ok (.ireturn, 1) := by decide +kernel
theorem dX12_lead_30 : decode cX12_lead 30 = .ok (.aload_n 0, 1) := by decide +kernel
theorem dX12_lead_31 : decode cX12_lead 31 = .ok (.iload_n 1, 1) := by decide +kernel
theorem dX12_lead_32 : decode cX12_lead 32 = .ok (.putfield 78, 3) := by decide +kernel
theorem dX12_lead_35 : decode cX12_lead 35 = .ok (.aload_n 0, 1) := by decide +kernel
theorem dX12_lead_36 : decode cX12_lead 36 = .ok (.dup, 1) := by decide +kernel
theorem dX12_lead_37 : decode cX12_lead 37 = .ok (.getfield 207, 3) := by decide +kernel
theorem dX12_lead_40 : decode cX12_lead 40 = .ok (.iconst 1, 1) := by decide +kernel
theorem dX12_lead_41 : decode cX12_lead 41 = .ok (.iadd, 1) := by decide +kernel
theorem dX12_lead_42 : decode cX12_lead 42 = .ok (.putfield 207, 3) := by decide +kernel
theorem dX12_lead_45 : decode cX12_lead 45 = .ok (.iconst 0, 1) := by decide +kernel
theorem dX12_lead_46 : decode cX12_lead 46 = .ok (.istore_n 2, 1) := by decide +kernel
theorem dX12_lead_47 : decode cX12_lead 47 = .ok (.iload_n 2, 1) := by decide +kernel
theorem dX12_lead_48 : decode cX12_lead 48 = .ok (.aload_n 0, 1) := by decide +kernel
theorem dX12_lead_49 : decode cX12_lead 49 = .ok (.getfield 167, 3) := by decide +kernel
theorem dX12_lead_52 : decode cX12_lead 52 = .ok (.if_icmp .ge 62, 3) := by decide +kernel
theorem dX12_lead_55 : decode cX12_lead 55 = .ok (.aload_n 0, 1) := by decide +kernel
theorem dX12_lead_56 : decode cX12_lead 56 = .ok (.iload_n 1, 1) := by decide +kernel
theorem dX12_lead_57 : decode cX12_lead 57 = .ok (.invokevirtual 187, 3) := by decide +kernel
theorem dX12_lead_60 : decode cX12_lead 60 = .ok (.aload_n 0, 1) := by decide +kernel
theorem dX12_lead_61 : decode cX12_lead 61 = .ok (.iload_n 2, 1) := by decide +kernel
theorem dX12_lead_62 : decode cX12_lead 62 = .ok (.invokevirtual 210, 3) := by decide +kernel
theorem dX12_lead_65 : decode cX12_lead 65 = .ok (.i2l, 1) := by decide +kernel
theorem dX12_lead_66 : decode cX12_lead 66 = .ok (.ladd, 1) := by decide +kernel
theorem dX12_lead_67 : decode cX12_lead 67 = .ok (.lstore_n 3, 1) := by decide +kernel
theorem dX12_lead_68 : decode cX12_lead 68 = .ok (.iconst 0, 1) := by decide +kernel
theorem dX12_lead_69 : decode cX12_lead 69 = .ok (.istore 5, 2) := by decide +kernel
theorem dX12_lead_71 : decode cX12_lead 71 = .ok (.iload 5, 2) := by decide +kernel
theorem dX12_lead_73 : decode cX12_lead 73 = .ok (.aload_n 0, 1) := by decide +kernel
theorem dX12_lead_74 : decode cX12_lead 74 = .ok (.getfield 60, 3) := by decide +kernel
theorem dX12_lead_77 : decode cX12_lead 77 = .ok (.iload_n 2, 1) := by decide +kernel
theorem dX12_lead_78 : decode cX12_lead 78 = .ok (.iaload, 1) := by decide +kernel
theorem dX12_lead_79 : decode cX12_lead 79 = .ok (.if_icmp .ge 22, 3) := by decide +kernel
theorem dX12_lead_82 : decode cX12_lead 82 = .ok (.aload_n 0, 1) := by decide +kernel
theorem dX12_lead_83 : decode cX12_lead 83 = .ok (.getfield 75, 3) := by decide +kernel
theorem dX12_lead_86 : decode cX12_lead 86 = .ok (.bipush 20, 2) := by decide +kernel
theorem dX12_lead_88 : decode cX12_lead 88 = .ok (.iload_n 2, 1) := by decide +kernel
theorem dX12_lead_89 : decode cX12_lead 89 = .ok (.imul, 1) := by decide +kernel
theorem dX12_lead_90 : decode cX12_lead 90 = .ok (.iload 5, 2) := by decide +kernel
theorem dX12_lead_92 : decode cX12_lead 92 = .ok (.iadd, 1) := by decide +kernel
theorem dX12_lead_93 : decode cX12_lead 93 = .ok (.lload_n 3, 1) := by decide +kernel
theorem dX12_lead_94 : decode cX12_lead 94 = .ok (.lastore, 1) := by decide +kernel
theorem dX12_lead_95 : decode cX12_lead 95 = .ok (.iinc 5 1, 3) := by decide +kernel
theorem dX12_lead_98 : decode cX12_lead 98 = .ok (.goto (-27), 3) := by decide +kernel
theorem dX12_lead_101 : decode cX12_lead 101 = .ok (.aload_n 0, 1) := by decide +kernel
theorem dX12_lead_102 : decode cX12_lead 102 = .ok (.getfield 54, 3) := by decide +kernel
theorem dX12_lead_105 : decode cX12_lead 105 = .ok (.iload_n 2, 1) := by decide +kernel
theorem dX12_lead_106 : decode cX12_lead 106 = .ok (.lload_n 3, 1) := by decide +kernel
theorem dX12_lead_107 : decode cX12_lead 107 = .ok (.lastore, 1) := by decide +kernel
theorem dX12_lead_108 : decode cX12_lead 108 = .ok (.iinc 2 1, 3) := by decide +kernel
theorem dX12_lead_111 : decode cX12_lead 111 = .ok (.goto (-64), 3) := by decide +kernel
theorem dX12_lead_114 : decode cX12_lead 114 = .ok (.aload_n 0, 1) := by decide +kernel
theorem dX12_lead_115 : decode cX12_lead 115 = .ok (.getfield 207, 3) := by decide +kernel
theorem dX12_lead_118 : decode cX12_lead 118 = .ok (.ireturn, 1) := by decide +kernel
theorem dX12_send_0 : decode cX12_send 0 = .ok (.aload_n 0, 1) := by decide +kernel
theorem dX12_send_1 : decode cX12_send 1 = .ok (.getfield 178, 3) := by decide +kernel
theorem dX12_send_4 : decode cX12_send 4 = .ok (.istore 5, 2) := by decide +kernel
theorem dX12_send_6 : decode cX12_send 6 = .ok (.aload_n 0, 1) := by decide +kernel
theorem dX12_send_7 : decode cX12_send 7 = .ok (.dup, 1) := by decide +kernel
theorem dX12_send_8 : decode cX12_send 8 = .ok (.getfield 178, 3) := by decide +kernel
theorem dX12_send_11 : decode cX12_send 11 = .ok (.iconst 1, 1) := by decide +kernel
theorem dX12_send_12 : decode cX12_send 12 = .ok (.iadd, 1) := by decide +kernel
theorem dX12_send_13 : decode cX12_send 13 = .ok (.putfield 178, 3) := by decide +kernel
theorem dX12_send_16 : decode cX12_send 16 = .ok (.aload_n 0, 1) := by decide +kernel
theorem dX12_send_17 : decode cX12_send 17 = .ok (.getfield 100, 3) := by decide +kernel
theorem dX12_send_20 : decode cX12_send 20 = .ok (.iload 5, 2) := by decide +kernel
theorem dX12_send_22 : decode cX12_send 22 = .ok (.iload_n 1, 1) := by decide +kernel
theorem dX12_send_23 : decode cX12_send 23 = .ok (.iastore, 1) := by decide +kernel
theorem dX12_send_24 : decode cX12_send 24 = .ok (.aload_n 0, 1) := by decide +kernel
theorem dX12_send_25 : decode cX12_send 25 = .ok (.getfield 103, 3) := by decide +kernel
theorem dX12_send_28 : decode cX12_send 28 = .ok (.iload 5, 2) := by decide +kernel
theorem dX12_send_30 : decode cX12_send 30 = .ok (.iload_n 2, 1) := by decide +kernel
theorem dX12_send_31 : decode cX12_send 31 = .ok (.iastore, 1) := by decide +kernel
theorem dX12_send_32 : decode cX12_send 32 = .ok (.aload_n 0, 1) := by decide +kernel
theorem dX12_send_33 : decode cX12_send 33 = .ok (.getfield 106, 3) := by decide +kernel
theorem dX12_send_36 : decode cX12_send 36 = .ok (.iload 5, 2) := by decide +kernel
theorem dX12_send_38 : decode cX12_send 38 = .ok (.iload_n 3, 1) := by decide +kernel
theorem dX12_send_39 : decode cX12_send 39 = .ok (.iastore, 1) := by decide +kernel
theorem dX12_send_40 : decode cX12_send 40 = .ok (.aload_n 0, 1) := by decide +kernel
theorem dX12_send_41 : decode cX12_send 41 = .ok (.getfield 109, 3) := by decide +kernel
theorem dX12_send_44 : decode cX12_send 44 = .ok (.iload 5, 2) := by decide +kernel
theorem dX12_send_46 : decode cX12_send 46 = .ok (.iload 4, 2) := by decide +kernel
theorem dX12_send_48 : decode cX12_send 48 = .ok (.iastore, 1) := by decide +kernel
theorem dX12_send_49 : decode cX12_send 49 = .ok (.aload_n 0, 1) := by decide +kernel
theorem dX12_send_50 : decode cX12_send 50 = .ok (.getfield 112, 3) := by decide +kernel
theorem dX12_send_53 : decode cX12_send 53 = .ok (.iload 5, 2) := by decide +kernel
theorem dX12_send_55 : decode cX12_send 55 = .ok (.iconst 0, 1) := by decide +kernel
theorem dX12_send_56 : decode cX12_send 56 = .ok (.iastore, 1) := by decide +kernel
theorem dX12_send_57 : decode cX12_send 57 = .ok (.aload_n 0, 1) := by decide +kernel
theorem dX12_send_58 : decode cX12_send 58 = .ok (.getfield 115, 3) := by decide +kernel
theorem dX12_send_61 : decode cX12_send 61 = .ok (.iload 5, 2) := by decide +kernel
theorem dX12_send_63 : decode cX12_send 63 = .ok (.iconst 0, 1) := by decide +kernel
theorem dX12_send_64 : decode cX12_send 64 = .ok (.iastore, 1) := by decide +kernel
theorem dX12_send_65 : decode cX12_send 65 = .ok (.aload_n 0, 1) := by decide +kernel
theorem dX12_send_66 : decode cX12_send 66 = .ok (.getfield 118, 3) := by decide +kernel
theorem dX12_send_69 : decode cX12_send 69 = .ok (.iload 5, 2) := by decide +kernel
theorem dX12_send_71 : decode cX12_send 71 = .ok (.iconst 0, 1) := by decide +kernel
theorem dX12_send_72 : decode cX12_send 72 = .ok (.iastore, 1) := by decide +kernel
theorem dX12_send_73 : decode cX12_send 73 = .ok (.aload_n 0, 1) := by decide +kernel
theorem dX12_send_74 : decode cX12_send 74 = .ok (.getfield 121, 3) := by decide +kernel
theorem dX12_send_77 : decode cX12_send 77 = .ok (.iload 5, 2) := by decide +kernel
theorem dX12_send_79 : decode cX12_send 79 = .ok (.iconst 0, 1) := by decide +kernel
theorem dX12_send_80 : decode cX12_send 80 = .ok (.iastore, 1) := by decide +kernel
theorem dX12_send_81 : decode cX12_send 81 = .ok (.aload_n 0, 1) := by decide +kernel
theorem dX12_send_82 : decode cX12_send 82 = .ok (.getfield 124, 3) := by decide +kernel
theorem dX12_send_85 : decode cX12_send 85 = .ok (.iload 5, 2) := by decide +kernel
theorem dX12_send_87 : decode cX12_send 87 = .ok (.lconst 0, 1) := by decide +kernel
theorem dX12_send_88 : decode cX12_send 88 = .ok (.lastore, 1) := by decide +kernel
theorem dX12_send_89 : decode cX12_send 89 = .ok (.aload_n 0, 1) := by decide +kernel
theorem dX12_send_90 : decode cX12_send 90 = .ok (.getfield 127, 3) := by decide +kernel
theorem dX12_send_93 : decode cX12_send 93 = .ok (.iload 5, 2) := by decide +kernel
theorem dX12_send_95 : decode cX12_send 95 = .ok (.lconst 0, 1) := by decide +kernel
theorem dX12_send_96 : decode cX12_send 96 = .ok (.lastore, 1) := by decide +kernel
theorem dX12_send_97 : decode cX12_send 97 = .ok (.iload 5, 2) := by decide +kernel
theorem dX12_send_99 : decode cX12_send 99 = .ok (.ireturn, 1) := by decide +kernel
theorem dX12_areThere_0 : decode cX12_areThere 0 = .ok (.aload_n 0, 1) := by decide +kernel
theorem dX12_areThere_1 : decode cX12_areThere 1 = .ok (.iload_n 1, 1) := by decide +kernel
theorem dX12_areThere_2 : decode cX12_areThere 2 = .ok (.invokevirtual 191, 3) := by decide +kernel
theorem dX12_areThere_5 : decode cX12_areThere 5 = .ok (.ifCond .eq 23, 3) := by decide +kernel
theorem dX12_areThere_8 : decode cX12_areThere 8 = .ok (.aload_n 0, 1) := by decide +kernel
theorem dX12_areThere_9 : decode cX12_areThere 9 = .ok (.iload_n 2, 1) := by decide +kernel
theorem dX12_areThere_10 : decode cX12_areThere 10 = .ok (.invokevirtual 183, 3) := by decide +kernel
theorem dX12_areThere_13 : decode cX12_areThere 13 = .ok (.ifCond .eq 15, 3) := by decide +kernel
theorem dX12_areThere_16 : decode cX12_areThere 16 = .ok (.aload_n 0, 1) := by decide +kernel
theorem dX12_areThere_17 : decode cX12_areThere 17 = .ok (.iload_n 3, 1) := by decide +kernel
theorem dX12_areThere_18 : decode cX12_areThere 18 = .ok (.invokevirtual 214, 3) := by decide +kernel
theorem dX12_areThere_21 : decode cX12_areThere 21 = .ok (.ifCond .eq 7, 3) := by decide +kernel
theorem dX12_areThere_24 : decode cX12_areThere 24 = .ok (.iconst 1, 1) := by decide +kernel
theorem dX12_areThere_25 : decode cX12_areThere 25 = .ok (.goto 4, 3) := by decide +kernel
theorem dX12_areThere_28 : decode cX12_areThere 28 = .ok (.iconst 0, 1) := by decide +kernel
theorem dX12_areThere_29 : decode cX12_areThere 29 = .ok (.ireturn, 1) := by decide +kernel
theorem dX12_marked_0 : decode cX12_marked 0 = .ok (.aload_n 0, 1) := by decide +kernel
theorem dX12_marked_1 : decode cX12_marked 1 = .ok (.getfield 178, 3) := by decide +kernel
theorem dX12_marked_4 : decode cX12_marked 4 = .ok (.sipush 400, 3) := by decide +kernel
theorem dX12_marked_7 : decode cX12_marked 7 = .ok (.if_icmp .ne 6, 3) := by decide +kernel
theorem dX12_marked_10 : decode cX12_marked 10 = .ok (.bipush (-4), 2) := by decide +kernel
theorem dX12_marked_12 : decode cX12_marked 12 = .ok (.ireturn, 1) := by decide +kernel
theorem dX12_marked_13 : decode cX12_marked 13 = .ok (.aload_n 0, 1) := by decide +kernel
theorem dX12_marked_14 : decode cX12_marked 14 = .ok (.iload_n 1, 1) := by decide +kernel
theorem dX12_marked_15 : decode cX12_marked 15 = .ok (.iload_n 2, 1) := by decide +kernel
theorem dX12_marked_16 : decode cX12_marked 16 = .ok (.iload_n 3, 1) := by decide +kernel
theorem dX12_marked_17 : decode cX12_marked 17 = .ok (.iload 4, 2) := by decide +kernel
theorem dX12_marked_19 : decode cX12_marked 19 = .ok (.invokevirtual 217, 3) := by decide +kernel
theorem dX12_marked_22 : decode cX12_marked 22 = .ok (.istore 9, 2) := by decide +kernel
theorem dX12_marked_24 : decode cX12_marked 24 = .ok (.aload_n 0, 1) := by decide +kernel
theorem dX12_marked_25 : decode cX12_marked 25 = .ok (.getfield 112, 3) := by decide +kernel
theorem dX12_marked_28 : decode cX12_marked 28 = .ok (.iload 9, 2) := by decide +kernel
theorem dX12_marked_30 : decode cX12_marked 30 = .ok (.iload 5, 2) := by decide +kernel
theorem dX12_marked_32 : decode cX12_marked 32 = .ok (.iastore, 1) := by decide +kernel
theorem dX12_marked_33 : decode cX12_marked 33 = .ok (.aload_n 0, 1) := by decide +kernel
theorem dX12_marked_34 : decode cX12_marked 34 = .ok (.getfield 115, 3) := by decide +kernel
theorem dX12_marked_37 : decode cX12_marked 37 = .ok (.iload 9, 2) := by decide +kernel
theorem dX12_marked_39 : decode cX12_marked 39 = .ok (.iload 6, 2) := by decide +kernel
theorem dX12_marked_41 : decode cX12_marked 41 = .ok (.iastore, 1) := by decide +kernel
theorem dX12_marked_42 : decode cX12_marked 42 = .ok (.aload_n 0, 1) := by decide +kernel
theorem dX12_marked_43 : decode cX12_marked 43 = .ok (.getfield 124, 3) := by decide +kernel
theorem dX12_marked_46 : decode cX12_marked 46 = .ok (.iload 9, 2) := by decide +kernel
theorem dX12_marked_48 : decode cX12_marked 48 = .ok (.lload 7, 2) := by decide +kernel
theorem dX12_marked_50 : decode cX12_marked 50 = .ok (.lastore, 1) := by decide +kernel
theorem dX12_marked_51 : decode cX12_marked 51 = .ok (.aload_n 0, 1) := by decide +kernel
theorem dX12_marked_52 : decode cX12_marked 52 = .ok (.getfield 26, 3) := by decide +kernel
theorem dX12_marked_55 : decode cX12_marked 55 = .ok (.iload_n 2, 1) := by decide +kernel
theorem dX12_marked_56 : decode cX12_marked 56 = .ok (.dup2, 1) := by decide +kernel
theorem dX12_marked_57 : decode cX12_marked 57 = .ok (.iaload, 1) := by decide +kernel
theorem dX12_marked_58 : decode cX12_marked 58 = .ok (.iconst 1, 1) := by decide +kernel
theorem dX12_marked_59 : decode cX12_marked 59 = .ok (.iadd, 1) := by decide +kernel
theorem dX12_marked_60 : decode cX12_marked 60 = .ok (.iastore, 1) := by decide +kernel
theorem dX12_marked_61 : decode cX12_marked 61 = .ok (.aload_n 0, 1) := by decide +kernel
theorem dX12_marked_62 : decode cX12_marked 62 = .ok (.getfield 121, 3) := by decide +kernel
theorem dX12_marked_65 : decode cX12_marked 65 = .ok (.iload 9, 2) := by decide +kernel
theorem dX12_marked_67 : decode cX12_marked 67 = .ok (.aload_n 0, 1) := by decide +kernel
theorem dX12_marked_68 : decode cX12_marked 68 = .ok (.getfield 26, 3) := by decide +kernel
theorem dX12_marked_71 : decode cX12_marked 71 = .ok (.iload_n 2, 1) := by decide +kernel
theorem dX12_marked_72 : decode cX12_marked 72 = .ok (.iaload, 1) := by decide +kernel
theorem dX12_marked_73 : decode cX12_marked 73 = .ok (.iastore, 1) := by decide +kernel
theorem dX12_marked_74 : decode cX12_marked 74 = .ok (.aload_n 0, 1) := by decide +kernel
theorem dX12_marked_75 : decode cX12_marked 75 = .ok (.getfield 127, 3) := by decide +kernel
theorem dX12_marked_78 : decode cX12_marked 78 = .ok (.iload 9, 2) := by decide +kernel
theorem dX12_marked_80 : decode cX12_marked 80 = .ok (.aload_n 0, 1) := by decide +kernel
theorem dX12_marked_81 : decode cX12_marked 81 = .ok (.iload_n 2, 1) := by decide +kernel
theorem dX12_marked_82 : decode cX12_marked 82 = .ok (.invokevirtual 194, 3) := by decide +kernel
theorem dX12_marked_85 : decode cX12_marked 85 = .ok (.lastore, 1) := by decide +kernel
theorem dX12_marked_86 : decode cX12_marked 86 = .ok (.aload_n 0, 1) := by decide +kernel
theorem dX12_marked_87 : decode cX12_marked 87 = .ok (.getfield 91, 3) := by decide +kernel
theorem dX12_marked_90 : decode cX12_marked 90 = .ok (.bipush 20, 2) := by decide +kernel
theorem dX12_marked_92 : decode cX12_marked 92 = .ok (.iload_n 2, 1) := by decide +kernel
theorem dX12_marked_93 : decode cX12_marked 93 = .ok (.imul, 1) := by decide +kernel
theorem dX12_marked_94 : decode cX12_marked 94 = .ok (.iload 4, 2) := by decide +kernel
theorem dX12_marked_96 : decode cX12_marked 96 = .ok (.iadd, 1) := by decide +kernel
theorem dX12_marked_97 : decode cX12_marked 97 = .ok (.aload_n 0, 1) := by decide +kernel
theorem dX12_marked_98 : decode cX12_marked 98 = .ok (.getfield 26, 3) := by decide +kernel
theorem dX12_marked_101 : decode cX12_marked 101 = .ok (.iload_n 2, 1) := by decide +kernel
theorem dX12_marked_102 : decode cX12_marked 102 = .ok (.iaload, 1) := by decide +kernel
theorem dX12_marked_103 : decode cX12_marked 103 = .ok (.iastore, 1) := by decide +kernel
theorem dX12_marked_104 : decode cX12_marked 104 = .ok (.iload 9, 2) := by decide +kernel
theorem dX12_marked_106 : decode cX12_marked 106 = .ok (.ireturn, 1) := by decide +kernel
theorem dX12_ask_0 : decode cX12_ask 0 = .ok (.aload_n 0, 1) := by decide +kernel
theorem dX12_ask_1 : decode cX12_ask 1 = .ok (.iload_n 1, 1) := by decide +kernel
theorem dX12_ask_2 : decode cX12_ask 2 = .ok (.iload_n 2, 1) := by decide +kernel
theorem dX12_ask_3 : decode cX12_ask 3 = .ok (.iload_n 3, 1) := by decide +kernel
theorem dX12_ask_4 : decode cX12_ask 4 = .ok (.invokevirtual 221, 3) := by decide +kernel
theorem dX12_ask_7 : decode cX12_ask 7 = .ok (.ifCond .ne 6, 3) := by decide +kernel
theorem dX12_ask_10 : decode cX12_ask 10 = .ok (.bipush (-2), 2) := by decide +kernel
theorem dX12_ask_12 : decode cX12_ask 12 = .ok (.ireturn, 1) := by decide +kernel
theorem dX12_ask_13 : decode cX12_ask 13 = .ok (.aload_n 0, 1) := by decide +kernel
theorem dX12_ask_14 : decode cX12_ask 14 = .ok (.getfield 32, 3) := by decide +kernel
theorem dX12_ask_17 : decode cX12_ask 17 = .ok (.iload_n 3, 1) := by decide +kernel
theorem dX12_ask_18 : decode cX12_ask 18 = .ok (.iaload, 1) := by decide +kernel
theorem dX12_ask_19 : decode cX12_ask 19 = .ok (.iconst 1, 1) := by decide +kernel
theorem dX12_ask_20 : decode cX12_ask 20 = .ok (.if_icmp .eq 13, 3) := by decide +kernel
theorem dX12_ask_23 : decode cX12_ask 23 = .ok (.aload_n 0, 1) := by decide +kernel
theorem dX12_ask_24 : decode cX12_ask 24 = .ok (.getfield 32, 3) := by decide +kernel
theorem dX12_ask_27 : decode cX12_ask 27 = .ok (.iload_n 3, 1) := by decide +kernel
theorem dX12_ask_28 : decode cX12_ask 28 = .ok (.iaload, 1) := by decide +kernel
theorem dX12_ask_29 : decode cX12_ask 29 = .ok (.iconst 3, 1) := by decide +kernel
theorem dX12_ask_30 : decode cX12_ask 30 = .ok (.if_icmp .ne 7, 3) := by decide +kernel
theorem dX12_ask_33 : decode cX12_ask 33 = .ok (.iconst 1, 1) := by decide +kernel
theorem dX12_ask_34 : decode cX12_ask 34 = .ok (.goto 4, 3) := by decide +kernel
theorem dX12_ask_37 : decode cX12_ask 37 = .ok (.iconst 0, 1) := by decide +kernel
theorem dX12_ask_38 : decode cX12_ask 38 = .ok (.istore 6, 2) := by decide +kernel
theorem dX12_ask_40 : decode cX12_ask 40 = .ok (.iload 4, 2) := by decide +kernel
theorem dX12_ask_42 : decode cX12_ask 42 = .ok (.ifCond .eq 14, 3) := by decide +kernel
theorem dX12_ask_45 : decode cX12_ask 45 = .ok (.iload 4, 2) := by decide +kernel
theorem dX12_ask_47 : decode cX12_ask 47 = .ok (.iconst 1, 1) := by decide +kernel
theorem dX12_ask_48 : decode cX12_ask 48 = .ok (.if_icmp .ne 45, 3) := by decide +kernel
theorem dX12_ask_51 : decode cX12_ask 51 = .ok (.iload 6, 2) := by decide +kernel
theorem dX12_ask_53 : decode cX12_ask 53 = .ok (.ifCond .eq 40, 3) := by decide +kernel
theorem dX12_ask_56 : decode cX12_ask 56 = .ok (.aload_n 0, 1) := by decide +kernel
theorem dX12_ask_57 : decode cX12_ask 57 = .ok (.getfield 32, 3) := by decide +kernel
theorem dX12_ask_60 : decode cX12_ask 60 = .ok (.iload_n 3, 1) := by decide +kernel
theorem dX12_ask_61 : decode cX12_ask 61 = .ok (.iaload, 1) := by decide +kernel
theorem dX12_ask_62 : decode cX12_ask 62 = .ok (.iconst 2, 1) := by decide +kernel
theorem dX12_ask_63 : decode cX12_ask 63 = .ok (.if_icmp .ne 21, 3) := by decide +kernel
theorem dX12_ask_66 : decode cX12_ask 66 = .ok (.iload 5, 2) := by decide +kernel
theorem dX12_ask_68 : decode cX12_ask 68 = .ok (.iconst 1, 1) := by decide +kernel
theorem dX12_ask_69 : decode cX12_ask 69 = .ok (.aload_n 0, 1) := by decide +kernel
theorem dX12_ask_70 : decode cX12_ask 70 = .ok (.getfield 38, 3) := by decide +kernel
theorem dX12_ask_73 : decode cX12_ask 73 = .ok (.iload_n 3, 1) := by decide +kernel
theorem dX12_ask_74 : decode cX12_ask 74 = .ok (.iaload, 1) := by decide +kernel
theorem dX12_ask_75 : decode cX12_ask 75 = .ok (.invokestatic 153, 3) := by decide +kernel
theorem dX12_ask_78 : decode cX12_ask 78 = .ok (.ifCond .eq 15, 3) := by decide +kernel
theorem dX12_ask_81 : decode cX12_ask 81 = .ok (.goto 8, 3) := by decide +kernel
theorem dX12_ask_84 : decode cX12_ask 84 = .ok (.iload 5, 2) := by decide +kernel
theorem dX12_ask_86 : decode cX12_ask 86 = .ok (.ifCond .ne 7, 3) := by decide +kernel
theorem dX12_ask_89 : decode cX12_ask 89 = .ok (.iconst 1, 1) := by decide +kernel
theorem dX12_ask_90 : decode cX12_ask 90 = .ok (.goto 4, 3) := by decide +kernel
theorem dX12_ask_93 : decode cX12_ask 93 = .ok (.iconst 0, 1) := by decide +kernel
theorem dX12_ask_94 : decode cX12_ask 94 = .ok (.istore 7, 2) := by decide +kernel
theorem dX12_ask_96 : decode cX12_ask 96 = .ok (.iload 7, 2) := by decide +kernel
theorem dX12_ask_98 : decode cX12_ask 98 = .ok (.ifCond .ne 6, 3) := by decide +kernel
theorem dX12_ask_101 : decode cX12_ask 101 = .ok (.bipush (-2), 2) := by decide +kernel
theorem dX12_ask_103 : decode cX12_ask 103 = .ok (.ireturn, 1) := by decide +kernel
theorem dX12_ask_104 : decode cX12_ask 104 = .ok (.aload_n 0, 1) := by decide +kernel
theorem dX12_ask_105 : decode cX12_ask 105 = .ok (.getfield 29, 3) := by decide +kernel
theorem dX12_ask_108 : decode cX12_ask 108 = .ok (.iload_n 1, 1) := by decide +kernel
theorem dX12_ask_109 : decode cX12_ask 109 = .ok (.baload, 1) := by decide +kernel
theorem dX12_ask_110 : decode cX12_ask 110 = .ok (.ifCond .ne 6, 3) := by decide +kernel
theorem dX12_ask_113 : decode cX12_ask 113 = .ok (.bipush (-3), 2) := by decide +kernel
theorem dX12_ask_115 : decode cX12_ask 115 = .ok (.ireturn, 1) := by decide +kernel
theorem dX12_ask_116 : decode cX12_ask 116 = .ok (.aload_n 0, 1) := by decide +kernel
theorem dX12_ask_117 : decode cX12_ask 117 = .ok (.iconst 0, 1) := by decide +kernel
theorem dX12_ask_118 : decode cX12_ask 118 = .ok (.iload_n 1, 1) := by decide +kernel
theorem dX12_ask_119 : decode cX12_ask 119 = .ok (.iload_n 2, 1) := by decide +kernel
theorem dX12_ask_120 : decode cX12_ask 120 = .ok (.iload_n 3, 1) := by decide +kernel
theorem dX12_ask_121 : decode cX12_ask 121 = .ok (.iload 4, 2) := by decide +kernel
theorem dX12_ask_123 : decode cX12_ask 123 = .ok (.iload 5, 2) := by decide +kernel
theorem dX12_ask_125 : decode cX12_ask 125 = .ok (.lconst 0, 1) := by decide +kernel
theorem dX12_ask_126 : decode cX12_ask 126 = .ok (.invokevirtual 224, 3) := by decide +kernel
theorem dX12_ask_129 : decode cX12_ask 129 = .ok (.ireturn, 1) := by decide +kernel
theorem dX12_renew_0 : decode cX12_renew 0 = .ok (.aload_n 0, 1) := by decide +kernel
theorem dX12_renew_1 : decode cX12_renew 1 = .ok (.iload_n 1, 1) := by decide +kernel
theorem dX12_renew_2 : decode cX12_renew 2 = .ok (.iload_n 2, 1) := by decide +kernel
theorem dX12_renew_3 : decode cX12_renew 3 = .ok (.iload_n 3, 1) := by decide +kernel
theorem dX12_renew_4 : decode cX12_renew 4 = .ok (.invokevirtual 221, 3) := by decide +kernel
theorem dX12_renew_7 : decode cX12_renew 7 = .ok (.ifCond .ne 6, 3) := by decide +kernel
theorem dX12_renew_10 : decode cX12_renew 10 = .ok (.bipush (-2), 2) := by decide +kernel
theorem dX12_renew_12 : decode cX12_renew 12 = .ok (.ireturn, 1) := by decide +kernel
theorem dX12_renew_13 : decode cX12_renew 13 = .ok (.bipush 20, 2) := by decide +kernel
theorem dX12_renew_15 : decode cX12_renew 15 = .ok (.iload_n 1, 1) := by decide +kernel
theorem dX12_renew_16 : decode cX12_renew 16 = .ok (.imul, 1) := by decide +kernel
theorem dX12_renew_17 : decode cX12_renew 17 = .ok (.iload_n 3, 1) := by decide +kernel
theorem dX12_renew_18 : decode cX12_renew 18 = .ok (.iadd, 1) := by decide +kernel
theorem dX12_renew_19 : decode cX12_renew 19 = .ok (.istore 4, 2) := by decide +kernel
theorem dX12_renew_21 : decode cX12_renew 21 = .ok (.aload_n 0, 1) := by decide +kernel
theorem dX12_renew_22 : decode cX12_renew 22 = .ok (.getfield 29, 3) := by decide +kernel
theorem dX12_renew_25 : decode cX12_renew 25 = .ok (.iload_n 1, 1) := by decide +kernel
theorem dX12_renew_26 : decode cX12_renew 26 = .ok (.baload, 1) := by decide +kernel
theorem dX12_renew_27 : decode cX12_renew 27 = .ok (.ifCond .eq 13, 3) := by decide +kernel
theorem dX12_renew_30 : decode cX12_renew 30 = .ok (.aload_n 0, 1) := by decide +kernel
theorem dX12_renew_31 : decode cX12_renew 31 = .ok (.getfield 82, 3) := by decide +kernel
theorem dX12_renew_34 : decode cX12_renew 34 = .ok (.iload 4, 2) := by decide +kernel
theorem dX12_renew_36 : decode cX12_renew 36 = .ok (.baload, 1) := by decide +kernel
theorem dX12_renew_37 : decode cX12_renew 37 = .ok (.ifCond .ne 6, 3) := by decide +kernel
theorem dX12_renew_40 : decode cX12_renew 40 = .ok (.bipush (-3), 2) := by decide +kernel
theorem dX12_renew_42 : decode cX12_renew 42 = .ok (.ireturn, 1) := by decide +kernel
theorem dX12_renew_43 : decode cX12_renew 43 = .ok (.aload_n 0, 1) := by decide +kernel
theorem dX12_renew_44 : decode cX12_renew 44 = .ok (.iconst 1, 1) := by decide +kernel
theorem dX12_renew_45 : decode cX12_renew 45 = .ok (.iload_n 1, 1) := by decide +kernel
theorem dX12_renew_46 : decode cX12_renew 46 = .ok (.iload_n 2, 1) := by decide +kernel
theorem dX12_renew_47 : decode cX12_renew 47 = .ok (.iload_n 3, 1) := by decide +kernel
theorem dX12_renew_48 : decode cX12_renew 48 = .ok (.aload_n 0, 1) := by decide +kernel
theorem dX12_renew_49 : decode cX12_renew 49 = .ok (.getfield 85, 3) := by decide +kernel
theorem dX12_renew_52 : decode cX12_renew 52 = .ok (.iload 4, 2) := by decide +kernel
theorem dX12_renew_54 : decode cX12_renew 54 = .ok (.iaload, 1) := by decide +kernel
theorem dX12_renew_55 : decode cX12_renew 55 = .ok (.aload_n 0, 1) := by decide +kernel
theorem dX12_renew_56 : decode cX12_renew 56 = .ok (.getfield 88, 3) := by decide +kernel
theorem dX12_renew_59 : decode cX12_renew 59 = .ok (.iload 4, 2) := by decide +kernel
theorem dX12_renew_61 : decode cX12_renew 61 = .ok (.iaload, 1) := by decide +kernel
theorem dX12_renew_62 : decode cX12_renew 62 = .ok (.aload_n 0, 1) := by decide +kernel
theorem dX12_renew_63 : decode cX12_renew 63 = .ok (.getfield 94, 3) := by decide +kernel
theorem dX12_renew_66 : decode cX12_renew 66 = .ok (.iload 4, 2) := by decide +kernel
theorem dX12_renew_68 : decode cX12_renew 68 = .ok (.laload, 1) := by decide +kernel
theorem dX12_renew_69 : decode cX12_renew 69 = .ok (.invokevirtual 224, 3) := by decide +kernel
theorem dX12_renew_72 : decode cX12_renew 72 = .ok (.ireturn, 1) := by decide +kernel
theorem dX12_end_0 : decode cX12_end 0 = .ok (.aload_n 0, 1) := by decide +kernel
theorem dX12_end_1 : decode cX12_end 1 = .ok (.iload_n 1, 1) := by decide +kernel
theorem dX12_end_2 : decode cX12_end 2 = .ok (.iload_n 2, 1) := by decide +kernel
theorem dX12_end_3 : decode cX12_end 3 = .ok (.iload_n 3, 1) := by decide +kernel
theorem dX12_end_4 : decode cX12_end 4 = .ok (.invokevirtual 221, 3) := by decide +kernel
theorem dX12_end_7 : decode cX12_end 7 = .ok (.ifCond .ne 6, 3) := by decide +kernel
theorem dX12_end_10 : decode cX12_end 10 = .ok (.bipush (-2), 2) := by decide +kernel
theorem dX12_end_12 : decode cX12_end 12 = .ok (.ireturn, 1) := by decide +kernel
theorem dX12_end_13 : decode cX12_end 13 = .ok (.bipush 20, 2) := by decide +kernel
theorem dX12_end_15 : decode cX12_end 15 = .ok (.iload_n 1, 1) := by decide +kernel
theorem dX12_end_16 : decode cX12_end 16 = .ok (.imul, 1) := by decide +kernel
theorem dX12_end_17 : decode cX12_end 17 = .ok (.iload_n 3, 1) := by decide +kernel
theorem dX12_end_18 : decode cX12_end 18 = .ok (.iadd, 1) := by decide +kernel
theorem dX12_end_19 : decode cX12_end 19 = .ok (.istore 4, 2) := by decide +kernel
theorem dX12_end_21 : decode cX12_end 21 = .ok (.aload_n 0, 1) := by decide +kernel
theorem dX12_end_22 : decode cX12_end 22 = .ok (.getfield 29, 3) := by decide +kernel
theorem dX12_end_25 : decode cX12_end 25 = .ok (.iload_n 1, 1) := by decide +kernel
theorem dX12_end_26 : decode cX12_end 26 = .ok (.baload, 1) := by decide +kernel
theorem dX12_end_27 : decode cX12_end 27 = .ok (.ifCond .eq 13, 3) := by decide +kernel
theorem dX12_end_30 : decode cX12_end 30 = .ok (.aload_n 0, 1) := by decide +kernel
theorem dX12_end_31 : decode cX12_end 31 = .ok (.getfield 82, 3) := by decide +kernel
theorem dX12_end_34 : decode cX12_end 34 = .ok (.iload 4, 2) := by decide +kernel
theorem dX12_end_36 : decode cX12_end 36 = .ok (.baload, 1) := by decide +kernel
theorem dX12_end_37 : decode cX12_end 37 = .ok (.ifCond .ne 6, 3) := by decide +kernel
theorem dX12_end_40 : decode cX12_end 40 = .ok (.bipush (-3), 2) := by decide +kernel
theorem dX12_end_42 : decode cX12_end 42 = .ok (.ireturn, 1) := by decide +kernel
theorem dX12_end_43 : decode cX12_end 43 = .ok (.aload_n 0, 1) := by decide +kernel
theorem dX12_end_44 : decode cX12_end 44 = .ok (.getfield 178, 3) := by decide +kernel
theorem dX12_end_47 : decode cX12_end 47 = .ok (.sipush 400, 3) := by decide +kernel
theorem dX12_end_50 : decode cX12_end 50 = .ok (.if_icmp .ne 6, 3) := by decide +kernel
theorem dX12_end_53 : decode cX12_end 53 = .ok (.bipush (-4), 2) := by decide +kernel
theorem dX12_end_55 : decode cX12_end 55 = .ok (.ireturn, 1) := by decide +kernel
theorem dX12_end_56 : decode cX12_end 56 = .ok (.aload_n 0, 1) := by decide +kernel
theorem dX12_end_57 : decode cX12_end 57 = .ok (.iconst 2, 1) := by decide +kernel
theorem dX12_end_58 : decode cX12_end 58 = .ok (.iload_n 1, 1) := by decide +kernel
theorem dX12_end_59 : decode cX12_end 59 = .ok (.iload_n 2, 1) := by decide +kernel
theorem dX12_end_60 : decode cX12_end 60 = .ok (.iload_n 3, 1) := by decide +kernel
theorem dX12_end_61 : decode cX12_end 61 = .ok (.invokevirtual 217, 3) := by decide +kernel
theorem dX12_end_64 : decode cX12_end 64 = .ok (.istore 5, 2) := by decide +kernel
theorem dX12_end_66 : decode cX12_end 66 = .ok (.aload_n 0, 1) := by decide +kernel
theorem dX12_end_67 : decode cX12_end 67 = .ok (.getfield 112, 3) := by decide +kernel
theorem dX12_end_70 : decode cX12_end 70 = .ok (.iload 5, 2) := by decide +kernel
theorem dX12_end_72 : decode cX12_end 72 = .ok (.aload_n 0, 1) := by decide +kernel
theorem dX12_end_73 : decode cX12_end 73 = .ok (.getfield 85, 3) := by decide +kernel
theorem dX12_end_76 : decode cX12_end 76 = .ok (.iload 4, 2) := by decide +kernel
theorem dX12_end_78 : decode cX12_end 78 = .ok (.iaload, 1) := by decide +kernel
theorem dX12_end_79 : decode cX12_end 79 = .ok (.iastore, 1) := by decide +kernel
theorem dX12_end_80 : decode cX12_end 80 = .ok (.aload_n 0, 1) := by decide +kernel
theorem dX12_end_81 : decode cX12_end 81 = .ok (.getfield 115, 3) := by decide +kernel
theorem dX12_end_84 : decode cX12_end 84 = .ok (.iload 5, 2) := by decide +kernel
theorem dX12_end_86 : decode cX12_end 86 = .ok (.aload_n 0, 1) := by decide +kernel
theorem dX12_end_87 : decode cX12_end 87 = .ok (.getfield 88, 3) := by decide +kernel
theorem dX12_end_90 : decode cX12_end 90 = .ok (.iload 4, 2) := by decide +kernel
theorem dX12_end_92 : decode cX12_end 92 = .ok (.iaload, 1) := by decide +kernel
theorem dX12_end_93 : decode cX12_end 93 = .ok (.iastore, 1) := by decide +kernel
theorem dX12_end_94 : decode cX12_end 94 = .ok (.aload_n 0, 1) := by decide +kernel
theorem dX12_end_95 : decode cX12_end 95 = .ok (.getfield 124, 3) := by decide +kernel
theorem dX12_end_98 : decode cX12_end 98 = .ok (.iload 5, 2) := by decide +kernel
theorem dX12_end_100 : decode cX12_end 100 = .ok (.aload_n 0, 1) := by decide +kernel
theorem dX12_end_101 : decode cX12_end 101 = .ok (.getfield 94, 3) := by decide +kernel
theorem dX12_end_104 : decode cX12_end 104 = .ok (.iload 4, 2) := by decide +kernel
theorem dX12_end_106 : decode cX12_end 106 = .ok (.laload, 1) := by decide +kernel
theorem dX12_end_107 : decode cX12_end 107 = .ok (.lastore, 1) := by decide +kernel
theorem dX12_end_108 : decode cX12_end 108 = .ok (.aload_n 0, 1) := by decide +kernel
theorem dX12_end_109 : decode cX12_end 109 = .ok (.getfield 82, 3) := by decide +kernel
theorem dX12_end_112 : decode cX12_end 112 = .ok (.iload 4, 2) := by decide +kernel
theorem dX12_end_114 : decode cX12_end 114 = .ok (.iconst 0, 1) := by decide +kernel
theorem dX12_end_115 : decode cX12_end 115 = .ok (.bastore, 1) := by decide +kernel
theorem dX12_end_116 : decode cX12_end 116 = .ok (.aload_n 0, 1) := by decide +kernel
theorem dX12_end_117 : decode cX12_end 117 = .ok (.getfield 91, 3) := by decide +kernel
theorem dX12_end_120 : decode cX12_end 120 = .ok (.iload 4, 2) := by decide +kernel
theorem dX12_end_122 : decode cX12_end 122 = .ok (.iconst 0, 1) := by decide +kernel
theorem dX12_end_123 : decode cX12_end 123 = .ok (.iastore, 1) := by decide +kernel
theorem dX12_end_124 : decode cX12_end 124 = .ok (.iload 5, 2) := by decide +kernel
theorem dX12_end_126 : decode cX12_end 126 = .ok (.ireturn, 1) := by decide +kernel
theorem dX12_rise_0 : decode cX12_rise 0 = .ok (.aload_n 0, 1) := by decide +kernel
theorem dX12_rise_1 : decode cX12_rise 1 = .ok (.iload_n 1, 1) := by decide +kernel
theorem dX12_rise_2 : decode cX12_rise 2 = .ok (.iload_n 2, 1) := by decide +kernel
theorem dX12_rise_3 : decode cX12_rise 3 = .ok (.iload_n 3, 1) := by decide +kernel
theorem dX12_rise_4 : decode cX12_rise 4 = .ok (.invokevirtual 221, 3) := by decide +kernel
theorem dX12_rise_7 : decode cX12_rise 7 = .ok (.ifCond .eq 13, 3) := by decide +kernel
theorem dX12_rise_10 : decode cX12_rise 10 = .ok (.aload_n 0, 1) := by decide +kernel
theorem dX12_rise_11 : decode cX12_rise 11 = .ok (.getfield 32, 3) := by decide +kernel
theorem dX12_rise_14 : decode cX12_rise 14 = .ok (.iload_n 3, 1) := by decide +kernel
theorem dX12_rise_15 : decode cX12_rise 15 = .ok (.iaload, 1) := by decide +kernel
theorem dX12_rise_16 : decode cX12_rise 16 = .ok (.iconst 3, 1) := by decide +kernel
theorem dX12_rise_17 : decode cX12_rise 17 = .ok (.if_icmp .eq 6, 3) := by decide +kernel
theorem dX12_rise_20 : decode cX12_rise 20 = .ok (.bipush (-2), 2) := by decide +kernel
theorem dX12_rise_22 : decode cX12_rise 22 = .ok (.ireturn, 1) := by decide +kernel
theorem dX12_rise_23 : decode cX12_rise 23 = .ok (.bipush 20, 2) := by decide +kernel
theorem dX12_rise_25 : decode cX12_rise 25 = .ok (.iload_n 1, 1) := by decide +kernel
theorem dX12_rise_26 : decode cX12_rise 26 = .ok (.imul, 1) := by decide +kernel
theorem dX12_rise_27 : decode cX12_rise 27 = .ok (.iload_n 3, 1) := by decide +kernel
theorem dX12_rise_28 : decode cX12_rise 28 = .ok (.iadd, 1) := by decide +kernel
theorem dX12_rise_29 : decode cX12_rise 29 = .ok (.istore 4, 2) := by decide +kernel
theorem dX12_rise_31 : decode cX12_rise 31 = .ok (.aload_n 0, 1) := by decide +kernel
theorem dX12_rise_32 : decode cX12_rise 32 = .ok (.getfield 29, 3) := by decide +kernel
theorem dX12_rise_35 : decode cX12_rise 35 = .ok (.iload_n 1, 1) := by decide +kernel
theorem dX12_rise_36 : decode cX12_rise 36 = .ok (.baload, 1) := by decide +kernel
theorem dX12_rise_37 : decode cX12_rise 37 = .ok (.ifCond .eq 13, 3) := by decide +kernel
theorem dX12_rise_40 : decode cX12_rise 40 = .ok (.aload_n 0, 1) := by decide +kernel
theorem dX12_rise_41 : decode cX12_rise 41 = .ok (.getfield 82, 3) := by decide +kernel
theorem dX12_rise_44 : decode cX12_rise 44 = .ok (.iload 4, 2) := by decide +kernel
theorem dX12_rise_46 : decode cX12_rise 46 = .ok (.baload, 1) := by decide +kernel
theorem dX12_rise_47 : decode cX12_rise 47 = .ok (.ifCond .ne 6, 3) := by decide +kernel
theorem dX12_rise_50 : decode cX12_rise 50 = .ok (.bipush (-3), 2) := by decide +kernel
theorem dX12_rise_52 : decode cX12_rise 52 = .ok (.ireturn, 1) := by decide +kernel
theorem dX12_rise_53 : decode cX12_rise 53 = .ok (.aload_n 0, 1) := by decide +kernel
theorem dX12_rise_54 : decode cX12_rise 54 = .ok (.iconst 3, 1) := by decide +kernel
theorem dX12_rise_55 : decode cX12_rise 55 = .ok (.iload_n 1, 1) := by decide +kernel
theorem dX12_rise_56 : decode cX12_rise 56 = .ok (.iload_n 2, 1) := by decide +kernel
theorem dX12_rise_57 : decode cX12_rise 57 = .ok (.iload_n 3, 1) := by decide +kernel
theorem dX12_rise_58 : decode cX12_rise 58 = .ok (.iconst 0, 1) := by decide +kernel
theorem dX12_rise_59 : decode cX12_rise 59 = .ok (.iconst 0, 1) := by decide +kernel
theorem dX12_rise_60 : decode cX12_rise 60 = .ok (.aload_n 0, 1) := by decide +kernel
theorem dX12_rise_61 : decode cX12_rise 61 = .ok (.getfield 94, 3) := by decide +kernel
theorem dX12_rise_64 : decode cX12_rise 64 = .ok (.iload 4, 2) := by decide +kernel
theorem dX12_rise_66 : decode cX12_rise 66 = .ok (.laload, 1) := by decide +kernel
theorem dX12_rise_67 : decode cX12_rise 67 = .ok (.invokevirtual 224, 3) := by decide +kernel
theorem dX12_rise_70 : decode cX12_rise 70 = .ok (.ireturn, 1) := by decide +kernel
theorem dX12_lose_0 : decode cX12_lose 0 = .ok (.aload_n 0, 1) := by decide +kernel
theorem dX12_lose_1 : decode cX12_lose 1 = .ok (.iload_n 1, 1) := by decide +kernel
theorem dX12_lose_2 : decode cX12_lose 2 = .ok (.invokevirtual 228, 3) := by decide +kernel
theorem dX12_lose_5 : decode cX12_lose 5 = .ok (.ifCond .ne 6, 3) := by decide +kernel
theorem dX12_lose_8 : decode cX12_lose 8 = .ok (.bipush (-2), 2) := by decide +kernel
theorem dX12_lose_10 : decode cX12_lose 10 = .ok (.ireturn, 1) := by decide +kernel
theorem dX12_lose_11 : decode cX12_lose 11 = .ok (.aload_n 0, 1) := by decide +kernel
theorem dX12_lose_12 : decode cX12_lose 12 = .ok (.getfield 118, 3) := by decide +kernel
theorem dX12_lose_15 : decode cX12_lose 15 = .ok (.iload_n 1, 1) := by decide +kernel
theorem dX12_lose_16 : decode cX12_lose 16 = .ok (.iaload, 1) := by decide +kernel
theorem dX12_lose_17 : decode cX12_lose 17 = .ok (.ifCond .eq 6, 3) := by decide +kernel
theorem dX12_lose_20 : decode cX12_lose 20 = .ok (.bipush (-3), 2) := by decide +kernel
theorem dX12_lose_22 : decode cX12_lose 22 = .ok (.ireturn, 1) := by decide +kernel
theorem dX12_lose_23 : decode cX12_lose 23 = .ok (.aload_n 0, 1) := by decide +kernel
theorem dX12_lose_24 : decode cX12_lose 24 = .ok (.getfield 118, 3) := by decide +kernel
theorem dX12_lose_27 : decode cX12_lose 27 = .ok (.iload_n 1, 1) := by decide +kernel
theorem dX12_lose_28 : decode cX12_lose 28 = .ok (.iconst 2, 1) := by decide +kernel
theorem dX12_lose_29 : decode cX12_lose 29 = .ok (.iastore, 1) := by decide +kernel
theorem dX12_lose_30 : decode cX12_lose 30 = .ok (.iconst 1, 1) := by decide +kernel
theorem dX12_lose_31 : decode cX12_lose 31 = .ok (.ireturn, 1) := by decide +kernel
theorem dX12_twice_0 : decode cX12_twice 0 = .ok (.aload_n 0, 1) := by decide +kernel
theorem dX12_twice_1 : decode cX12_twice 1 = .ok (.iload_n 1, 1) := by decide +kernel
theorem dX12_twice_2 : decode cX12_twice 2 = .ok (.invokevirtual 228, 3) := by decide +kernel
theorem dX12_twice_5 : decode cX12_twice 5 = .ok (.ifCond .ne 6, 3) := by decide +kernel
theorem dX12_twice_8 : decode cX12_twice 8 = .ok (.bipush (-2), 2) := by decide +kernel
theorem dX12_twice_10 : decode cX12_twice 10 = .ok (.ireturn, 1) := by decide +kernel
theorem dX12_twice_11 : decode cX12_twice 11 = .ok (.aload_n 0, 1) := by decide +kernel
theorem dX12_twice_12 : decode cX12_twice 12 = .ok (.getfield 178, 3) := by decide +kernel
theorem dX12_twice_15 : decode cX12_twice 15 = .ok (.sipush 400, 3) := by decide +kernel
theorem dX12_twice_18 : decode cX12_twice 18 = .ok (.if_icmp .ne 6, 3) := by decide +kernel
theorem dX12_twice_21 : decode cX12_twice 21 = .ok (.bipush (-4), 2) := by decide +kernel
theorem dX12_twice_23 : decode cX12_twice 23 = .ok (.ireturn, 1) := by decide +kernel
theorem dX12_twice_24 : decode cX12_twice 24 = .ok (.aload_n 0, 1) := by decide +kernel
theorem dX12_twice_25 : decode cX12_twice 25 = .ok (.aload_n 0, 1) := by decide +kernel
theorem dX12_twice_26 : decode cX12_twice 26 = .ok (.getfield 100, 3) := by decide +kernel
theorem dX12_twice_29 : decode cX12_twice 29 = .ok (.iload_n 1, 1) := by decide +kernel
theorem dX12_twice_30 : decode cX12_twice 30 = .ok (.iaload, 1) := by decide +kernel
theorem dX12_twice_31 : decode cX12_twice 31 = .ok (.aload_n 0, 1) := by decide +kernel
theorem dX12_twice_32 : decode cX12_twice 32 = .ok (.getfield 103, 3) := by decide +kernel
theorem dX12_twice_35 : decode cX12_twice 35 = .ok (.iload_n 1, 1) := by decide +kernel
theorem dX12_twice_36 : decode cX12_twice 36 = .ok (.iaload, 1) := by decide +kernel
theorem dX12_twice_37 : decode cX12_twice 37 = .ok (.aload_n 0, 1) := by decide +kernel
theorem dX12_twice_38 : decode cX12_twice 38 = .ok (.getfield 106, 3) := by decide +kernel
theorem dX12_twice_41 : decode cX12_twice 41 = .ok (.iload_n 1, 1) := by decide +kernel
theorem dX12_twice_42 : decode cX12_twice 42 = .ok (.iaload, 1) := by decide +kernel
theorem dX12_twice_43 : decode cX12_twice 43 = .ok (.aload_n 0, 1) := by decide +kernel
theorem dX12_twice_44 : decode cX12_twice 44 = .ok (.getfield 109, 3) := by decide +kernel
theorem dX12_twice_47 : decode cX12_twice 47 = .ok (.iload_n 1, 1) := by decide +kernel
theorem dX12_twice_48 : decode cX12_twice 48 = .ok (.iaload, 1) := by decide +kernel
theorem dX12_twice_49 : decode cX12_twice 49 = .ok (.invokevirtual 217, 3) := by decide +kernel
theorem dX12_twice_52 : decode cX12_twice 52 = .ok (.istore_n 2, 1) := by decide +kernel
theorem dX12_twice_53 : decode cX12_twice 53 = .ok (.aload_n 0, 1) := by decide +kernel
theorem dX12_twice_54 : decode cX12_twice 54 = .ok (.getfield 112, 3) := by decide +kernel
theorem dX12_twice_57 : decode cX12_twice 57 = .ok (.iload_n 2, 1) := by decide +kernel
theorem dX12_twice_58 : decode cX12_twice 58 = .ok (.aload_n 0, 1) := by decide +kernel
theorem dX12_twice_59 : decode cX12_twice 59 = .ok (.getfield 112, 3) := by decide +kernel
theorem dX12_twice_62 : decode cX12_twice 62 = .ok (.iload_n 1, 1) := by decide +kernel
theorem dX12_twice_63 : decode cX12_twice 63 = .ok (.iaload, 1) := by decide +kernel
theorem dX12_twice_64 : decode cX12_twice 64 = .ok (.iastore, 1) := by decide +kernel
theorem dX12_twice_65 : decode cX12_twice 65 = .ok (.aload_n 0, 1) := by decide +kernel
theorem dX12_twice_66 : decode cX12_twice 66 = .ok (.getfield 115, 3) := by decide +kernel
theorem dX12_twice_69 : decode cX12_twice 69 = .ok (.iload_n 2, 1) := by decide +kernel
theorem dX12_twice_70 : decode cX12_twice 70 = .ok (.aload_n 0, 1) := by decide +kernel
theorem dX12_twice_71 : decode cX12_twice 71 = .ok (.getfield 115, 3) := by decide +kernel
theorem dX12_twice_74 : decode cX12_twice 74 = .ok (.iload_n 1, 1) := by decide +kernel
theorem dX12_twice_75 : decode cX12_twice 75 = .ok (.iaload, 1) := by decide +kernel
theorem dX12_twice_76 : decode cX12_twice 76 = .ok (.iastore, 1) := by decide +kernel
theorem dX12_twice_77 : decode cX12_twice 77 = .ok (.aload_n 0, 1) := by decide +kernel
theorem dX12_twice_78 : decode cX12_twice 78 = .ok (.getfield 121, 3) := by decide +kernel
theorem dX12_twice_81 : decode cX12_twice 81 = .ok (.iload_n 2, 1) := by decide +kernel
theorem dX12_twice_82 : decode cX12_twice 82 = .ok (.aload_n 0, 1) := by decide +kernel
theorem dX12_twice_83 : decode cX12_twice 83 = .ok (.getfield 121, 3) := by decide +kernel
theorem dX12_twice_86 : decode cX12_twice 86 = .ok (.iload_n 1, 1) := by decide +kernel
theorem dX12_twice_87 : decode cX12_twice 87 = .ok (.iaload, 1) := by decide +kernel
theorem dX12_twice_88 : decode cX12_twice 88 = .ok (.iastore, 1) := by decide +kernel
theorem dX12_twice_89 : decode cX12_twice 89 = .ok (.aload_n 0, 1) := by decide +kernel
theorem dX12_twice_90 : decode cX12_twice 90 = .ok (.getfield 124, 3) := by decide +kernel
theorem dX12_twice_93 : decode cX12_twice 93 = .ok (.iload_n 2, 1) := by decide +kernel
theorem dX12_twice_94 : decode cX12_twice 94 = .ok (.aload_n 0, 1) := by decide +kernel
theorem dX12_twice_95 : decode cX12_twice 95 = .ok (.getfield 124, 3) := by decide +kernel
theorem dX12_twice_98 : decode cX12_twice 98 = .ok (.iload_n 1, 1) := by decide +kernel
theorem dX12_twice_99 : decode cX12_twice 99 = .ok (.laload, 1) := by decide +kernel
theorem dX12_twice_100 : decode cX12_twice 100 = .ok (.lastore, 1) := by decide +kernel
theorem dX12_twice_101 : decode cX12_twice 101 = .ok (.aload_n 0, 1) := by decide +kernel
theorem dX12_twice_102 : decode cX12_twice 102 = .ok (.getfield 127, 3) := by decide +kernel
theorem dX12_twice_105 : decode cX12_twice 105 = .ok (.iload_n 2, 1) := by decide +kernel
theorem dX12_twice_106 : decode cX12_twice 106 = .ok (.aload_n 0, 1) := by decide +kernel
theorem dX12_twice_107 : decode cX12_twice 107 = .ok (.getfield 127, 3) := by decide +kernel
theorem dX12_twice_110 : decode cX12_twice 110 = .ok (.iload_n 1, 1) := by decide +kernel
theorem dX12_twice_111 : decode cX12_twice 111 = .ok (.laload, 1) := by decide +kernel
theorem dX12_twice_112 : decode cX12_twice 112 = .ok (.lastore, 1) := by decide +kernel
theorem dX12_twice_113 : decode cX12_twice 113 = .ok (.iload_n 2, 1) := by decide +kernel
theorem dX12_twice_114 : decode cX12_twice 114 = .ok (.ireturn, 1) := by decide +kernel
theorem dX12_letter_0 : decode cX12_letter 0 = .ok (.aload_n 0, 1) := by decide +kernel
theorem dX12_letter_1 : decode cX12_letter 1 = .ok (.iload_n 1, 1) := by decide +kernel
theorem dX12_letter_2 : decode cX12_letter 2 = .ok (.invokevirtual 228, 3) := by decide +kernel
theorem dX12_letter_5 : decode cX12_letter 5 = .ok (.ifCond .eq 13, 3) := by decide +kernel
theorem dX12_letter_8 : decode cX12_letter 8 = .ok (.iload_n 2, 1) := by decide +kernel
theorem dX12_letter_9 : decode cX12_letter 9 = .ok (.iconst 0, 1) := by decide +kernel
theorem dX12_letter_10 : decode cX12_letter 10 = .ok (.bipush 6, 2) := by decide +kernel
theorem dX12_letter_12 : decode cX12_letter 12 = .ok (.invokestatic 153, 3) := by decide +kernel
theorem dX12_letter_15 : decode cX12_letter 15 = .ok (.ifCond .ne 6, 3) := by decide +kernel
theorem dX12_letter_18 : decode cX12_letter 18 = .ok (.bipush (-2), 2) := by decide +kernel
theorem dX12_letter_20 : decode cX12_letter 20 = .ok (.ireturn, 1) := by decide +kernel
theorem dX12_letter_21 : decode cX12_letter 21 = .ok (.iload_n 2, 1) := by decide +kernel
theorem dX12_letter_22 : decode cX12_letter 22 = .ok (.tableswitch 80 0 5 #[38, 45, 52, 59, 66, 73], 38) := by decide +kernel
theorem dX12_letter_60 : decode cX12_letter 60 = .ok (.aload_n 0, 1) := by decide +kernel
theorem dX12_letter_61 : decode cX12_letter 61 = .ok (.getfield 100, 3) := by decide +kernel
theorem dX12_letter_64 : decode cX12_letter 64 = .ok (.iload_n 1, 1) := by decide +kernel
theorem dX12_letter_65 : decode cX12_letter 65 = .ok (.iaload, 1) := by decide +kernel
theorem dX12_letter_66 : decode cX12_letter 66 = .ok (.ireturn, 1) := by decide +kernel
theorem dX12_letter_67 : decode cX12_letter 67 = .ok (.aload_n 0, 1) := by decide +kernel
theorem dX12_letter_68 : decode cX12_letter 68 = .ok (.getfield 103, 3) := by decide +kernel
theorem dX12_letter_71 : decode cX12_letter 71 = .ok (.iload_n 1, 1) := by decide +kernel
theorem dX12_letter_72 : decode cX12_letter 72 = .ok (.iaload, 1) := by decide +kernel
theorem dX12_letter_73 : decode cX12_letter 73 = .ok (.ireturn, 1) := by decide +kernel
theorem dX12_letter_74 : decode cX12_letter 74 = .ok (.aload_n 0, 1) := by decide +kernel
theorem dX12_letter_75 : decode cX12_letter 75 = .ok (.getfield 106, 3) := by decide +kernel
theorem dX12_letter_78 : decode cX12_letter 78 = .ok (.iload_n 1, 1) := by decide +kernel
theorem dX12_letter_79 : decode cX12_letter 79 = .ok (.iaload, 1) := by decide +kernel
theorem dX12_letter_80 : decode cX12_letter 80 = .ok (.ireturn, 1) := by decide +kernel
theorem dX12_letter_81 : decode cX12_letter 81 = .ok (.aload_n 0, 1) := by decide +kernel
theorem dX12_letter_82 : decode cX12_letter 82 = .ok (.getfield 109, 3) := by decide +kernel
theorem dX12_letter_85 : decode cX12_letter 85 = .ok (.iload_n 1, 1) := by decide +kernel
theorem dX12_letter_86 : decode cX12_letter 86 = .ok (.iaload, 1) := by decide +kernel
theorem dX12_letter_87 : decode cX12_letter 87 = .ok (.ireturn, 1) := by decide +kernel
theorem dX12_letter_88 : decode cX12_letter 88 = .ok (.aload_n 0, 1) := by decide +kernel
theorem dX12_letter_89 : decode cX12_letter 89 = .ok (.getfield 112, 3) := by decide +kernel
theorem dX12_letter_92 : decode cX12_letter 92 = .ok (.iload_n 1, 1) := by decide +kernel
theorem dX12_letter_93 : decode cX12_letter 93 = .ok (.iaload, 1) := by decide +kernel
theorem dX12_letter_94 : decode cX12_letter 94 = .ok (.ireturn, 1) := by decide +kernel
theorem dX12_letter_95 : decode cX12_letter 95 = .ok (.aload_n 0, 1) := by decide +kernel
theorem dX12_letter_96 : decode cX12_letter 96 = .ok (.getfield 115, 3) := by decide +kernel
theorem dX12_letter_99 : decode cX12_letter 99 = .ok (.iload_n 1, 1) := by decide +kernel
theorem dX12_letter_100 : decode cX12_letter 100 = .ok (.iaload, 1) := by decide +kernel
theorem dX12_letter_101 : decode cX12_letter 101 = .ok (.ireturn, 1) := by decide +kernel
theorem dX12_letter_102 : decode cX12_letter 102 = .ok (.aload_n 0, 1) := by decide +kernel
theorem dX12_letter_103 : decode cX12_letter 103 = .ok (.getfield 118, 3) := by decide +kernel
theorem dX12_letter_106 : decode cX12_letter 106 = .ok (.iload_n 1, 1) := by decide +kernel
theorem dX12_letter_107 : decode cX12_letter 107 = .ok (.iaload, 1) := by decide +kernel
theorem dX12_letter_108 : decode cX12_letter 108 = .ok (.ireturn, 1) := by decide +kernel
theorem dX12_wrote_0 : decode cX12_wrote 0 = .ok (.aload_n 0, 1) := by decide +kernel
theorem dX12_wrote_1 : decode cX12_wrote 1 = .ok (.iload_n 1, 1) := by decide +kernel
theorem dX12_wrote_2 : decode cX12_wrote 2 = .ok (.invokevirtual 228, 3) := by decide +kernel
theorem dX12_wrote_5 : decode cX12_wrote 5 = .ok (.ifCond .eq 12, 3) := by decide +kernel
theorem dX12_wrote_8 : decode cX12_wrote 8 = .ok (.iload_n 2, 1) := by decide +kernel
theorem dX12_wrote_9 : decode cX12_wrote 9 = .ok (.iconst 0, 1) := by decide +kernel
theorem dX12_wrote_10 : decode cX12_wrote 10 = .ok (.iconst 2, 1) := by decide +kernel
theorem dX12_wrote_11 : decode cX12_wrote 11 = .ok (.invokestatic 153, 3) := by decide +kernel
theorem dX12_wrote_14 : decode cX12_wrote 14 = .ok (.ifCond .ne 7, 3) := by decide +kernel
theorem dX12_wrote_17 : decode cX12_wrote 17 = .ok (.ldc2_w 197, 3) := by decide +kernel
theorem dX12_wrote_20 : decode cX12_wrote 20 = .ok (.lreturn, 1) := by decide +kernel
theorem dX12_wrote_21 : decode cX12_wrote 21 = .ok (.iload_n 2, 1) := by decide +kernel
theorem dX12_wrote_22 : decode cX12_wrote 22 = .ok (.ifCond .ne 12, 3) := by decide +kernel
theorem dX12_wrote_25 : decode cX12_wrote 25 = .ok (.aload_n 0, 1) := by decide +kernel
theorem dX12_wrote_26 : decode cX12_wrote 26 = .ok (.getfield 124, 3) := by decide +kernel
theorem dX12_wrote_29 : decode cX12_wrote 29 = .ok (.iload_n 1, 1) := by decide +kernel
theorem dX12_wrote_30 : decode cX12_wrote 30 = .ok (.laload, 1) := by decide +kernel
theorem dX12_wrote_31 : decode cX12_wrote 31 = .ok (.goto 24, 3) := by decide +kernel
theorem dX12_wrote_34 : decode cX12_wrote 34 = .ok (.iload_n 2, 1) := by decide +kernel
theorem dX12_wrote_35 : decode cX12_wrote 35 = .ok (.iconst 1, 1) := by decide +kernel
theorem dX12_wrote_36 : decode cX12_wrote 36 = .ok (.if_icmp .ne 12, 3) := by decide +kernel
theorem dX12_wrote_39 : decode cX12_wrote 39 = .ok (.aload_n 0, 1) := by decide +kernel
theorem dX12_wrote_40 : decode cX12_wrote 40 = .ok (.getfield 127, 3) := by decide +kernel
theorem dX12_wrote_43 : decode cX12_wrote 43 = .ok (.iload_n 1, 1) := by decide +kernel
theorem dX12_wrote_44 : decode cX12_wrote 44 = .ok (.laload, 1) := by decide +kernel
theorem dX12_wrote_45 : decode cX12_wrote 45 = .ok (.goto 10, 3) := by decide +kernel
theorem dX12_wrote_48 : decode cX12_wrote 48 = .ok (.aload_n 0, 1) := by decide +kernel
theorem dX12_wrote_49 : decode cX12_wrote 49 = .ok (.getfield 121, 3) := by decide +kernel
theorem dX12_wrote_52 : decode cX12_wrote 52 = .ok (.iload_n 1, 1) := by decide +kernel
theorem dX12_wrote_53 : decode cX12_wrote 53 = .ok (.iaload, 1) := by decide +kernel
theorem dX12_wrote_54 : decode cX12_wrote 54 = .ok (.i2l, 1) := by decide +kernel
theorem dX12_wrote_55 : decode cX12_wrote 55 = .ok (.lreturn, 1) := by decide +kernel
theorem dX12_grantOf_0 : decode cX12_grantOf 0 = .ok (.iconst 0, 1) := by decide +kernel
theorem dX12_grantOf_1 : decode cX12_grantOf 1 = .ok (.istore_n 3, 1) := by decide +kernel
theorem dX12_grantOf_2 : decode cX12_grantOf 2 = .ok (.iload_n 3, 1) := by decide +kernel
theorem dX12_grantOf_3 : decode cX12_grantOf 3 = .ok (.aload_n 0, 1) := by decide +kernel
theorem dX12_grantOf_4 : decode cX12_grantOf 4 = .ok (.getfield 60, 3) := by decide +kernel
theorem dX12_grantOf_7 : decode cX12_grantOf 7 = .ok (.iload_n 1, 1) := by decide +kernel
theorem dX12_grantOf_8 : decode cX12_grantOf 8 = .ok (.iaload, 1) := by decide +kernel
theorem dX12_grantOf_9 : decode cX12_grantOf 9 = .ok (.if_icmp .ge 26, 3) := by decide +kernel
theorem dX12_grantOf_12 : decode cX12_grantOf 12 = .ok (.aload_n 0, 1) := by decide +kernel
theorem dX12_grantOf_13 : decode cX12_grantOf 13 = .ok (.getfield 63, 3) := by decide +kernel
theorem dX12_grantOf_16 : decode cX12_grantOf 16 = .ok (.bipush 20, 2) := by decide +kernel
theorem dX12_grantOf_18 : decode cX12_grantOf 18 = .ok (.iload_n 1, 1) := by decide +kernel
theorem dX12_grantOf_19 : decode cX12_grantOf 19 = .ok (.imul, 1) := by decide +kernel
theorem dX12_grantOf_20 : decode cX12_grantOf 20 = .ok (.iload_n 3, 1) := by decide +kernel
theorem dX12_grantOf_21 : decode cX12_grantOf 21 = .ok (.iadd, 1) := by decide +kernel
theorem dX12_grantOf_22 : decode cX12_grantOf 22 = .ok (.iaload, 1) := by decide +kernel
theorem dX12_grantOf_23 : decode cX12_grantOf 23 = .ok (.iload_n 2, 1) := by decide +kernel
theorem dX12_grantOf_24 : decode cX12_grantOf 24 = .ok (.if_icmp .ne 5, 3) := by decide +kernel
theorem dX12_grantOf_27 : decode cX12_grantOf 27 = .ok (.iload_n 3, 1) := by decide +kernel
theorem dX12_grantOf_28 : decode cX12_grantOf 28 = .ok (.ireturn, 1) := by decide +kernel
theorem dX12_grantOf_29 : decode cX12_grantOf 29 = .ok (.iinc 3 1, 3) := by decide +kernel
theorem dX12_grantOf_32 : decode cX12_grantOf 32 = .ok (.goto (-30), 3) := by decide +kernel
theorem dX12_grantOf_35 : decode cX12_grantOf 35 = .ok (.iconst (-1), 1) := by decide +kernel
theorem dX12_grantOf_36 : decode cX12_grantOf 36 = .ok (.ireturn, 1) := by decide +kernel
theorem dX12_goes_0 : decode cX12_goes 0 = .ok (.aload_n 0, 1) := by decide +kernel
theorem dX12_goes_1 : decode cX12_goes 1 = .ok (.getfield 60, 3) := by decide +kernel
theorem dX12_goes_4 : decode cX12_goes 4 = .ok (.iload_n 1, 1) := by decide +kernel
theorem dX12_goes_5 : decode cX12_goes 5 = .ok (.dup2, 1) := by decide +kernel
theorem dX12_goes_6 : decode cX12_goes 6 = .ok (.iaload, 1) := by decide +kernel
theorem dX12_goes_7 : decode cX12_goes 7 = .ok (.iconst 1, 1) := by decide +kernel
theorem dX12_goes_8 : decode cX12_goes 8 = .ok (.isub, 1) := by decide +kernel
theorem dX12_goes_9 : decode cX12_goes 9 = .ok (.iastore, 1) := by decide +kernel
theorem dX12_goes_10 : decode cX12_goes 10 = .ok (.iload_n 2, 1) := by decide +kernel
theorem dX12_goes_11 : decode cX12_goes 11 = .ok (.istore_n 3, 1) := by decide +kernel
theorem dX12_goes_12 : decode cX12_goes 12 = .ok (.iload_n 3, 1) := by decide +kernel
theorem dX12_goes_13 : decode cX12_goes 13 = .ok (.aload_n 0, 1) := by decide +kernel
theorem dX12_goes_14 : decode cX12_goes 14 = .ok (.getfield 60, 3) := by decide +kernel
theorem dX12_goes_17 : decode cX12_goes 17 = .ok (.iload_n 1, 1) := by decide +kernel
theorem dX12_goes_18 : decode cX12_goes 18 = .ok (.iaload, 1) := by decide +kernel
theorem dX12_goes_19 : decode cX12_goes 19 = .ok (.if_icmp .ge 97, 3) := by decide +kernel
theorem dX12_goes_22 : decode cX12_goes 22 = .ok (.bipush 20, 2) := by decide +kernel
theorem dX12_goes_24 : decode cX12_goes 24 = .ok (.iload_n 1, 1) := by decide +kernel
theorem dX12_goes_25 : decode cX12_goes 25 = .ok (.imul, 1) := by decide +kernel
theorem dX12_goes_26 : decode cX12_goes 26 = .ok (.iload_n 3, 1) := by decide +kernel
theorem dX12_goes_27 : decode cX12_goes 27 = .ok (.iadd, 1) := by decide +kernel
theorem dX12_goes_28 : decode cX12_goes 28 = .ok (.istore 4, 2) := by decide +kernel
theorem dX12_goes_30 : decode cX12_goes 30 = .ok (.aload_n 0, 1) := by decide +kernel
theorem dX12_goes_31 : decode cX12_goes 31 = .ok (.getfield 63, 3) := by decide +kernel
theorem dX12_goes_34 : decode cX12_goes 34 = .ok (.iload 4, 2) := by decide +kernel
theorem dX12_goes_36 : decode cX12_goes 36 = .ok (.aload_n 0, 1) := by decide +kernel
theorem dX12_goes_37 : decode cX12_goes 37 = .ok (.getfield 63, 3) := by decide +kernel
theorem dX12_goes_40 : decode cX12_goes 40 = .ok (.iload 4, 2) := by decide +kernel
theorem dX12_goes_42 : decode cX12_goes 42 = .ok (.iconst 1, 1) := by decide +kernel
theorem dX12_goes_43 : decode cX12_goes 43 = .ok (.iadd, 1) := by decide +kernel
theorem dX12_goes_44 : decode cX12_goes 44 = .ok (.iaload, 1) := by decide +kernel
theorem dX12_goes_45 : decode cX12_goes 45 = .ok (.iastore, 1) := by decide +kernel
theorem dX12_goes_46 : decode cX12_goes 46 = .ok (.aload_n 0, 1) := by decide +kernel
theorem dX12_goes_47 : decode cX12_goes 47 = .ok (.getfield 66, 3) := by decide +kernel
theorem dX12_goes_50 : decode cX12_goes 50 = .ok (.iload 4, 2) := by decide +kernel
theorem dX12_goes_52 : decode cX12_goes 52 = .ok (.aload_n 0, 1) := by decide +kernel
theorem dX12_goes_53 : decode cX12_goes 53 = .ok (.getfield 66, 3) := by decide +kernel
theorem dX12_goes_56 : decode cX12_goes 56 = .ok (.iload 4, 2) := by decide +kernel
theorem dX12_goes_58 : decode cX12_goes 58 = .ok (.iconst 1, 1) := by decide +kernel
theorem dX12_goes_59 : decode cX12_goes 59 = .ok (.iadd, 1) := by decide +kernel
theorem dX12_goes_60 : decode cX12_goes 60 = .ok (.iaload, 1) := by decide +kernel
theorem dX12_goes_61 : decode cX12_goes 61 = .ok (.iastore, 1) := by decide +kernel
theorem dX12_goes_62 : decode cX12_goes 62 = .ok (.aload_n 0, 1) := by decide +kernel
theorem dX12_goes_63 : decode cX12_goes 63 = .ok (.getfield 69, 3) := by decide +kernel
theorem dX12_goes_66 : decode cX12_goes 66 = .ok (.iload 4, 2) := by decide +kernel
theorem dX12_goes_68 : decode cX12_goes 68 = .ok (.aload_n 0, 1) := by decide +kernel
theorem dX12_goes_69 : decode cX12_goes 69 = .ok (.getfield 69, 3) := by decide +kernel
theorem dX12_goes_72 : decode cX12_goes 72 = .ok (.iload 4, 2) := by decide +kernel
theorem dX12_goes_74 : decode cX12_goes 74 = .ok (.iconst 1, 1) := by decide +kernel
theorem dX12_goes_75 : decode cX12_goes 75 = .ok (.iadd, 1) := by decide +kernel
theorem dX12_goes_76 : decode cX12_goes 76 = .ok (.iaload, 1) := by decide +kernel
theorem dX12_goes_77 : decode cX12_goes 77 = .ok (.iastore, 1) := by decide +kernel
theorem dX12_goes_78 : decode cX12_goes 78 = .ok (.aload_n 0, 1) := by decide +kernel
theorem dX12_goes_79 : decode cX12_goes 79 = .ok (.getfield 72, 3) := by decide +kernel
theorem dX12_goes_82 : decode cX12_goes 82 = .ok (.iload 4, 2) := by decide +kernel
theorem dX12_goes_84 : decode cX12_goes 84 = .ok (.aload_n 0, 1) := by decide +kernel
theorem dX12_goes_85 : decode cX12_goes 85 = .ok (.getfield 72, 3) := by decide +kernel
theorem dX12_goes_88 : decode cX12_goes 88 = .ok (.iload 4, 2) := by decide +kernel
theorem dX12_goes_90 : decode cX12_goes 90 = .ok (.iconst 1, 1) := by decide +kernel
theorem dX12_goes_91 : decode cX12_goes 91 = .ok (.iadd, 1) := by decide +kernel
theorem dX12_goes_92 : decode cX12_goes 92 = .ok (.laload, 1) := by decide +kernel
theorem dX12_goes_93 : decode cX12_goes 93 = .ok (.lastore, 1) := by decide +kernel
theorem dX12_goes_94 : decode cX12_goes 94 = .ok (.aload_n 0, 1) := by decide +kernel
theorem dX12_goes_95 : decode cX12_goes 95 = .ok (.getfield 75, 3) := by decide +kernel
theorem dX12_goes_98 : decode cX12_goes 98 = .ok (.iload 4, 2) := by decide +kernel
theorem dX12_goes_100 : decode cX12_goes 100 = .ok (.aload_n 0, 1) := by decide +kernel
theorem dX12_goes_101 : decode cX12_goes 101 = .ok (.getfield 75, 3) := by decide +kernel
theorem dX12_goes_104 : decode cX12_goes 104 = .ok (.iload 4, 2) := by decide +kernel
theorem dX12_goes_106 : decode cX12_goes 106 = .ok (.iconst 1, 1) := by decide +kernel
theorem dX12_goes_107 : decode cX12_goes 107 = .ok (.iadd, 1) := by decide +kernel
theorem dX12_goes_108 : decode cX12_goes 108 = .ok (.laload, 1) := by decide +kernel
theorem dX12_goes_109 : decode cX12_goes 109 = .ok (.lastore, 1) := by decide +kernel
theorem dX12_goes_110 : decode cX12_goes 110 = .ok (.iinc 3 1, 3) := by decide +kernel
theorem dX12_goes_113 : decode cX12_goes 113 = .ok (.goto (-101), 3) := by decide +kernel
theorem dX12_goes_116 : decode cX12_goes 116 = .ok (.return_, 1) := by decide +kernel
theorem dX12_unqueue_0 : decode cX12_unqueue 0 = .ok (.aload_n 0, 1) := by decide +kernel
theorem dX12_unqueue_1 : decode cX12_unqueue 1 = .ok (.getfield 44, 3) := by decide +kernel
theorem dX12_unqueue_4 : decode cX12_unqueue 4 = .ok (.iload_n 1, 1) := by decide +kernel
theorem dX12_unqueue_5 : decode cX12_unqueue 5 = .ok (.dup2, 1) := by decide +kernel
theorem dX12_unqueue_6 : decode cX12_unqueue 6 = .ok (.iaload, 1) := by decide +kernel
theorem dX12_unqueue_7 : decode cX12_unqueue 7 = .ok (.iconst 1, 1) := by decide +kernel
theorem dX12_unqueue_8 : decode cX12_unqueue 8 = .ok (.isub, 1) := by decide +kernel
theorem dX12_unqueue_9 : decode cX12_unqueue 9 = .ok (.iastore, 1) := by decide +kernel
theorem dX12_unqueue_10 : decode cX12_unqueue 10 = .ok (.iload_n 2, 1) := by decide +kernel
theorem dX12_unqueue_11 : decode cX12_unqueue 11 = .ok (.istore_n 3, 1) := by decide +kernel
theorem dX12_unqueue_12 : decode cX12_unqueue 12 = .ok (.iload_n 3, 1) := by decide +kernel
theorem dX12_unqueue_13 : decode cX12_unqueue 13 = .ok (.aload_n 0, 1) := by decide +kernel
theorem dX12_unqueue_14 : decode cX12_unqueue 14 = .ok (.getfield 44, 3) := by decide +kernel
theorem dX12_unqueue_17 : decode cX12_unqueue 17 = .ok (.iload_n 1, 1) := by decide +kernel
theorem dX12_unqueue_18 : decode cX12_unqueue 18 = .ok (.iaload, 1) := by decide +kernel
theorem dX12_unqueue_19 : decode cX12_unqueue 19 = .ok (.if_icmp .ge 33, 3) := by decide +kernel
theorem dX12_unqueue_22 : decode cX12_unqueue 22 = .ok (.aload_n 0, 1) := by decide +kernel
theorem dX12_unqueue_23 : decode cX12_unqueue 23 = .ok (.getfield 47, 3) := by decide +kernel
theorem dX12_unqueue_26 : decode cX12_unqueue 26 = .ok (.bipush 8, 2) := by decide +kernel
theorem dX12_unqueue_28 : decode cX12_unqueue 28 = .ok (.iload_n 1, 1) := by decide +kernel
theorem dX12_unqueue_29 : decode cX12_unqueue 29 = .ok (.imul, 1) := by decide +kernel
theorem dX12_unqueue_30 : decode cX12_unqueue 30 = .ok (.iload_n 3, 1) := by decide +kernel
theorem dX12_unqueue_31 : decode cX12_unqueue 31 = .ok (.iadd, 1) := by decide +kernel
theorem dX12_unqueue_32 : decode cX12_unqueue 32 = .ok (.aload_n 0, 1) := by decide +kernel
theorem dX12_unqueue_33 : decode cX12_unqueue 33 = .ok (.getfield 47, 3) := by decide +kernel
theorem dX12_unqueue_36 : decode cX12_unqueue 36 = .ok (.bipush 8, 2) := by decide +kernel
theorem dX12_unqueue_38 : decode cX12_unqueue 38 = .ok (.iload_n 1, 1) := by decide +kernel
theorem dX12_unqueue_39 : decode cX12_unqueue 39 = .ok (.imul, 1) := by decide +kernel
theorem dX12_unqueue_40 : decode cX12_unqueue 40 = .ok (.iload_n 3, 1) := by decide +kernel
theorem dX12_unqueue_41 : decode cX12_unqueue 41 = .ok (.iadd, 1) := by decide +kernel
theorem dX12_unqueue_42 : decode cX12_unqueue 42 = .ok (.iconst 1, 1) := by decide +kernel
theorem dX12_unqueue_43 : decode cX12_unqueue 43 = .ok (.iadd, 1) := by decide +kernel
theorem dX12_unqueue_44 : decode cX12_unqueue 44 = .ok (.iaload, 1) := by decide +kernel
theorem dX12_unqueue_45 : decode cX12_unqueue 45 = .ok (.iastore, 1) := by decide +kernel
theorem dX12_unqueue_46 : decode cX12_unqueue 46 = .ok (.iinc 3 1, 3) := by decide +kernel
theorem dX12_unqueue_49 : decode cX12_unqueue 49 = .ok (.goto (-37), 3) := by decide +kernel
theorem dX12_unqueue_52 : decode cX12_unqueue 52 = .ok (.iload_n 2, 1) := by decide +kernel
theorem dX12_unqueue_53 : decode cX12_unqueue 53 = .ok (.ifCond .ne 10, 3) := by decide +kernel
theorem dX12_unqueue_56 : decode cX12_unqueue 56 = .ok (.aload_n 0, 1) := by decide +kernel
theorem dX12_unqueue_57 : decode cX12_unqueue 57 = .ok (.getfield 57, 3) := by decide +kernel
theorem dX12_unqueue_60 : decode cX12_unqueue 60 = .ok (.iload_n 1, 1) := by decide +kernel
theorem dX12_unqueue_61 : decode cX12_unqueue 61 = .ok (.iconst 0, 1) := by decide +kernel
theorem dX12_unqueue_62 : decode cX12_unqueue 62 = .ok (.bastore, 1) := by decide +kernel
theorem dX12_unqueue_63 : decode cX12_unqueue 63 = .ok (.return_, 1) := by decide +kernel
theorem dX12_queuedAt_0 : decode cX12_queuedAt 0 = .ok (.iconst 0, 1) := by decide +kernel
theorem dX12_queuedAt_1 : decode cX12_queuedAt 1 = .ok (.istore_n 3, 1) := by decide +kernel
theorem dX12_queuedAt_2 : decode cX12_queuedAt 2 = .ok (.iload_n 3, 1) := by decide +kernel
theorem dX12_queuedAt_3 : decode cX12_queuedAt 3 = .ok (.aload_n 0, 1) := by decide +kernel
theorem dX12_queuedAt_4 : decode cX12_queuedAt 4 = .ok (.getfield 44, 3) := by decide +kernel
theorem dX12_queuedAt_7 : decode cX12_queuedAt 7 = .ok (.iload_n 1, 1) := by decide +kernel
theorem dX12_queuedAt_8 : decode cX12_queuedAt 8 = .ok (.iaload, 1) := by decide +kernel
theorem dX12_queuedAt_9 : decode cX12_queuedAt 9 = .ok (.if_icmp .ge 26, 3) := by decide +kernel
theorem dX12_queuedAt_12 : decode cX12_queuedAt 12 = .ok (.aload_n 0, 1) := by decide +kernel
theorem dX12_queuedAt_13 : decode cX12_queuedAt 13 = .ok (.getfield 47, 3) := by decide +kernel
theorem dX12_queuedAt_16 : decode cX12_queuedAt 16 = .ok (.bipush 8, 2) := by decide +kernel
theorem dX12_queuedAt_18 : decode cX12_queuedAt 18 = .ok (.iload_n 1, 1) := by decide +kernel
theorem dX12_queuedAt_19 : decode cX12_queuedAt 19 = .ok (.imul, 1) := by decide +kernel
theorem dX12_queuedAt_20 : decode cX12_queuedAt 20 = .ok (.iload_n 3, 1) := by decide +kernel
theorem dX12_queuedAt_21 : decode cX12_queuedAt 21 = .ok (.iadd, 1) := by decide +kernel
theorem dX12_queuedAt_22 : decode cX12_queuedAt 22 = .ok (.iaload, 1) := by decide +kernel
theorem dX12_queuedAt_23 : decode cX12_queuedAt 23 = .ok (.iload_n 2, 1) := by decide +kernel
theorem dX12_queuedAt_24 : decode cX12_queuedAt 24 = .ok (.if_icmp .ne 5, 3) := by decide +kernel
theorem dX12_queuedAt_27 : decode cX12_queuedAt 27 = .ok (.iload_n 3, 1) := by decide +kernel
theorem dX12_queuedAt_28 : decode cX12_queuedAt 28 = .ok (.ireturn, 1) := by decide +kernel
theorem dX12_queuedAt_29 : decode cX12_queuedAt 29 = .ok (.iinc 3 1, 3) := by decide +kernel
theorem dX12_queuedAt_32 : decode cX12_queuedAt 32 = .ok (.goto (-30), 3) := by decide +kernel
theorem dX12_queuedAt_35 : decode cX12_queuedAt 35 = .ok (.iconst (-1), 1) := by decide +kernel
theorem dX12_queuedAt_36 : decode cX12_queuedAt 36 = .ok (.ireturn, 1) := by decide +kernel
theorem dX12_looks_0 : decode cX12_looks 0 = .ok (.aload_n 0, 1) := by decide +kernel
theorem dX12_looks_1 : decode cX12_looks 1 = .ok (.aload_n 0, 1) := by decide +kernel
theorem dX12_looks_2 : decode cX12_looks 2 = .ok (.getfield 78, 3) := by decide +kernel
theorem dX12_looks_5 : decode cX12_looks 5 = .ok (.invokevirtual 187, 3) := by decide +kernel
theorem dX12_looks_8 : decode cX12_looks 8 = .ok (.lstore_n 2, 1) := by decide +kernel
theorem dX12_looks_9 : decode cX12_looks 9 = .ok (.iconst 0, 1) := by decide +kernel
theorem dX12_looks_10 : decode cX12_looks 10 = .ok (.istore 4, 2) := by decide +kernel
theorem dX12_looks_12 : decode cX12_looks 12 = .ok (.iload 4, 2) := by decide +kernel
theorem dX12_looks_14 : decode cX12_looks 14 = .ok (.aload_n 0, 1) := by decide +kernel
theorem dX12_looks_15 : decode cX12_looks 15 = .ok (.getfield 60, 3) := by decide +kernel
theorem dX12_looks_18 : decode cX12_looks 18 = .ok (.iload_n 1, 1) := by decide +kernel
theorem dX12_looks_19 : decode cX12_looks 19 = .ok (.iaload, 1) := by decide +kernel
theorem dX12_looks_20 : decode cX12_looks 20 = .ok (.if_icmp .ge 36, 3) := by decide +kernel
theorem dX12_looks_23 : decode cX12_looks 23 = .ok (.aload_n 0, 1) := by decide +kernel
theorem dX12_looks_24 : decode cX12_looks 24 = .ok (.getfield 75, 3) := by decide +kernel
theorem dX12_looks_27 : decode cX12_looks 27 = .ok (.bipush 20, 2) := by decide +kernel
theorem dX12_looks_29 : decode cX12_looks 29 = .ok (.iload_n 1, 1) := by decide +kernel
theorem dX12_looks_30 : decode cX12_looks 30 = .ok (.imul, 1) := by decide +kernel
theorem dX12_looks_31 : decode cX12_looks 31 = .ok (.iload 4, 2) := by decide +kernel
theorem dX12_looks_33 : decode cX12_looks 33 = .ok (.iadd, 1) := by decide +kernel
theorem dX12_looks_34 : decode cX12_looks 34 = .ok (.laload, 1) := by decide +kernel
theorem dX12_looks_35 : decode cX12_looks 35 = .ok (.lload_n 2, 1) := by decide +kernel
theorem dX12_looks_36 : decode cX12_looks 36 = .ok (.lcmp, 1) := by decide +kernel
theorem dX12_looks_37 : decode cX12_looks 37 = .ok (.ifCond .gt 13, 3) := by decide +kernel
theorem dX12_looks_40 : decode cX12_looks 40 = .ok (.aload_n 0, 1) := by decide +kernel
theorem dX12_looks_41 : decode cX12_looks 41 = .ok (.iload_n 1, 1) := by decide +kernel
theorem dX12_looks_42 : decode cX12_looks 42 = .ok (.iload 4, 2) := by decide +kernel
theorem dX12_looks_44 : decode cX12_looks 44 = .ok (.invokevirtual 231, 3) := by decide +kernel
theorem dX12_looks_47 : decode cX12_looks 47 = .ok (.goto (-35), 3) := by decide +kernel
theorem dX12_looks_50 : decode cX12_looks 50 = .ok (.iinc 4 1, 3) := by decide +kernel
theorem dX12_looks_53 : decode cX12_looks 53 = .ok (.goto (-41), 3) := by decide +kernel
theorem dX12_looks_56 : decode cX12_looks 56 = .ok (.aload_n 0, 1) := by decide +kernel
theorem dX12_looks_57 : decode cX12_looks 57 = .ok (.getfield 41, 3) := by decide +kernel
theorem dX12_looks_60 : decode cX12_looks 60 = .ok (.iload_n 1, 1) := by decide +kernel
theorem dX12_looks_61 : decode cX12_looks 61 = .ok (.iaload, 1) := by decide +kernel
theorem dX12_looks_62 : decode cX12_looks 62 = .ok (.iconst (-1), 1) := by decide +kernel
theorem dX12_looks_63 : decode cX12_looks 63 = .ok (.if_icmp .eq 25, 3) := by decide +kernel
theorem dX12_looks_66 : decode cX12_looks 66 = .ok (.aload_n 0, 1) := by decide +kernel
theorem dX12_looks_67 : decode cX12_looks 67 = .ok (.iload_n 1, 1) := by decide +kernel
theorem dX12_looks_68 : decode cX12_looks 68 = .ok (.aload_n 0, 1) := by decide +kernel
theorem dX12_looks_69 : decode cX12_looks 69 = .ok (.getfield 41, 3) := by decide +kernel
theorem dX12_looks_72 : decode cX12_looks 72 = .ok (.iload_n 1, 1) := by decide +kernel
theorem dX12_looks_73 : decode cX12_looks 73 = .ok (.iaload, 1) := by decide +kernel
theorem dX12_looks_74 : decode cX12_looks 74 = .ok (.invokevirtual 235, 3) := by decide +kernel
theorem dX12_looks_77 : decode cX12_looks 77 = .ok (.iconst (-1), 1) := by decide +kernel
theorem dX12_looks_78 : decode cX12_looks 78 = .ok (.if_icmp .ne 10, 3) := by decide +kernel
theorem dX12_looks_81 : decode cX12_looks 81 = .ok (.aload_n 0, 1) := by decide +kernel
theorem dX12_looks_82 : decode cX12_looks 82 = .ok (.getfield 41, 3) := by decide +kernel
theorem dX12_looks_85 : decode cX12_looks 85 = .ok (.iload_n 1, 1) := by decide +kernel
theorem dX12_looks_86 : decode cX12_looks 86 = .ok (.iconst (-1), 1) := by decide +kernel
theorem dX12_looks_87 : decode cX12_looks 87 = .ok (.iastore, 1) := by decide +kernel
theorem dX12_looks_88 : decode cX12_looks 88 = .ok (.aload_n 0, 1) := by decide +kernel
theorem dX12_looks_89 : decode cX12_looks 89 = .ok (.getfield 57, 3) := by decide +kernel
theorem dX12_looks_92 : decode cX12_looks 92 = .ok (.iload_n 1, 1) := by decide +kernel
theorem dX12_looks_93 : decode cX12_looks 93 = .ok (.baload, 1) := by decide +kernel
theorem dX12_looks_94 : decode cX12_looks 94 = .ok (.ifCond .eq 20, 3) := by decide +kernel
theorem dX12_looks_97 : decode cX12_looks 97 = .ok (.aload_n 0, 1) := by decide +kernel
theorem dX12_looks_98 : decode cX12_looks 98 = .ok (.getfield 54, 3) := by decide +kernel
theorem dX12_looks_101 : decode cX12_looks 101 = .ok (.iload_n 1, 1) := by decide +kernel
theorem dX12_looks_102 : decode cX12_looks 102 = .ok (.laload, 1) := by decide +kernel
theorem dX12_looks_103 : decode cX12_looks 103 = .ok (.lload_n 2, 1) := by decide +kernel
theorem dX12_looks_104 : decode cX12_looks 104 = .ok (.lcmp, 1) := by decide +kernel
theorem dX12_looks_105 : decode cX12_looks 105 = .ok (.ifCond .gt 9, 3) := by decide +kernel
theorem dX12_looks_108 : decode cX12_looks 108 = .ok (.aload_n 0, 1) := by decide +kernel
theorem dX12_looks_109 : decode cX12_looks 109 = .ok (.iload_n 1, 1) := by decide +kernel
theorem dX12_looks_110 : decode cX12_looks 110 = .ok (.iconst 0, 1) := by decide +kernel
theorem dX12_looks_111 : decode cX12_looks 111 = .ok (.invokevirtual 239, 3) := by decide +kernel
theorem dX12_looks_114 : decode cX12_looks 114 = .ok (.aload_n 0, 1) := by decide +kernel
theorem dX12_looks_115 : decode cX12_looks 115 = .ok (.getfield 44, 3) := by decide +kernel
theorem dX12_looks_118 : decode cX12_looks 118 = .ok (.iload_n 1, 1) := by decide +kernel
theorem dX12_looks_119 : decode cX12_looks 119 = .ok (.iaload, 1) := by decide +kernel
theorem dX12_looks_120 : decode cX12_looks 120 = .ok (.ifCond .le 63, 3) := by decide +kernel
theorem dX12_looks_123 : decode cX12_looks 123 = .ok (.aload_n 0, 1) := by decide +kernel
theorem dX12_looks_124 : decode cX12_looks 124 = .ok (.getfield 60, 3) := by decide +kernel
theorem dX12_looks_127 : decode cX12_looks 127 = .ok (.iload_n 1, 1) := by decide +kernel
theorem dX12_looks_128 : decode cX12_looks 128 = .ok (.iaload, 1) := by decide +kernel
theorem dX12_looks_129 : decode cX12_looks 129 = .ok (.ifCond .ne 54, 3) := by decide +kernel
theorem dX12_looks_132 : decode cX12_looks 132 = .ok (.aload_n 0, 1) := by decide +kernel
theorem dX12_looks_133 : decode cX12_looks 133 = .ok (.getfield 57, 3) := by decide +kernel
theorem dX12_looks_136 : decode cX12_looks 136 = .ok (.iload_n 1, 1) := by decide +kernel
theorem dX12_looks_137 : decode cX12_looks 137 = .ok (.baload, 1) := by decide +kernel
theorem dX12_looks_138 : decode cX12_looks 138 = .ok (.ifCond .ne 45, 3) := by decide +kernel
theorem dX12_looks_141 : decode cX12_looks 141 = .ok (.aload_n 0, 1) := by decide +kernel
theorem dX12_looks_142 : decode cX12_looks 142 = .ok (.getfield 57, 3) := by decide +kernel
theorem dX12_looks_145 : decode cX12_looks 145 = .ok (.iload_n 1, 1) := by decide +kernel
theorem dX12_looks_146 : decode cX12_looks 146 = .ok (.iconst 1, 1) := by decide +kernel
theorem dX12_looks_147 : decode cX12_looks 147 = .ok (.bastore, 1) := by decide +kernel
theorem dX12_looks_148 : decode cX12_looks 148 = .ok (.aload_n 0, 1) := by decide +kernel
theorem dX12_looks_149 : decode cX12_looks 149 = .ok (.getfield 54, 3) := by decide +kernel
theorem dX12_looks_152 : decode cX12_looks 152 = .ok (.iload_n 1, 1) := by decide +kernel
theorem dX12_looks_153 : decode cX12_looks 153 = .ok (.lload_n 2, 1) := by decide +kernel
theorem dX12_looks_154 : decode cX12_looks 154 = .ok (.aload_n 0, 1) := by decide +kernel
theorem dX12_looks_155 : decode cX12_looks 155 = .ok (.iload_n 1, 1) := by decide +kernel
theorem dX12_looks_156 : decode cX12_looks 156 = .ok (.invokevirtual 210, 3) := by decide +kernel
theorem dX12_looks_159 : decode cX12_looks 159 = .ok (.i2l, 1) := by decide +kernel
theorem dX12_looks_160 : decode cX12_looks 160 = .ok (.ladd, 1) := by decide +kernel
theorem dX12_looks_161 : decode cX12_looks 161 = .ok (.lastore, 1) := by decide +kernel
theorem dX12_looks_162 : decode cX12_looks 162 = .ok (.aload_n 0, 1) := by decide +kernel
theorem dX12_looks_163 : decode cX12_looks 163 = .ok (.bipush 6, 2) := by decide +kernel
theorem dX12_looks_165 : decode cX12_looks 165 = .ok (.aload_n 0, 1) := by decide +kernel
theorem dX12_looks_166 : decode cX12_looks 166 = .ok (.getfield 47, 3) := by decide +kernel
theorem dX12_looks_169 : decode cX12_looks 169 = .ok (.bipush 8, 2) := by decide +kernel
theorem dX12_looks_171 : decode cX12_looks 171 = .ok (.iload_n 1, 1) := by decide +kernel
theorem dX12_looks_172 : decode cX12_looks 172 = .ok (.imul, 1) := by decide +kernel
theorem dX12_looks_173 : decode cX12_looks 173 = .ok (.iaload, 1) := by decide +kernel
theorem dX12_looks_174 : decode cX12_looks 174 = .ok (.aload_n 0, 1) := by decide +kernel
theorem dX12_looks_175 : decode cX12_looks 175 = .ok (.getfield 78, 3) := by decide +kernel
theorem dX12_looks_178 : decode cX12_looks 178 = .ok (.iload_n 1, 1) := by decide +kernel
theorem dX12_looks_179 : decode cX12_looks 179 = .ok (.invokevirtual 217, 3) := by decide +kernel
theorem dX12_looks_182 : decode cX12_looks 182 = .ok (.pop, 1) := by decide +kernel
theorem dX12_looks_183 : decode cX12_looks 183 = .ok (.return_, 1) := by decide +kernel
theorem dX12_isWritten_0 : decode cX12_isWritten 0 = .ok (.iconst 0, 1) := by decide +kernel
theorem dX12_isWritten_1 : decode cX12_isWritten 1 = .ok (.istore_n 2, 1) := by decide +kernel
theorem dX12_isWritten_2 : decode cX12_isWritten 2 = .ok (.iconst 0, 1) := by decide +kernel
theorem dX12_isWritten_3 : decode cX12_isWritten 3 = .ok (.istore_n 3, 1) := by decide +kernel
theorem dX12_isWritten_4 : decode cX12_isWritten 4 = .ok (.iload_n 3, 1) := by decide +kernel
theorem dX12_isWritten_5 : decode cX12_isWritten 5 = .ok (.aload_n 0, 1) := by decide +kernel
theorem dX12_isWritten_6 : decode cX12_isWritten 6 = .ok (.getfield 60, 3) := by decide +kernel
theorem dX12_isWritten_9 : decode cX12_isWritten 9 = .ok (.iload_n 1, 1) := by decide +kernel
theorem dX12_isWritten_10 : decode cX12_isWritten 10 = .ok (.iaload, 1) := by decide +kernel
theorem dX12_isWritten_11 : decode cX12_isWritten 11 = .ok (.if_icmp .ge 33, 3) := by decide +kernel
theorem dX12_isWritten_14 : decode cX12_isWritten 14 = .ok (.iload_n 2, 1) := by decide +kernel
theorem dX12_isWritten_15 : decode cX12_isWritten 15 = .ok (.ifCond .ne 17, 3) := by decide +kernel
theorem dX12_isWritten_18 : decode cX12_isWritten 18 = .ok (.aload_n 0, 1) := by decide +kernel
theorem dX12_isWritten_19 : decode cX12_isWritten 19 = .ok (.getfield 66, 3) := by decide +kernel
theorem dX12_isWritten_22 : decode cX12_isWritten 22 = .ok (.bipush 20, 2) := by decide +kernel
theorem dX12_isWritten_24 : decode cX12_isWritten 24 = .ok (.iload_n 1, 1) := by decide +kernel
theorem dX12_isWritten_25 : decode cX12_isWritten 25 = .ok (.imul, 1) := by decide +kernel
theorem dX12_isWritten_26 : decode cX12_isWritten 26 = .ok (.iload_n 3, 1) := by decide +kernel
theorem dX12_isWritten_27 : decode cX12_isWritten 27 = .ok (.iadd, 1) := by decide +kernel
theorem dX12_isWritten_28 : decode cX12_isWritten 28 = .ok (.iaload, 1) := by decide +kernel
theorem dX12_isWritten_29 : decode cX12_isWritten 29 = .ok (.ifCond .ne 7, 3) := by decide +kernel
theorem dX12_isWritten_32 : decode cX12_isWritten 32 = .ok (.iconst 1, 1) := by decide +kernel
theorem dX12_isWritten_33 : decode cX12_isWritten 33 = .ok (.goto 4, 3) := by decide +kernel
theorem dX12_isWritten_36 : decode cX12_isWritten 36 = .ok (.iconst 0, 1) := by decide +kernel
theorem dX12_isWritten_37 : decode cX12_isWritten 37 = .ok (.istore_n 2, 1) := by decide +kernel
theorem dX12_isWritten_38 : decode cX12_isWritten 38 = .ok (.iinc 3 1, 3) := by decide +kernel
theorem dX12_isWritten_41 : decode cX12_isWritten 41 = .ok (.goto (-37), 3) := by decide +kernel
theorem dX12_isWritten_44 : decode cX12_isWritten 44 = .ok (.iload_n 2, 1) := by decide +kernel
theorem dX12_isWritten_45 : decode cX12_isWritten 45 = .ok (.ireturn, 1) := by decide +kernel
theorem dX12_partsOf_0 : decode cX12_partsOf 0 = .ok (.iconst 0, 1) := by decide +kernel
theorem dX12_partsOf_1 : decode cX12_partsOf 1 = .ok (.istore_n 2, 1) := by decide +kernel
theorem dX12_partsOf_2 : decode cX12_partsOf 2 = .ok (.iconst 0, 1) := by decide +kernel
theorem dX12_partsOf_3 : decode cX12_partsOf 3 = .ok (.istore_n 3, 1) := by decide +kernel
theorem dX12_partsOf_4 : decode cX12_partsOf 4 = .ok (.iload_n 3, 1) := by decide +kernel
theorem dX12_partsOf_5 : decode cX12_partsOf 5 = .ok (.aload_n 0, 1) := by decide +kernel
theorem dX12_partsOf_6 : decode cX12_partsOf 6 = .ok (.getfield 60, 3) := by decide +kernel
theorem dX12_partsOf_9 : decode cX12_partsOf 9 = .ok (.iload_n 1, 1) := by decide +kernel
theorem dX12_partsOf_10 : decode cX12_partsOf 10 = .ok (.iaload, 1) := by decide +kernel
theorem dX12_partsOf_11 : decode cX12_partsOf 11 = .ok (.if_icmp .ge 23, 3) := by decide +kernel
theorem dX12_partsOf_14 : decode cX12_partsOf 14 = .ok (.iload_n 2, 1) := by decide +kernel
theorem dX12_partsOf_15 : decode cX12_partsOf 15 = .ok (.aload_n 0, 1) := by decide +kernel
theorem dX12_partsOf_16 : decode cX12_partsOf 16 = .ok (.getfield 69, 3) := by decide +kernel
theorem dX12_partsOf_19 : decode cX12_partsOf 19 = .ok (.bipush 20, 2) := by decide +kernel
theorem dX12_partsOf_21 : decode cX12_partsOf 21 = .ok (.iload_n 1, 1) := by decide +kernel
theorem dX12_partsOf_22 : decode cX12_partsOf 22 = .ok (.imul, 1) := by decide +kernel
theorem dX12_partsOf_23 : decode cX12_partsOf 23 = .ok (.iload_n 3, 1) := by decide +kernel
theorem dX12_partsOf_24 : decode cX12_partsOf 24 = .ok (.iadd, 1) := by decide +kernel
theorem dX12_partsOf_25 : decode cX12_partsOf 25 = .ok (.iaload, 1) := by decide +kernel
theorem dX12_partsOf_26 : decode cX12_partsOf 26 = .ok (.iadd, 1) := by decide +kernel
theorem dX12_partsOf_27 : decode cX12_partsOf 27 = .ok (.istore_n 2, 1) := by decide +kernel
theorem dX12_partsOf_28 : decode cX12_partsOf 28 = .ok (.iinc 3 1, 3) := by decide +kernel
theorem dX12_partsOf_31 : decode cX12_partsOf 31 = .ok (.goto (-27), 3) := by decide +kernel
theorem dX12_partsOf_34 : decode cX12_partsOf 34 = .ok (.iload_n 2, 1) := by decide +kernel
theorem dX12_partsOf_35 : decode cX12_partsOf 35 = .ok (.ireturn, 1) := by decide +kernel
theorem dX12_fits_0 : decode cX12_fits 0 = .ok (.aload_n 0, 1) := by decide +kernel
theorem dX12_fits_1 : decode cX12_fits 1 = .ok (.getfield 32, 3) := by decide +kernel
theorem dX12_fits_4 : decode cX12_fits 4 = .ok (.iload_n 1, 1) := by decide +kernel
theorem dX12_fits_5 : decode cX12_fits 5 = .ok (.iaload, 1) := by decide +kernel
theorem dX12_fits_6 : decode cX12_fits 6 = .ok (.tableswitch 172 1 4 #[30, 66, 89, 135], 30) := by decide +kernel
theorem dX12_fits_36 : decode cX12_fits 36 = .ok (.iload_n 3, 1) := by decide +kernel
theorem dX12_fits_37 : decode cX12_fits 37 = .ok (.iconst 1, 1) := by decide +kernel
theorem dX12_fits_38 : decode cX12_fits 38 = .ok (.if_icmp .ne 19, 3) := by decide +kernel
theorem dX12_fits_41 : decode cX12_fits 41 = .ok (.aload_n 0, 1) := by decide +kernel
theorem dX12_fits_42 : decode cX12_fits 42 = .ok (.iload_n 1, 1) := by decide +kernel
theorem dX12_fits_43 : decode cX12_fits 43 = .ok (.invokevirtual 242, 3) := by decide +kernel
theorem dX12_fits_46 : decode cX12_fits 46 = .ok (.ifCond .ne 7, 3) := by decide +kernel
theorem dX12_fits_49 : decode cX12_fits 49 = .ok (.iconst 1, 1) := by decide +kernel
theorem dX12_fits_50 : decode cX12_fits 50 = .ok (.goto 21, 3) := by decide +kernel
theorem dX12_fits_53 : decode cX12_fits 53 = .ok (.iconst 0, 1) := by decide +kernel
theorem dX12_fits_54 : decode cX12_fits 54 = .ok (.goto 17, 3) := by decide +kernel
theorem dX12_fits_57 : decode cX12_fits 57 = .ok (.aload_n 0, 1) := by decide +kernel
theorem dX12_fits_58 : decode cX12_fits 58 = .ok (.getfield 60, 3) := by decide +kernel
theorem dX12_fits_61 : decode cX12_fits 61 = .ok (.iload_n 1, 1) := by decide +kernel
theorem dX12_fits_62 : decode cX12_fits 62 = .ok (.iaload, 1) := by decide +kernel
theorem dX12_fits_63 : decode cX12_fits 63 = .ok (.ifCond .ne 7, 3) := by decide +kernel
theorem dX12_fits_66 : decode cX12_fits 66 = .ok (.iconst 1, 1) := by decide +kernel
theorem dX12_fits_67 : decode cX12_fits 67 = .ok (.goto 4, 3) := by decide +kernel
theorem dX12_fits_70 : decode cX12_fits 70 = .ok (.iconst 0, 1) := by decide +kernel
theorem dX12_fits_71 : decode cX12_fits 71 = .ok (.ireturn, 1) := by decide +kernel
theorem dX12_fits_72 : decode cX12_fits 72 = .ok (.aload_n 0, 1) := by decide +kernel
theorem dX12_fits_73 : decode cX12_fits 73 = .ok (.iload_n 1, 1) := by decide +kernel
theorem dX12_fits_74 : decode cX12_fits 74 = .ok (.invokevirtual 245, 3) := by decide +kernel
theorem dX12_fits_77 : decode cX12_fits 77 = .ok (.iload 4, 2) := by decide +kernel
theorem dX12_fits_79 : decode cX12_fits 79 = .ok (.iadd, 1) := by decide +kernel
theorem dX12_fits_80 : decode cX12_fits 80 = .ok (.aload_n 0, 1) := by decide +kernel
theorem dX12_fits_81 : decode cX12_fits 81 = .ok (.getfield 38, 3) := by decide +kernel
theorem dX12_fits_84 : decode cX12_fits 84 = .ok (.iload_n 1, 1) := by decide +kernel
theorem dX12_fits_85 : decode cX12_fits 85 = .ok (.iaload, 1) := by decide +kernel
theorem dX12_fits_86 : decode cX12_fits 86 = .ok (.if_icmp .gt 7, 3) := by decide +kernel
theorem dX12_fits_89 : decode cX12_fits 89 = .ok (.iconst 1, 1) := by decide +kernel
theorem dX12_fits_90 : decode cX12_fits 90 = .ok (.goto 4, 3) := by decide +kernel
theorem dX12_fits_93 : decode cX12_fits 93 = .ok (.iconst 0, 1) := by decide +kernel
theorem dX12_fits_94 : decode cX12_fits 94 = .ok (.ireturn, 1) := by decide +kernel
theorem dX12_fits_95 : decode cX12_fits 95 = .ok (.iload_n 3, 1) := by decide +kernel
theorem dX12_fits_96 : decode cX12_fits 96 = .ok (.iconst 1, 1) := by decide +kernel
theorem dX12_fits_97 : decode cX12_fits 97 = .ok (.if_icmp .ne 29, 3) := by decide +kernel
theorem dX12_fits_100 : decode cX12_fits 100 = .ok (.aload_n 0, 1) := by decide +kernel
theorem dX12_fits_101 : decode cX12_fits 101 = .ok (.iload_n 1, 1) := by decide +kernel
theorem dX12_fits_102 : decode cX12_fits 102 = .ok (.invokevirtual 242, 3) := by decide +kernel
theorem dX12_fits_105 : decode cX12_fits 105 = .ok (.ifCond .ne 17, 3) := by decide +kernel
theorem dX12_fits_108 : decode cX12_fits 108 = .ok (.aload_n 0, 1) := by decide +kernel
theorem dX12_fits_109 : decode cX12_fits 109 = .ok (.getfield 41, 3) := by decide +kernel
theorem dX12_fits_112 : decode cX12_fits 112 = .ok (.iload_n 1, 1) := by decide +kernel
theorem dX12_fits_113 : decode cX12_fits 113 = .ok (.iaload, 1) := by decide +kernel
theorem dX12_fits_114 : decode cX12_fits 114 = .ok (.iconst (-1), 1) := by decide +kernel
theorem dX12_fits_115 : decode cX12_fits 115 = .ok (.if_icmp .ne 7, 3) := by decide +kernel
theorem dX12_fits_118 : decode cX12_fits 118 = .ok (.iconst 1, 1) := by decide +kernel
theorem dX12_fits_119 : decode cX12_fits 119 = .ok (.goto 21, 3) := by decide +kernel
theorem dX12_fits_122 : decode cX12_fits 122 = .ok (.iconst 0, 1) := by decide +kernel
theorem dX12_fits_123 : decode cX12_fits 123 = .ok (.goto 17, 3) := by decide +kernel
theorem dX12_fits_126 : decode cX12_fits 126 = .ok (.aload_n 0, 1) := by decide +kernel
theorem dX12_fits_127 : decode cX12_fits 127 = .ok (.getfield 60, 3) := by decide +kernel
theorem dX12_fits_130 : decode cX12_fits 130 = .ok (.iload_n 1, 1) := by decide +kernel
theorem dX12_fits_131 : decode cX12_fits 131 = .ok (.iaload, 1) := by decide +kernel
theorem dX12_fits_132 : decode cX12_fits 132 = .ok (.ifCond .ne 7, 3) := by decide +kernel
theorem dX12_fits_135 : decode cX12_fits 135 = .ok (.iconst 1, 1) := by decide +kernel
theorem dX12_fits_136 : decode cX12_fits 136 = .ok (.goto 4, 3) := by decide +kernel
theorem dX12_fits_139 : decode cX12_fits 139 = .ok (.iconst 0, 1) := by decide +kernel
theorem dX12_fits_140 : decode cX12_fits 140 = .ok (.ireturn, 1) := by decide +kernel
theorem dX12_fits_141 : decode cX12_fits 141 = .ok (.aload_n 0, 1) := by decide +kernel
theorem dX12_fits_142 : decode cX12_fits 142 = .ok (.getfield 60, 3) := by decide +kernel
theorem dX12_fits_145 : decode cX12_fits 145 = .ok (.iload_n 1, 1) := by decide +kernel
theorem dX12_fits_146 : decode cX12_fits 146 = .ok (.iaload, 1) := by decide +kernel
theorem dX12_fits_147 : decode cX12_fits 147 = .ok (.ifCond .ne 29, 3) := by decide +kernel
theorem dX12_fits_150 : decode cX12_fits 150 = .ok (.aload_n 0, 1) := by decide +kernel
theorem dX12_fits_151 : decode cX12_fits 151 = .ok (.getfield 44, 3) := by decide +kernel
theorem dX12_fits_154 : decode cX12_fits 154 = .ok (.iload_n 1, 1) := by decide +kernel
theorem dX12_fits_155 : decode cX12_fits 155 = .ok (.iaload, 1) := by decide +kernel
theorem dX12_fits_156 : decode cX12_fits 156 = .ok (.ifCond .eq 16, 3) := by decide +kernel
theorem dX12_fits_159 : decode cX12_fits 159 = .ok (.aload_n 0, 1) := by decide +kernel
theorem dX12_fits_160 : decode cX12_fits 160 = .ok (.getfield 47, 3) := by decide +kernel
theorem dX12_fits_163 : decode cX12_fits 163 = .ok (.bipush 8, 2) := by decide +kernel
theorem dX12_fits_165 : decode cX12_fits 165 = .ok (.iload_n 1, 1) := by decide +kernel
theorem dX12_fits_166 : decode cX12_fits 166 = .ok (.imul, 1) := by decide +kernel
theorem dX12_fits_167 : decode cX12_fits 167 = .ok (.iaload, 1) := by decide +kernel
theorem dX12_fits_168 : decode cX12_fits 168 = .ok (.iload_n 2, 1) := by decide +kernel
theorem dX12_fits_169 : decode cX12_fits 169 = .ok (.if_icmp .ne 7, 3) := by decide +kernel
theorem dX12_fits_172 : decode cX12_fits 172 = .ok (.iconst 1, 1) := by decide +kernel
theorem dX12_fits_173 : decode cX12_fits 173 = .ok (.goto 4, 3) := by decide +kernel
theorem dX12_fits_176 : decode cX12_fits 176 = .ok (.iconst 0, 1) := by decide +kernel
theorem dX12_fits_177 : decode cX12_fits 177 = .ok (.ireturn, 1) := by decide +kernel
theorem dX12_fits_178 : decode cX12_fits 178 = .ok (.aload_n 0, 1) := by decide +kernel
theorem dX12_fits_179 : decode cX12_fits 179 = .ok (.getfield 60, 3) := by decide +kernel
theorem dX12_fits_182 : decode cX12_fits 182 = .ok (.iload_n 1, 1) := by decide +kernel
theorem dX12_fits_183 : decode cX12_fits 183 = .ok (.iaload, 1) := by decide +kernel
theorem dX12_fits_184 : decode cX12_fits 184 = .ok (.ifCond .ne 7, 3) := by decide +kernel
theorem dX12_fits_187 : decode cX12_fits 187 = .ok (.iconst 1, 1) := by decide +kernel
theorem dX12_fits_188 : decode cX12_fits 188 = .ok (.goto 4, 3) := by decide +kernel
theorem dX12_fits_191 : decode cX12_fits 191 = .ok (.iconst 0, 1) := by decide +kernel
theorem dX12_fits_192 : decode cX12_fits 192 = .ok (.ireturn, 1) := by decide +kernel
theorem dX12_granted_0 : decode cX12_granted 0 = .ok (.aload_n 0, 1) := by decide +kernel
theorem dX12_granted_1 : decode cX12_granted 1 = .ok (.getfield 50, 3) := by decide +kernel
theorem dX12_granted_4 : decode cX12_granted 4 = .ok (.iload_n 1, 1) := by decide +kernel
theorem dX12_granted_5 : decode cX12_granted 5 = .ok (.dup2, 1) := by decide +kernel
theorem dX12_granted_6 : decode cX12_granted 6 = .ok (.laload, 1) := by decide +kernel
theorem dX12_granted_7 : decode cX12_granted 7 = .ok (.lconst 1, 1) := by decide +kernel
theorem dX12_granted_8 : decode cX12_granted 8 = .ok (.ladd, 1) := by decide +kernel
theorem dX12_granted_9 : decode cX12_granted 9 = .ok (.lastore, 1) := by decide +kernel
theorem dX12_granted_10 : decode cX12_granted 10 = .ok (.aload_n 0, 1) := by decide +kernel
theorem dX12_granted_11 : decode cX12_granted 11 = .ok (.getfield 72, 3) := by decide +kernel
theorem dX12_granted_14 : decode cX12_granted 14 = .ok (.bipush 20, 2) := by decide +kernel
theorem dX12_granted_16 : decode cX12_granted 16 = .ok (.iload_n 1, 1) := by decide +kernel
theorem dX12_granted_17 : decode cX12_granted 17 = .ok (.imul, 1) := by decide +kernel
theorem dX12_granted_18 : decode cX12_granted 18 = .ok (.iload_n 2, 1) := by decide +kernel
theorem dX12_granted_19 : decode cX12_granted 19 = .ok (.iadd, 1) := by decide +kernel
theorem dX12_granted_20 : decode cX12_granted 20 = .ok (.aload_n 0, 1) := by decide +kernel
theorem dX12_granted_21 : decode cX12_granted 21 = .ok (.getfield 50, 3) := by decide +kernel
theorem dX12_granted_24 : decode cX12_granted 24 = .ok (.iload_n 1, 1) := by decide +kernel
theorem dX12_granted_25 : decode cX12_granted 25 = .ok (.laload, 1) := by decide +kernel
theorem dX12_granted_26 : decode cX12_granted 26 = .ok (.lastore, 1) := by decide +kernel
theorem dX12_granted_27 : decode cX12_granted 27 = .ok (.aload_n 0, 1) := by decide +kernel
theorem dX12_granted_28 : decode cX12_granted 28 = .ok (.getfield 75, 3) := by decide +kernel
theorem dX12_granted_31 : decode cX12_granted 31 = .ok (.bipush 20, 2) := by decide +kernel
theorem dX12_granted_33 : decode cX12_granted 33 = .ok (.iload_n 1, 1) := by decide +kernel
theorem dX12_granted_34 : decode cX12_granted 34 = .ok (.imul, 1) := by decide +kernel
theorem dX12_granted_35 : decode cX12_granted 35 = .ok (.iload_n 2, 1) := by decide +kernel
theorem dX12_granted_36 : decode cX12_granted 36 = .ok (.iadd, 1) := by decide +kernel
theorem dX12_granted_37 : decode cX12_granted 37 = .ok (.aload_n 0, 1) := by decide +kernel
theorem dX12_granted_38 : decode cX12_granted 38 = .ok (.aload_n 0, 1) := by decide +kernel
theorem dX12_granted_39 : decode cX12_granted 39 = .ok (.getfield 78, 3) := by decide +kernel
theorem dX12_granted_42 : decode cX12_granted 42 = .ok (.invokevirtual 187, 3) := by decide +kernel
theorem dX12_granted_45 : decode cX12_granted 45 = .ok (.aload_n 0, 1) := by decide +kernel
theorem dX12_granted_46 : decode cX12_granted 46 = .ok (.iload_n 1, 1) := by decide +kernel
theorem dX12_granted_47 : decode cX12_granted 47 = .ok (.invokevirtual 210, 3) := by decide +kernel
theorem dX12_granted_50 : decode cX12_granted 50 = .ok (.i2l, 1) := by decide +kernel
theorem dX12_granted_51 : decode cX12_granted 51 = .ok (.ladd, 1) := by decide +kernel
theorem dX12_granted_52 : decode cX12_granted 52 = .ok (.lastore, 1) := by decide +kernel
theorem dX12_granted_53 : decode cX12_granted 53 = .ok (.aload_n 0, 1) := by decide +kernel
theorem dX12_granted_54 : decode cX12_granted 54 = .ok (.dup, 1) := by decide +kernel
theorem dX12_granted_55 : decode cX12_granted 55 = .ok (.getfield 248, 3) := by decide +kernel
theorem dX12_granted_58 : decode cX12_granted 58 = .ok (.iconst 1, 1) := by decide +kernel
theorem dX12_granted_59 : decode cX12_granted 59 = .ok (.iadd, 1) := by decide +kernel
theorem dX12_granted_60 : decode cX12_granted 60 = .ok (.putfield 248, 3) := by decide +kernel
theorem dX12_granted_63 : decode cX12_granted 63 = .ok (.return_, 1) := by decide +kernel
theorem dX12_answers_0 : decode cX12_answers 0 = .ok (.aload_n 0, 1) := by decide +kernel
theorem dX12_answers_1 : decode cX12_answers 1 = .ok (.iload_n 2, 1) := by decide +kernel
theorem dX12_answers_2 : decode cX12_answers 2 = .ok (.aload_n 0, 1) := by decide +kernel
theorem dX12_answers_3 : decode cX12_answers 3 = .ok (.getfield 103, 3) := by decide +kernel
theorem dX12_answers_6 : decode cX12_answers 6 = .ok (.iload_n 1, 1) := by decide +kernel
theorem dX12_answers_7 : decode cX12_answers 7 = .ok (.iaload, 1) := by decide +kernel
theorem dX12_answers_8 : decode cX12_answers 8 = .ok (.aload_n 0, 1) := by decide +kernel
theorem dX12_answers_9 : decode cX12_answers 9 = .ok (.getfield 106, 3) := by decide +kernel
theorem dX12_answers_12 : decode cX12_answers 12 = .ok (.iload_n 1, 1) := by decide +kernel
theorem dX12_answers_13 : decode cX12_answers 13 = .ok (.iaload, 1) := by decide +kernel
theorem dX12_answers_14 : decode cX12_answers 14 = .ok (.aload_n 0, 1) := by decide +kernel
theorem dX12_answers_15 : decode cX12_answers 15 = .ok (.getfield 109, 3) := by decide +kernel
theorem dX12_answers_18 : decode cX12_answers 18 = .ok (.iload_n 1, 1) := by decide +kernel
theorem dX12_answers_19 : decode cX12_answers 19 = .ok (.iaload, 1) := by decide +kernel
theorem dX12_answers_20 : decode cX12_answers 20 = .ok (.invokevirtual 217, 3) := by decide +kernel
theorem dX12_answers_23 : decode cX12_answers 23 = .ok (.istore_n 3, 1) := by decide +kernel
theorem dX12_answers_24 : decode cX12_answers 24 = .ok (.iload_n 2, 1) := by decide +kernel
theorem dX12_answers_25 : decode cX12_answers 25 = .ok (.bipush 7, 2) := by decide +kernel
theorem dX12_answers_27 : decode cX12_answers 27 = .ok (.if_icmp .eq 27, 3) := by decide +kernel
theorem dX12_answers_30 : decode cX12_answers 30 = .ok (.aload_n 0, 1) := by decide +kernel
theorem dX12_answers_31 : decode cX12_answers 31 = .ok (.getfield 121, 3) := by decide +kernel
theorem dX12_answers_34 : decode cX12_answers 34 = .ok (.iload_n 3, 1) := by decide +kernel
theorem dX12_answers_35 : decode cX12_answers 35 = .ok (.aload_n 0, 1) := by decide +kernel
theorem dX12_answers_36 : decode cX12_answers 36 = .ok (.getfield 121, 3) := by decide +kernel
theorem dX12_answers_39 : decode cX12_answers 39 = .ok (.iload_n 1, 1) := by decide +kernel
theorem dX12_answers_40 : decode cX12_answers 40 = .ok (.iaload, 1) := by decide +kernel
theorem dX12_answers_41 : decode cX12_answers 41 = .ok (.iastore, 1) := by decide +kernel
theorem dX12_answers_42 : decode cX12_answers 42 = .ok (.aload_n 0, 1) := by decide +kernel
theorem dX12_answers_43 : decode cX12_answers 43 = .ok (.getfield 127, 3) := by decide +kernel
theorem dX12_answers_46 : decode cX12_answers 46 = .ok (.iload_n 3, 1) := by decide +kernel
theorem dX12_answers_47 : decode cX12_answers 47 = .ok (.aload_n 0, 1) := by decide +kernel
theorem dX12_answers_48 : decode cX12_answers 48 = .ok (.getfield 127, 3) := by decide +kernel
theorem dX12_answers_51 : decode cX12_answers 51 = .ok (.iload_n 1, 1) := by decide +kernel
theorem dX12_answers_52 : decode cX12_answers 52 = .ok (.laload, 1) := by decide +kernel
theorem dX12_answers_53 : decode cX12_answers 53 = .ok (.lastore, 1) := by decide +kernel
theorem dX12_answers_54 : decode cX12_answers 54 = .ok (.iload_n 3, 1) := by decide +kernel
theorem dX12_answers_55 : decode cX12_answers 55 = .ok (.ireturn, 1) := by decide +kernel
theorem dX12_refuses_0 : decode cX12_refuses 0 = .ok (.aload_n 0, 1) := by decide +kernel
theorem dX12_refuses_1 : decode cX12_refuses 1 = .ok (.dup, 1) := by decide +kernel
theorem dX12_refuses_2 : decode cX12_refuses 2 = .ok (.getfield 251, 3) := by decide +kernel
theorem dX12_refuses_5 : decode cX12_refuses 5 = .ok (.iconst 1, 1) := by decide +kernel
theorem dX12_refuses_6 : decode cX12_refuses 6 = .ok (.iadd, 1) := by decide +kernel
theorem dX12_refuses_7 : decode cX12_refuses 7 = .ok (.putfield 251, 3) := by decide +kernel
theorem dX12_refuses_10 : decode cX12_refuses 10 = .ok (.aload_n 0, 1) := by decide +kernel
theorem dX12_refuses_11 : decode cX12_refuses 11 = .ok (.iload_n 1, 1) := by decide +kernel
theorem dX12_refuses_12 : decode cX12_refuses 12 = .ok (.iconst 5, 1) := by decide +kernel
theorem dX12_refuses_13 : decode cX12_refuses 13 = .ok (.invokevirtual 254, 3) := by decide +kernel
theorem dX12_refuses_16 : decode cX12_refuses 16 = .ok (.pop, 1) := by decide +kernel
theorem dX12_refuses_17 : decode cX12_refuses 17 = .ok (.return_, 1) := by decide +kernel
theorem dX12_isLate_0 : decode cX12_isLate 0 = .ok (.aload_n 0, 1) := by decide +kernel
theorem dX12_isLate_1 : decode cX12_isLate 1 = .ok (.dup, 1) := by decide +kernel
theorem dX12_isLate_2 : decode cX12_isLate 2 = .ok (.getfield 257, 3) := by decide +kernel
theorem dX12_isLate_5 : decode cX12_isLate 5 = .ok (.iconst 1, 1) := by decide +kernel
theorem dX12_isLate_6 : decode cX12_isLate 6 = .ok (.iadd, 1) := by decide +kernel
theorem dX12_isLate_7 : decode cX12_isLate 7 = .ok (.putfield 257, 3) := by decide +kernel
theorem dX12_isLate_10 : decode cX12_isLate 10 = .ok (.aload_n 0, 1) := by decide +kernel
theorem dX12_isLate_11 : decode cX12_isLate 11 = .ok (.iload_n 1, 1) := by decide +kernel
theorem dX12_isLate_12 : decode cX12_isLate 12 = .ok (.bipush 7, 2) := by decide +kernel
theorem dX12_isLate_14 : decode cX12_isLate 14 = .ok (.invokevirtual 254, 3) := by decide +kernel
theorem dX12_isLate_17 : decode cX12_isLate 17 = .ok (.istore_n 2, 1) := by decide +kernel
theorem dX12_isLate_18 : decode cX12_isLate 18 = .ok (.aload_n 0, 1) := by decide +kernel
theorem dX12_isLate_19 : decode cX12_isLate 19 = .ok (.getfield 124, 3) := by decide +kernel
theorem dX12_isLate_22 : decode cX12_isLate 22 = .ok (.iload_n 2, 1) := by decide +kernel
theorem dX12_isLate_23 : decode cX12_isLate 23 = .ok (.aload_n 0, 1) := by decide +kernel
theorem dX12_isLate_24 : decode cX12_isLate 24 = .ok (.getfield 124, 3) := by decide +kernel
theorem dX12_isLate_27 : decode cX12_isLate 27 = .ok (.iload_n 1, 1) := by decide +kernel
theorem dX12_isLate_28 : decode cX12_isLate 28 = .ok (.laload, 1) := by decide +kernel
theorem dX12_isLate_29 : decode cX12_isLate 29 = .ok (.lastore, 1) := by decide +kernel
theorem dX12_isLate_30 : decode cX12_isLate 30 = .ok (.return_, 1) := by decide +kernel
theorem dX12_grants_0 : decode cX12_grants 0 = .ok (.bipush 20, 2) := by decide +kernel
theorem dX12_grants_2 : decode cX12_grants 2 = .ok (.aload_n 0, 1) := by decide +kernel
theorem dX12_grants_3 : decode cX12_grants 3 = .ok (.getfield 109, 3) := by decide +kernel
theorem dX12_grants_6 : decode cX12_grants 6 = .ok (.iload_n 1, 1) := by decide +kernel
theorem dX12_grants_7 : decode cX12_grants 7 = .ok (.iaload, 1) := by decide +kernel
theorem dX12_grants_8 : decode cX12_grants 8 = .ok (.imul, 1) := by decide +kernel
theorem dX12_grants_9 : decode cX12_grants 9 = .ok (.iload_n 2, 1) := by decide +kernel
theorem dX12_grants_10 : decode cX12_grants 10 = .ok (.iadd, 1) := by decide +kernel
theorem dX12_grants_11 : decode cX12_grants 11 = .ok (.istore_n 3, 1) := by decide +kernel
theorem dX12_grants_12 : decode cX12_grants 12 = .ok (.aload_n 0, 1) := by decide +kernel
theorem dX12_grants_13 : decode cX12_grants 13 = .ok (.iload_n 1, 1) := by decide +kernel
theorem dX12_grants_14 : decode cX12_grants 14 = .ok (.iconst 4, 1) := by decide +kernel
theorem dX12_grants_15 : decode cX12_grants 15 = .ok (.invokevirtual 254, 3) := by decide +kernel
theorem dX12_grants_18 : decode cX12_grants 18 = .ok (.istore 4, 2) := by decide +kernel
theorem dX12_grants_20 : decode cX12_grants 20 = .ok (.aload_n 0, 1) := by decide +kernel
theorem dX12_grants_21 : decode cX12_grants 21 = .ok (.getfield 112, 3) := by decide +kernel
theorem dX12_grants_24 : decode cX12_grants 24 = .ok (.iload 4, 2) := by decide +kernel
theorem dX12_grants_26 : decode cX12_grants 26 = .ok (.aload_n 0, 1) := by decide +kernel
theorem dX12_grants_27 : decode cX12_grants 27 = .ok (.getfield 66, 3) := by decide +kernel
theorem dX12_grants_30 : decode cX12_grants 30 = .ok (.iload_n 3, 1) := by decide +kernel
theorem dX12_grants_31 : decode cX12_grants 31 = .ok (.iaload, 1) := by decide +kernel
theorem dX12_grants_32 : decode cX12_grants 32 = .ok (.iastore, 1) := by decide +kernel
theorem dX12_grants_33 : decode cX12_grants 33 = .ok (.aload_n 0, 1) := by decide +kernel
theorem dX12_grants_34 : decode cX12_grants 34 = .ok (.getfield 115, 3) := by decide +kernel
theorem dX12_grants_37 : decode cX12_grants 37 = .ok (.iload 4, 2) := by decide +kernel
theorem dX12_grants_39 : decode cX12_grants 39 = .ok (.aload_n 0, 1) := by decide +kernel
theorem dX12_grants_40 : decode cX12_grants 40 = .ok (.getfield 69, 3) := by decide +kernel
theorem dX12_grants_43 : decode cX12_grants 43 = .ok (.iload_n 3, 1) := by decide +kernel
theorem dX12_grants_44 : decode cX12_grants 44 = .ok (.iaload, 1) := by decide +kernel
theorem dX12_grants_45 : decode cX12_grants 45 = .ok (.iastore, 1) := by decide +kernel
theorem dX12_grants_46 : decode cX12_grants 46 = .ok (.aload_n 0, 1) := by decide +kernel
theorem dX12_grants_47 : decode cX12_grants 47 = .ok (.getfield 124, 3) := by decide +kernel
theorem dX12_grants_50 : decode cX12_grants 50 = .ok (.iload 4, 2) := by decide +kernel
theorem dX12_grants_52 : decode cX12_grants 52 = .ok (.aload_n 0, 1) := by decide +kernel
theorem dX12_grants_53 : decode cX12_grants 53 = .ok (.getfield 72, 3) := by decide +kernel
theorem dX12_grants_56 : decode cX12_grants 56 = .ok (.iload_n 3, 1) := by decide +kernel
theorem dX12_grants_57 : decode cX12_grants 57 = .ok (.laload, 1) := by decide +kernel
theorem dX12_grants_58 : decode cX12_grants 58 = .ok (.lastore, 1) := by decide +kernel
theorem dX12_grants_59 : decode cX12_grants 59 = .ok (.return_, 1) := by decide +kernel
theorem dX12_asks_0 : decode cX12_asks 0 = .ok (.aload_n 0, 1) := by decide +kernel
theorem dX12_asks_1 : decode cX12_asks 1 = .ok (.getfield 109, 3) := by decide +kernel
theorem dX12_asks_4 : decode cX12_asks 4 = .ok (.iload_n 1, 1) := by decide +kernel
theorem dX12_asks_5 : decode cX12_asks 5 = .ok (.iaload, 1) := by decide +kernel
theorem dX12_asks_6 : decode cX12_asks 6 = .ok (.istore_n 2, 1) := by decide +kernel
theorem dX12_asks_7 : decode cX12_asks 7 = .ok (.aload_n 0, 1) := by decide +kernel
theorem dX12_asks_8 : decode cX12_asks 8 = .ok (.getfield 103, 3) := by decide +kernel
theorem dX12_asks_11 : decode cX12_asks 11 = .ok (.iload_n 1, 1) := by decide +kernel
theorem dX12_asks_12 : decode cX12_asks 12 = .ok (.iaload, 1) := by decide +kernel
theorem dX12_asks_13 : decode cX12_asks 13 = .ok (.istore_n 3, 1) := by decide +kernel
theorem dX12_asks_14 : decode cX12_asks 14 = .ok (.aload_n 0, 1) := by decide +kernel
theorem dX12_asks_15 : decode cX12_asks 15 = .ok (.iload_n 2, 1) := by decide +kernel
theorem dX12_asks_16 : decode cX12_asks 16 = .ok (.iload_n 3, 1) := by decide +kernel
theorem dX12_asks_17 : decode cX12_asks 17 = .ok (.invokevirtual 235, 3) := by decide +kernel
theorem dX12_asks_20 : decode cX12_asks 20 = .ok (.iconst (-1), 1) := by decide +kernel
theorem dX12_asks_21 : decode cX12_asks 21 = .ok (.if_icmp .eq 11, 3) := by decide +kernel
theorem dX12_asks_24 : decode cX12_asks 24 = .ok (.aload_n 0, 1) := by decide +kernel
theorem dX12_asks_25 : decode cX12_asks 25 = .ok (.iload_n 1, 1) := by decide +kernel
theorem dX12_asks_26 : decode cX12_asks 26 = .ok (.invokevirtual 260, 3) := by decide +kernel
theorem dX12_asks_29 : decode cX12_asks 29 = .ok (.goto 205, 3) := by decide +kernel
theorem dX12_asks_32 : decode cX12_asks 32 = .ok (.aload_n 0, 1) := by decide +kernel
theorem dX12_asks_33 : decode cX12_asks 33 = .ok (.iload_n 2, 1) := by decide +kernel
theorem dX12_asks_34 : decode cX12_asks 34 = .ok (.iload_n 3, 1) := by decide +kernel
theorem dX12_asks_35 : decode cX12_asks 35 = .ok (.aload_n 0, 1) := by decide +kernel
theorem dX12_asks_36 : decode cX12_asks 36 = .ok (.getfield 112, 3) := by decide +kernel
theorem dX12_asks_39 : decode cX12_asks 39 = .ok (.iload_n 1, 1) := by decide +kernel
theorem dX12_asks_40 : decode cX12_asks 40 = .ok (.iaload, 1) := by decide +kernel
theorem dX12_asks_41 : decode cX12_asks 41 = .ok (.aload_n 0, 1) := by decide +kernel
theorem dX12_asks_42 : decode cX12_asks 42 = .ok (.getfield 115, 3) := by decide +kernel
theorem dX12_asks_45 : decode cX12_asks 45 = .ok (.iload_n 1, 1) := by decide +kernel
theorem dX12_asks_46 : decode cX12_asks 46 = .ok (.iaload, 1) := by decide +kernel
theorem dX12_asks_47 : decode cX12_asks 47 = .ok (.invokevirtual 264, 3) := by decide +kernel
theorem dX12_asks_50 : decode cX12_asks 50 = .ok (.ifCond .eq 108, 3) := by decide +kernel
theorem dX12_asks_53 : decode cX12_asks 53 = .ok (.aload_n 0, 1) := by decide +kernel
theorem dX12_asks_54 : decode cX12_asks 54 = .ok (.iload_n 2, 1) := by decide +kernel
theorem dX12_asks_55 : decode cX12_asks 55 = .ok (.iload_n 3, 1) := by decide +kernel
theorem dX12_asks_56 : decode cX12_asks 56 = .ok (.invokevirtual 268, 3) := by decide +kernel
theorem dX12_asks_59 : decode cX12_asks 59 = .ok (.istore 4, 2) := by decide +kernel
theorem dX12_asks_61 : decode cX12_asks 61 = .ok (.iload 4, 2) := by decide +kernel
theorem dX12_asks_63 : decode cX12_asks 63 = .ok (.iconst (-1), 1) := by decide +kernel
theorem dX12_asks_64 : decode cX12_asks 64 = .ok (.if_icmp .eq 10, 3) := by decide +kernel
theorem dX12_asks_67 : decode cX12_asks 67 = .ok (.aload_n 0, 1) := by decide +kernel
theorem dX12_asks_68 : decode cX12_asks 68 = .ok (.iload_n 2, 1) := by decide +kernel
theorem dX12_asks_69 : decode cX12_asks 69 = .ok (.iload 4, 2) := by decide +kernel
theorem dX12_asks_71 : decode cX12_asks 71 = .ok (.invokevirtual 239, 3) := by decide +kernel
theorem dX12_asks_74 : decode cX12_asks 74 = .ok (.aload_n 0, 1) := by decide +kernel
theorem dX12_asks_75 : decode cX12_asks 75 = .ok (.getfield 60, 3) := by decide +kernel
theorem dX12_asks_78 : decode cX12_asks 78 = .ok (.iload_n 2, 1) := by decide +kernel
theorem dX12_asks_79 : decode cX12_asks 79 = .ok (.iaload, 1) := by decide +kernel
theorem dX12_asks_80 : decode cX12_asks 80 = .ok (.istore 5, 2) := by decide +kernel
theorem dX12_asks_82 : decode cX12_asks 82 = .ok (.aload_n 0, 1) := by decide +kernel
theorem dX12_asks_83 : decode cX12_asks 83 = .ok (.getfield 60, 3) := by decide +kernel
theorem dX12_asks_86 : decode cX12_asks 86 = .ok (.iload_n 2, 1) := by decide +kernel
theorem dX12_asks_87 : decode cX12_asks 87 = .ok (.dup2, 1) := by decide +kernel
theorem dX12_asks_88 : decode cX12_asks 88 = .ok (.iaload, 1) := by decide +kernel
theorem dX12_asks_89 : decode cX12_asks 89 = .ok (.iconst 1, 1) := by decide +kernel
theorem dX12_asks_90 : decode cX12_asks 90 = .ok (.iadd, 1) := by decide +kernel
theorem dX12_asks_91 : decode cX12_asks 91 = .ok (.iastore, 1) := by decide +kernel
theorem dX12_asks_92 : decode cX12_asks 92 = .ok (.aload_n 0, 1) := by decide +kernel
theorem dX12_asks_93 : decode cX12_asks 93 = .ok (.getfield 63, 3) := by decide +kernel
theorem dX12_asks_96 : decode cX12_asks 96 = .ok (.bipush 20, 2) := by decide +kernel
theorem dX12_asks_98 : decode cX12_asks 98 = .ok (.iload_n 2, 1) := by decide +kernel
theorem dX12_asks_99 : decode cX12_asks 99 = .ok (.imul, 1) := by decide +kernel
theorem dX12_asks_100 : decode cX12_asks 100 = .ok (.iload 5, 2) := by decide +kernel
theorem dX12_asks_102 : decode cX12_asks 102 = .ok (.iadd, 1) := by decide +kernel
theorem dX12_asks_103 : decode cX12_asks 103 = .ok (.iload_n 3, 1) := by decide +kernel
theorem dX12_asks_104 : decode cX12_asks 104 = .ok (.iastore, 1) := by decide +kernel
theorem dX12_asks_105 : decode cX12_asks 105 = .ok (.aload_n 0, 1) := by decide +kernel
theorem dX12_asks_106 : decode cX12_asks 106 = .ok (.getfield 66, 3) := by decide +kernel
theorem dX12_asks_109 : decode cX12_asks 109 = .ok (.bipush 20, 2) := by decide +kernel
theorem dX12_asks_111 : decode cX12_asks 111 = .ok (.iload_n 2, 1) := by decide +kernel
theorem dX12_asks_112 : decode cX12_asks 112 = .ok (.imul, 1) := by decide +kernel
theorem dX12_asks_113 : decode cX12_asks 113 = .ok (.iload 5, 2) := by decide +kernel
theorem dX12_asks_115 : decode cX12_asks 115 = .ok (.iadd, 1) := by decide +kernel
theorem dX12_asks_116 : decode cX12_asks 116 = .ok (.aload_n 0, 1) := by decide +kernel
theorem dX12_asks_117 : decode cX12_asks 117 = .ok (.getfield 112, 3) := by decide +kernel
theorem dX12_asks_120 : decode cX12_asks 120 = .ok (.iload_n 1, 1) := by decide +kernel
theorem dX12_asks_121 : decode cX12_asks 121 = .ok (.iaload, 1) := by decide +kernel
theorem dX12_asks_122 : decode cX12_asks 122 = .ok (.iastore, 1) := by decide +kernel
theorem dX12_asks_123 : decode cX12_asks 123 = .ok (.aload_n 0, 1) := by decide +kernel
theorem dX12_asks_124 : decode cX12_asks 124 = .ok (.getfield 69, 3) := by decide +kernel
theorem dX12_asks_127 : decode cX12_asks 127 = .ok (.bipush 20, 2) := by decide +kernel
theorem dX12_asks_129 : decode cX12_asks 129 = .ok (.iload_n 2, 1) := by decide +kernel
theorem dX12_asks_130 : decode cX12_asks 130 = .ok (.imul, 1) := by decide +kernel
theorem dX12_asks_131 : decode cX12_asks 131 = .ok (.iload 5, 2) := by decide +kernel
theorem dX12_asks_133 : decode cX12_asks 133 = .ok (.iadd, 1) := by decide +kernel
theorem dX12_asks_134 : decode cX12_asks 134 = .ok (.aload_n 0, 1) := by decide +kernel
theorem dX12_asks_135 : decode cX12_asks 135 = .ok (.getfield 115, 3) := by decide +kernel
theorem dX12_asks_138 : decode cX12_asks 138 = .ok (.iload_n 1, 1) := by decide +kernel
theorem dX12_asks_139 : decode cX12_asks 139 = .ok (.iaload, 1) := by decide +kernel
theorem dX12_asks_140 : decode cX12_asks 140 = .ok (.iastore, 1) := by decide +kernel
theorem dX12_asks_141 : decode cX12_asks 141 = .ok (.aload_n 0, 1) := by decide +kernel
theorem dX12_asks_142 : decode cX12_asks 142 = .ok (.iload_n 2, 1) := by decide +kernel
theorem dX12_asks_143 : decode cX12_asks 143 = .ok (.iload 5, 2) := by decide +kernel
theorem dX12_asks_145 : decode cX12_asks 145 = .ok (.invokevirtual 271, 3) := by decide +kernel
theorem dX12_asks_148 : decode cX12_asks 148 = .ok (.aload_n 0, 1) := by decide +kernel
theorem dX12_asks_149 : decode cX12_asks 149 = .ok (.iload_n 1, 1) := by decide +kernel
theorem dX12_asks_150 : decode cX12_asks 150 = .ok (.iload 5, 2) := by decide +kernel
theorem dX12_asks_152 : decode cX12_asks 152 = .ok (.invokevirtual 274, 3) := by decide +kernel
theorem dX12_asks_155 : decode cX12_asks 155 = .ok (.goto 79, 3) := by decide +kernel
theorem dX12_asks_158 : decode cX12_asks 158 = .ok (.aload_n 0, 1) := by decide +kernel
theorem dX12_asks_159 : decode cX12_asks 159 = .ok (.getfield 32, 3) := by decide +kernel
theorem dX12_asks_162 : decode cX12_asks 162 = .ok (.iload_n 2, 1) := by decide +kernel
theorem dX12_asks_163 : decode cX12_asks 163 = .ok (.iaload, 1) := by decide +kernel
theorem dX12_asks_164 : decode cX12_asks 164 = .ok (.iconst 4, 1) := by decide +kernel
theorem dX12_asks_165 : decode cX12_asks 165 = .ok (.if_icmp .ne 24, 3) := by decide +kernel
theorem dX12_asks_168 : decode cX12_asks 168 = .ok (.aload_n 0, 1) := by decide +kernel
theorem dX12_asks_169 : decode cX12_asks 169 = .ok (.iload_n 2, 1) := by decide +kernel
theorem dX12_asks_170 : decode cX12_asks 170 = .ok (.iload_n 3, 1) := by decide +kernel
theorem dX12_asks_171 : decode cX12_asks 171 = .ok (.invokevirtual 268, 3) := by decide +kernel
theorem dX12_asks_174 : decode cX12_asks 174 = .ok (.iconst (-1), 1) := by decide +kernel
theorem dX12_asks_175 : decode cX12_asks 175 = .ok (.if_icmp .ne 22, 3) := by decide +kernel
theorem dX12_asks_178 : decode cX12_asks 178 = .ok (.aload_n 0, 1) := by decide +kernel
theorem dX12_asks_179 : decode cX12_asks 179 = .ok (.getfield 44, 3) := by decide +kernel
theorem dX12_asks_182 : decode cX12_asks 182 = .ok (.iload_n 2, 1) := by decide +kernel
theorem dX12_asks_183 : decode cX12_asks 183 = .ok (.iaload, 1) := by decide +kernel
theorem dX12_asks_184 : decode cX12_asks 184 = .ok (.bipush 8, 2) := by decide +kernel
theorem dX12_asks_186 : decode cX12_asks 186 = .ok (.if_icmp .ne 11, 3) := by decide +kernel
theorem dX12_asks_189 : decode cX12_asks 189 = .ok (.aload_n 0, 1) := by decide +kernel
theorem dX12_asks_190 : decode cX12_asks 190 = .ok (.iload_n 1, 1) := by decide +kernel
theorem dX12_asks_191 : decode cX12_asks 191 = .ok (.invokevirtual 260, 3) := by decide +kernel
theorem dX12_asks_194 : decode cX12_asks 194 = .ok (.goto 40, 3) := by decide +kernel
theorem dX12_asks_197 : decode cX12_asks 197 = .ok (.aload_n 0, 1) := by decide +kernel
theorem dX12_asks_198 : decode cX12_asks 198 = .ok (.iload_n 2, 1) := by decide +kernel
theorem dX12_asks_199 : decode cX12_asks 199 = .ok (.iload_n 3, 1) := by decide +kernel
theorem dX12_asks_200 : decode cX12_asks 200 = .ok (.invokevirtual 268, 3) := by decide +kernel
theorem dX12_asks_203 : decode cX12_asks 203 = .ok (.iconst (-1), 1) := by decide +kernel
theorem dX12_asks_204 : decode cX12_asks 204 = .ok (.if_icmp .ne 30, 3) := by decide +kernel
theorem dX12_asks_207 : decode cX12_asks 207 = .ok (.aload_n 0, 1) := by decide +kernel
theorem dX12_asks_208 : decode cX12_asks 208 = .ok (.getfield 47, 3) := by decide +kernel
theorem dX12_asks_211 : decode cX12_asks 211 = .ok (.bipush 8, 2) := by decide +kernel
theorem dX12_asks_213 : decode cX12_asks 213 = .ok (.iload_n 2, 1) := by decide +kernel
theorem dX12_asks_214 : decode cX12_asks 214 = .ok (.imul, 1) := by decide +kernel
theorem dX12_asks_215 : decode cX12_asks 215 = .ok (.aload_n 0, 1) := by decide +kernel
theorem dX12_asks_216 : decode cX12_asks 216 = .ok (.getfield 44, 3) := by decide +kernel
theorem dX12_asks_219 : decode cX12_asks 219 = .ok (.iload_n 2, 1) := by decide +kernel
theorem dX12_asks_220 : decode cX12_asks 220 = .ok (.iaload, 1) := by decide +kernel
theorem dX12_asks_221 : decode cX12_asks 221 = .ok (.iadd, 1) := by decide +kernel
theorem dX12_asks_222 : decode cX12_asks 222 = .ok (.iload_n 3, 1) := by decide +kernel
theorem dX12_asks_223 : decode cX12_asks 223 = .ok (.iastore, 1) := by decide +kernel
theorem dX12_asks_224 : decode cX12_asks 224 = .ok (.aload_n 0, 1) := by decide +kernel
theorem dX12_asks_225 : decode cX12_asks 225 = .ok (.getfield 44, 3) := by decide +kernel
theorem dX12_asks_228 : decode cX12_asks 228 = .ok (.iload_n 2, 1) := by decide +kernel
theorem dX12_asks_229 : decode cX12_asks 229 = .ok (.dup2, 1) := by decide +kernel
theorem dX12_asks_230 : decode cX12_asks 230 = .ok (.iaload, 1) := by decide +kernel
theorem dX12_asks_231 : decode cX12_asks 231 = .ok (.iconst 1, 1) := by decide +kernel
theorem dX12_asks_232 : decode cX12_asks 232 = .ok (.iadd, 1) := by decide +kernel
theorem dX12_asks_233 : decode cX12_asks 233 = .ok (.iastore, 1) := by decide +kernel
theorem dX12_asks_234 : decode cX12_asks 234 = .ok (.return_, 1) := by decide +kernel
theorem dX12_meant_0 : decode cX12_meant 0 = .ok (.aload_n 0, 1) := by decide +kernel
theorem dX12_meant_1 : decode cX12_meant 1 = .ok (.aload_n 0, 1) := by decide +kernel
theorem dX12_meant_2 : decode cX12_meant 2 = .ok (.getfield 109, 3) := by decide +kernel
theorem dX12_meant_5 : decode cX12_meant 5 = .ok (.iload_n 1, 1) := by decide +kernel
theorem dX12_meant_6 : decode cX12_meant 6 = .ok (.iaload, 1) := by decide +kernel
theorem dX12_meant_7 : decode cX12_meant 7 = .ok (.aload_n 0, 1) := by decide +kernel
theorem dX12_meant_8 : decode cX12_meant 8 = .ok (.getfield 103, 3) := by decide +kernel
theorem dX12_meant_11 : decode cX12_meant 11 = .ok (.iload_n 1, 1) := by decide +kernel
theorem dX12_meant_12 : decode cX12_meant 12 = .ok (.iaload, 1) := by decide +kernel
theorem dX12_meant_13 : decode cX12_meant 13 = .ok (.invokevirtual 235, 3) := by decide +kernel
theorem dX12_meant_16 : decode cX12_meant 16 = .ok (.istore_n 2, 1) := by decide +kernel
theorem dX12_meant_17 : decode cX12_meant 17 = .ok (.iload_n 2, 1) := by decide +kernel
theorem dX12_meant_18 : decode cX12_meant 18 = .ok (.iconst (-1), 1) := by decide +kernel
theorem dX12_meant_19 : decode cX12_meant 19 = .ok (.if_icmp .eq 33, 3) := by decide +kernel
theorem dX12_meant_22 : decode cX12_meant 22 = .ok (.aload_n 0, 1) := by decide +kernel
theorem dX12_meant_23 : decode cX12_meant 23 = .ok (.getfield 72, 3) := by decide +kernel
theorem dX12_meant_26 : decode cX12_meant 26 = .ok (.bipush 20, 2) := by decide +kernel
theorem dX12_meant_28 : decode cX12_meant 28 = .ok (.aload_n 0, 1) := by decide +kernel
theorem dX12_meant_29 : decode cX12_meant 29 = .ok (.getfield 109, 3) := by decide +kernel
theorem dX12_meant_32 : decode cX12_meant 32 = .ok (.iload_n 1, 1) := by decide +kernel
theorem dX12_meant_33 : decode cX12_meant 33 = .ok (.iaload, 1) := by decide +kernel
theorem dX12_meant_34 : decode cX12_meant 34 = .ok (.imul, 1) := by decide +kernel
theorem dX12_meant_35 : decode cX12_meant 35 = .ok (.iload_n 2, 1) := by decide +kernel
theorem dX12_meant_36 : decode cX12_meant 36 = .ok (.iadd, 1) := by decide +kernel
theorem dX12_meant_37 : decode cX12_meant 37 = .ok (.laload, 1) := by decide +kernel
theorem dX12_meant_38 : decode cX12_meant 38 = .ok (.aload_n 0, 1) := by decide +kernel
theorem dX12_meant_39 : decode cX12_meant 39 = .ok (.getfield 124, 3) := by decide +kernel
theorem dX12_meant_42 : decode cX12_meant 42 = .ok (.iload_n 1, 1) := by decide +kernel
theorem dX12_meant_43 : decode cX12_meant 43 = .ok (.laload, 1) := by decide +kernel
theorem dX12_meant_44 : decode cX12_meant 44 = .ok (.lcmp, 1) := by decide +kernel
theorem dX12_meant_45 : decode cX12_meant 45 = .ok (.ifCond .ne 7, 3) := by decide +kernel
theorem dX12_meant_48 : decode cX12_meant 48 = .ok (.iload_n 2, 1) := by decide +kernel
theorem dX12_meant_49 : decode cX12_meant 49 = .ok (.goto 4, 3) := by decide +kernel
theorem dX12_meant_52 : decode cX12_meant 52 = .ok (.iconst (-1), 1) := by decide +kernel
theorem dX12_meant_53 : decode cX12_meant 53 = .ok (.ireturn, 1) := by decide +kernel
theorem dX12_prolongs_0 : decode cX12_prolongs 0 = .ok (.aload_n 0, 1) := by decide +kernel
theorem dX12_prolongs_1 : decode cX12_prolongs 1 = .ok (.getfield 109, 3) := by decide +kernel
theorem dX12_prolongs_4 : decode cX12_prolongs 4 = .ok (.iload_n 1, 1) := by decide +kernel
theorem dX12_prolongs_5 : decode cX12_prolongs 5 = .ok (.iaload, 1) := by decide +kernel
theorem dX12_prolongs_6 : decode cX12_prolongs 6 = .ok (.istore_n 3, 1) := by decide +kernel
theorem dX12_prolongs_7 : decode cX12_prolongs 7 = .ok (.aload_n 0, 1) := by decide +kernel
theorem dX12_prolongs_8 : decode cX12_prolongs 8 = .ok (.getfield 75, 3) := by decide +kernel
theorem dX12_prolongs_11 : decode cX12_prolongs 11 = .ok (.bipush 20, 2) := by decide +kernel
theorem dX12_prolongs_13 : decode cX12_prolongs 13 = .ok (.iload_n 3, 1) := by decide +kernel
theorem dX12_prolongs_14 : decode cX12_prolongs 14 = .ok (.imul, 1) := by decide +kernel
theorem dX12_prolongs_15 : decode cX12_prolongs 15 = .ok (.iload_n 2, 1) := by decide +kernel
theorem dX12_prolongs_16 : decode cX12_prolongs 16 = .ok (.iadd, 1) := by decide +kernel
theorem dX12_prolongs_17 : decode cX12_prolongs 17 = .ok (.aload_n 0, 1) := by decide +kernel
theorem dX12_prolongs_18 : decode cX12_prolongs 18 = .ok (.aload_n 0, 1) := by decide +kernel
theorem dX12_prolongs_19 : decode cX12_prolongs 19 = .ok (.getfield 78, 3) := by decide +kernel
theorem dX12_prolongs_22 : decode cX12_prolongs 22 = .ok (.invokevirtual 187, 3) := by decide +kernel
theorem dX12_prolongs_25 : decode cX12_prolongs 25 = .ok (.aload_n 0, 1) := by decide +kernel
theorem dX12_prolongs_26 : decode cX12_prolongs 26 = .ok (.iload_n 3, 1) := by decide +kernel
theorem dX12_prolongs_27 : decode cX12_prolongs 27 = .ok (.invokevirtual 210, 3) := by decide +kernel
theorem dX12_prolongs_30 : decode cX12_prolongs 30 = .ok (.i2l, 1) := by decide +kernel
theorem dX12_prolongs_31 : decode cX12_prolongs 31 = .ok (.ladd, 1) := by decide +kernel
theorem dX12_prolongs_32 : decode cX12_prolongs 32 = .ok (.lastore, 1) := by decide +kernel
theorem dX12_prolongs_33 : decode cX12_prolongs 33 = .ok (.aload_n 0, 1) := by decide +kernel
theorem dX12_prolongs_34 : decode cX12_prolongs 34 = .ok (.iload_n 1, 1) := by decide +kernel
theorem dX12_prolongs_35 : decode cX12_prolongs 35 = .ok (.iload_n 2, 1) := by decide +kernel
theorem dX12_prolongs_36 : decode cX12_prolongs 36 = .ok (.invokevirtual 274, 3) := by decide +kernel
theorem dX12_prolongs_39 : decode cX12_prolongs 39 = .ok (.return_, 1) := by decide +kernel
theorem dX12_rises_0 : decode cX12_rises 0 = .ok (.aload_n 0, 1) := by decide +kernel
theorem dX12_rises_1 : decode cX12_rises 1 = .ok (.getfield 109, 3) := by decide +kernel
theorem dX12_rises_4 : decode cX12_rises 4 = .ok (.iload_n 1, 1) := by decide +kernel
theorem dX12_rises_5 : decode cX12_rises 5 = .ok (.iaload, 1) := by decide +kernel
theorem dX12_rises_6 : decode cX12_rises 6 = .ok (.istore_n 2, 1) := by decide +kernel
theorem dX12_rises_7 : decode cX12_rises 7 = .ok (.aload_n 0, 1) := by decide +kernel
theorem dX12_rises_8 : decode cX12_rises 8 = .ok (.getfield 103, 3) := by decide +kernel
theorem dX12_rises_11 : decode cX12_rises 11 = .ok (.iload_n 1, 1) := by decide +kernel
theorem dX12_rises_12 : decode cX12_rises 12 = .ok (.iaload, 1) := by decide +kernel
theorem dX12_rises_13 : decode cX12_rises 13 = .ok (.istore_n 3, 1) := by decide +kernel
theorem dX12_rises_14 : decode cX12_rises 14 = .ok (.aload_n 0, 1) := by decide +kernel
theorem dX12_rises_15 : decode cX12_rises 15 = .ok (.iload_n 1, 1) := by decide +kernel
theorem dX12_rises_16 : decode cX12_rises 16 = .ok (.invokevirtual 276, 3) := by decide +kernel
theorem dX12_rises_19 : decode cX12_rises 19 = .ok (.istore 4, 2) := by decide +kernel
theorem dX12_rises_21 : decode cX12_rises 21 = .ok (.iload 4, 2) := by decide +kernel
theorem dX12_rises_23 : decode cX12_rises 23 = .ok (.iconst (-1), 1) := by decide +kernel
theorem dX12_rises_24 : decode cX12_rises 24 = .ok (.if_icmp .ne 11, 3) := by decide +kernel
theorem dX12_rises_27 : decode cX12_rises 27 = .ok (.aload_n 0, 1) := by decide +kernel
theorem dX12_rises_28 : decode cX12_rises 28 = .ok (.iload_n 1, 1) := by decide +kernel
theorem dX12_rises_29 : decode cX12_rises 29 = .ok (.invokevirtual 279, 3) := by decide +kernel
theorem dX12_rises_32 : decode cX12_rises 32 = .ok (.goto 102, 3) := by decide +kernel
theorem dX12_rises_35 : decode cX12_rises 35 = .ok (.aload_n 0, 1) := by decide +kernel
theorem dX12_rises_36 : decode cX12_rises 36 = .ok (.getfield 66, 3) := by decide +kernel
theorem dX12_rises_39 : decode cX12_rises 39 = .ok (.bipush 20, 2) := by decide +kernel
theorem dX12_rises_41 : decode cX12_rises 41 = .ok (.iload_n 2, 1) := by decide +kernel
theorem dX12_rises_42 : decode cX12_rises 42 = .ok (.imul, 1) := by decide +kernel
theorem dX12_rises_43 : decode cX12_rises 43 = .ok (.iload 4, 2) := by decide +kernel
theorem dX12_rises_45 : decode cX12_rises 45 = .ok (.iadd, 1) := by decide +kernel
theorem dX12_rises_46 : decode cX12_rises 46 = .ok (.iaload, 1) := by decide +kernel
theorem dX12_rises_47 : decode cX12_rises 47 = .ok (.ifCond .ne 13, 3) := by decide +kernel
theorem dX12_rises_50 : decode cX12_rises 50 = .ok (.aload_n 0, 1) := by decide +kernel
theorem dX12_rises_51 : decode cX12_rises 51 = .ok (.iload_n 1, 1) := by decide +kernel
theorem dX12_rises_52 : decode cX12_rises 52 = .ok (.iload 4, 2) := by decide +kernel
theorem dX12_rises_54 : decode cX12_rises 54 = .ok (.invokevirtual 282, 3) := by decide +kernel
theorem dX12_rises_57 : decode cX12_rises 57 = .ok (.goto 77, 3) := by decide +kernel
theorem dX12_rises_60 : decode cX12_rises 60 = .ok (.aload_n 0, 1) := by decide +kernel
theorem dX12_rises_61 : decode cX12_rises 61 = .ok (.getfield 41, 3) := by decide +kernel
theorem dX12_rises_64 : decode cX12_rises 64 = .ok (.iload_n 2, 1) := by decide +kernel
theorem dX12_rises_65 : decode cX12_rises 65 = .ok (.iaload, 1) := by decide +kernel
theorem dX12_rises_66 : decode cX12_rises 66 = .ok (.iconst (-1), 1) := by decide +kernel
theorem dX12_rises_67 : decode cX12_rises 67 = .ok (.if_icmp .eq 21, 3) := by decide +kernel
theorem dX12_rises_70 : decode cX12_rises 70 = .ok (.aload_n 0, 1) := by decide +kernel
theorem dX12_rises_71 : decode cX12_rises 71 = .ok (.getfield 41, 3) := by decide +kernel
theorem dX12_rises_74 : decode cX12_rises 74 = .ok (.iload_n 2, 1) := by decide +kernel
theorem dX12_rises_75 : decode cX12_rises 75 = .ok (.iaload, 1) := by decide +kernel
theorem dX12_rises_76 : decode cX12_rises 76 = .ok (.iload_n 3, 1) := by decide +kernel
theorem dX12_rises_77 : decode cX12_rises 77 = .ok (.if_icmp .eq 11, 3) := by decide +kernel
theorem dX12_rises_80 : decode cX12_rises 80 = .ok (.aload_n 0, 1) := by decide +kernel
theorem dX12_rises_81 : decode cX12_rises 81 = .ok (.iload_n 1, 1) := by decide +kernel
theorem dX12_rises_82 : decode cX12_rises 82 = .ok (.invokevirtual 260, 3) := by decide +kernel
theorem dX12_rises_85 : decode cX12_rises 85 = .ok (.goto 49, 3) := by decide +kernel
theorem dX12_rises_88 : decode cX12_rises 88 = .ok (.aload_n 0, 1) := by decide +kernel
theorem dX12_rises_89 : decode cX12_rises 89 = .ok (.getfield 41, 3) := by decide +kernel
theorem dX12_rises_92 : decode cX12_rises 92 = .ok (.iload_n 2, 1) := by decide +kernel
theorem dX12_rises_93 : decode cX12_rises 93 = .ok (.iload_n 3, 1) := by decide +kernel
theorem dX12_rises_94 : decode cX12_rises 94 = .ok (.iastore, 1) := by decide +kernel
theorem dX12_rises_95 : decode cX12_rises 95 = .ok (.aload_n 0, 1) := by decide +kernel
theorem dX12_rises_96 : decode cX12_rises 96 = .ok (.getfield 60, 3) := by decide +kernel
theorem dX12_rises_99 : decode cX12_rises 99 = .ok (.iload_n 2, 1) := by decide +kernel
theorem dX12_rises_100 : decode cX12_rises 100 = .ok (.iaload, 1) := by decide +kernel
theorem dX12_rises_101 : decode cX12_rises 101 = .ok (.iconst 1, 1) := by decide +kernel
theorem dX12_rises_102 : decode cX12_rises 102 = .ok (.if_icmp .ne 32, 3) := by decide +kernel
theorem dX12_rises_105 : decode cX12_rises 105 = .ok (.aload_n 0, 1) := by decide +kernel
theorem dX12_rises_106 : decode cX12_rises 106 = .ok (.getfield 66, 3) := by decide +kernel
theorem dX12_rises_109 : decode cX12_rises 109 = .ok (.bipush 20, 2) := by decide +kernel
theorem dX12_rises_111 : decode cX12_rises 111 = .ok (.iload_n 2, 1) := by decide +kernel
theorem dX12_rises_112 : decode cX12_rises 112 = .ok (.imul, 1) := by decide +kernel
theorem dX12_rises_113 : decode cX12_rises 113 = .ok (.iconst 0, 1) := by decide +kernel
theorem dX12_rises_114 : decode cX12_rises 114 = .ok (.iastore, 1) := by decide +kernel
theorem dX12_rises_115 : decode cX12_rises 115 = .ok (.aload_n 0, 1) := by decide +kernel
theorem dX12_rises_116 : decode cX12_rises 116 = .ok (.iload_n 2, 1) := by decide +kernel
theorem dX12_rises_117 : decode cX12_rises 117 = .ok (.iconst 0, 1) := by decide +kernel
theorem dX12_rises_118 : decode cX12_rises 118 = .ok (.invokevirtual 271, 3) := by decide +kernel
theorem dX12_rises_121 : decode cX12_rises 121 = .ok (.aload_n 0, 1) := by decide +kernel
theorem dX12_rises_122 : decode cX12_rises 122 = .ok (.getfield 41, 3) := by decide +kernel
theorem dX12_rises_125 : decode cX12_rises 125 = .ok (.iload_n 2, 1) := by decide +kernel
theorem dX12_rises_126 : decode cX12_rises 126 = .ok (.iconst (-1), 1) := by decide +kernel
theorem dX12_rises_127 : decode cX12_rises 127 = .ok (.iastore, 1) := by decide +kernel
theorem dX12_rises_128 : decode cX12_rises 128 = .ok (.aload_n 0, 1) := by decide +kernel
theorem dX12_rises_129 : decode cX12_rises 129 = .ok (.iload_n 1, 1) := by decide +kernel
theorem dX12_rises_130 : decode cX12_rises 130 = .ok (.iconst 0, 1) := by decide +kernel
theorem dX12_rises_131 : decode cX12_rises 131 = .ok (.invokevirtual 274, 3) := by decide +kernel
theorem dX12_rises_134 : decode cX12_rises 134 = .ok (.return_, 1) := by decide +kernel
theorem dX12_toKeeper_0 : decode cX12_toKeeper 0 = .ok (.aload_n 0, 1) := by decide +kernel
theorem dX12_toKeeper_1 : decode cX12_toKeeper 1 = .ok (.getfield 109, 3) := by decide +kernel
theorem dX12_toKeeper_4 : decode cX12_toKeeper 4 = .ok (.iload_n 1, 1) := by decide +kernel
theorem dX12_toKeeper_5 : decode cX12_toKeeper 5 = .ok (.iaload, 1) := by decide +kernel
theorem dX12_toKeeper_6 : decode cX12_toKeeper 6 = .ok (.istore_n 2, 1) := by decide +kernel
theorem dX12_toKeeper_7 : decode cX12_toKeeper 7 = .ok (.aload_n 0, 1) := by decide +kernel
theorem dX12_toKeeper_8 : decode cX12_toKeeper 8 = .ok (.iload_n 2, 1) := by decide +kernel
theorem dX12_toKeeper_9 : decode cX12_toKeeper 9 = .ok (.invokevirtual 285, 3) := by decide +kernel
theorem dX12_toKeeper_12 : decode cX12_toKeeper 12 = .ok (.aload_n 0, 1) := by decide +kernel
theorem dX12_toKeeper_13 : decode cX12_toKeeper 13 = .ok (.iload_n 1, 1) := by decide +kernel
theorem dX12_toKeeper_14 : decode cX12_toKeeper 14 = .ok (.invokevirtual 276, 3) := by decide +kernel
theorem dX12_toKeeper_17 : decode cX12_toKeeper 17 = .ok (.istore_n 3, 1) := by decide +kernel
theorem dX12_toKeeper_18 : decode cX12_toKeeper 18 = .ok (.aload_n 0, 1) := by decide +kernel
theorem dX12_toKeeper_19 : decode cX12_toKeeper 19 = .ok (.getfield 100, 3) := by decide +kernel
theorem dX12_toKeeper_22 : decode cX12_toKeeper 22 = .ok (.iload_n 1, 1) := by decide +kernel
theorem dX12_toKeeper_23 : decode cX12_toKeeper 23 = .ok (.iaload, 1) := by decide +kernel
theorem dX12_toKeeper_24 : decode cX12_toKeeper 24 = .ok (.tableswitch 77 0 2 #[28, 36, 58], 28) := by decide +kernel
theorem dX12_toKeeper_52 : decode cX12_toKeeper 52 = .ok (.aload_n 0, 1) := by decide +kernel
theorem dX12_toKeeper_53 : decode cX12_toKeeper 53 = .ok (.iload_n 1, 1) := by decide +kernel
theorem dX12_toKeeper_54 : decode cX12_toKeeper 54 = .ok (.invokevirtual 288, 3) := by decide +kernel
theorem dX12_toKeeper_57 : decode cX12_toKeeper 57 = .ok (.goto 49, 3) := by decide +kernel
theorem dX12_toKeeper_60 : decode cX12_toKeeper 60 = .ok (.iload_n 3, 1) := by decide +kernel
theorem dX12_toKeeper_61 : decode cX12_toKeeper 61 = .ok (.iconst (-1), 1) := by decide +kernel
theorem dX12_toKeeper_62 : decode cX12_toKeeper 62 = .ok (.if_icmp .ne 11, 3) := by decide +kernel
theorem dX12_toKeeper_65 : decode cX12_toKeeper 65 = .ok (.aload_n 0, 1) := by decide +kernel
theorem dX12_toKeeper_66 : decode cX12_toKeeper 66 = .ok (.iload_n 1, 1) := by decide +kernel
theorem dX12_toKeeper_67 : decode cX12_toKeeper 67 = .ok (.invokevirtual 279, 3) := by decide +kernel
theorem dX12_toKeeper_70 : decode cX12_toKeeper 70 = .ok (.goto 36, 3) := by decide +kernel
theorem dX12_toKeeper_73 : decode cX12_toKeeper 73 = .ok (.aload_n 0, 1) := by decide +kernel
theorem dX12_toKeeper_74 : decode cX12_toKeeper 74 = .ok (.iload_n 1, 1) := by decide +kernel
theorem dX12_toKeeper_75 : decode cX12_toKeeper 75 = .ok (.iload_n 3, 1) := by decide +kernel
theorem dX12_toKeeper_76 : decode cX12_toKeeper 76 = .ok (.invokevirtual 282, 3) := by decide +kernel
theorem dX12_toKeeper_79 : decode cX12_toKeeper 79 = .ok (.goto 27, 3) := by decide +kernel
theorem dX12_toKeeper_82 : decode cX12_toKeeper 82 = .ok (.iload_n 3, 1) := by decide +kernel
theorem dX12_toKeeper_83 : decode cX12_toKeeper 83 = .ok (.iconst (-1), 1) := by decide +kernel
theorem dX12_toKeeper_84 : decode cX12_toKeeper 84 = .ok (.if_icmp .eq 22, 3) := by decide +kernel
theorem dX12_toKeeper_87 : decode cX12_toKeeper 87 = .ok (.aload_n 0, 1) := by decide +kernel
theorem dX12_toKeeper_88 : decode cX12_toKeeper 88 = .ok (.iload_n 2, 1) := by decide +kernel
theorem dX12_toKeeper_89 : decode cX12_toKeeper 89 = .ok (.iload_n 3, 1) := by decide +kernel
theorem dX12_toKeeper_90 : decode cX12_toKeeper 90 = .ok (.invokevirtual 231, 3) := by decide +kernel
theorem dX12_toKeeper_93 : decode cX12_toKeeper 93 = .ok (.aload_n 0, 1) := by decide +kernel
theorem dX12_toKeeper_94 : decode cX12_toKeeper 94 = .ok (.iload_n 2, 1) := by decide +kernel
theorem dX12_toKeeper_95 : decode cX12_toKeeper 95 = .ok (.invokevirtual 285, 3) := by decide +kernel
theorem dX12_toKeeper_98 : decode cX12_toKeeper 98 = .ok (.goto 8, 3) := by decide +kernel
theorem dX12_toKeeper_101 : decode cX12_toKeeper 101 = .ok (.aload_n 0, 1) := by decide +kernel
theorem dX12_toKeeper_102 : decode cX12_toKeeper 102 = .ok (.iload_n 1, 1) := by decide +kernel
theorem dX12_toKeeper_103 : decode cX12_toKeeper 103 = .ok (.invokevirtual 291, 3) := by decide +kernel
theorem dX12_toKeeper_106 : decode cX12_toKeeper 106 = .ok (.return_, 1) := by decide +kernel
theorem dX12_toWorker_0 : decode cX12_toWorker 0 = .ok (.aload_n 0, 1) := by decide +kernel
theorem dX12_toWorker_1 : decode cX12_toWorker 1 = .ok (.getfield 103, 3) := by decide +kernel
theorem dX12_toWorker_4 : decode cX12_toWorker 4 = .ok (.iload_n 1, 1) := by decide +kernel
theorem dX12_toWorker_5 : decode cX12_toWorker 5 = .ok (.iaload, 1) := by decide +kernel
theorem dX12_toWorker_6 : decode cX12_toWorker 6 = .ok (.istore_n 2, 1) := by decide +kernel
theorem dX12_toWorker_7 : decode cX12_toWorker 7 = .ok (.bipush 20, 2) := by decide +kernel
theorem dX12_toWorker_9 : decode cX12_toWorker 9 = .ok (.iload_n 2, 1) := by decide +kernel
theorem dX12_toWorker_10 : decode cX12_toWorker 10 = .ok (.imul, 1) := by decide +kernel
theorem dX12_toWorker_11 : decode cX12_toWorker 11 = .ok (.aload_n 0, 1) := by decide +kernel
theorem dX12_toWorker_12 : decode cX12_toWorker 12 = .ok (.getfield 109, 3) := by decide +kernel
theorem dX12_toWorker_15 : decode cX12_toWorker 15 = .ok (.iload_n 1, 1) := by decide +kernel
theorem dX12_toWorker_16 : decode cX12_toWorker 16 = .ok (.iaload, 1) := by decide +kernel
theorem dX12_toWorker_17 : decode cX12_toWorker 17 = .ok (.iadd, 1) := by decide +kernel
theorem dX12_toWorker_18 : decode cX12_toWorker 18 = .ok (.istore_n 3, 1) := by decide +kernel
theorem dX12_toWorker_19 : decode cX12_toWorker 19 = .ok (.aload_n 0, 1) := by decide +kernel
theorem dX12_toWorker_20 : decode cX12_toWorker 20 = .ok (.getfield 91, 3) := by decide +kernel
theorem dX12_toWorker_23 : decode cX12_toWorker 23 = .ok (.iload_n 3, 1) := by decide +kernel
theorem dX12_toWorker_24 : decode cX12_toWorker 24 = .ok (.iaload, 1) := by decide +kernel
theorem dX12_toWorker_25 : decode cX12_toWorker 25 = .ok (.ifCond .eq 22, 3) := by decide +kernel
theorem dX12_toWorker_28 : decode cX12_toWorker 28 = .ok (.aload_n 0, 1) := by decide +kernel
theorem dX12_toWorker_29 : decode cX12_toWorker 29 = .ok (.getfield 91, 3) := by decide +kernel
theorem dX12_toWorker_32 : decode cX12_toWorker 32 = .ok (.iload_n 3, 1) := by decide +kernel
theorem dX12_toWorker_33 : decode cX12_toWorker 33 = .ok (.iaload, 1) := by decide +kernel
theorem dX12_toWorker_34 : decode cX12_toWorker 34 = .ok (.aload_n 0, 1) := by decide +kernel
theorem dX12_toWorker_35 : decode cX12_toWorker 35 = .ok (.getfield 121, 3) := by decide +kernel
theorem dX12_toWorker_38 : decode cX12_toWorker 38 = .ok (.iload_n 1, 1) := by decide +kernel
theorem dX12_toWorker_39 : decode cX12_toWorker 39 = .ok (.iaload, 1) := by decide +kernel
theorem dX12_toWorker_40 : decode cX12_toWorker 40 = .ok (.if_icmp .ne 7, 3) := by decide +kernel
theorem dX12_toWorker_43 : decode cX12_toWorker 43 = .ok (.iconst 1, 1) := by decide +kernel
theorem dX12_toWorker_44 : decode cX12_toWorker 44 = .ok (.goto 4, 3) := by decide +kernel
theorem dX12_toWorker_47 : decode cX12_toWorker 47 = .ok (.iconst 0, 1) := by decide +kernel
theorem dX12_toWorker_48 : decode cX12_toWorker 48 = .ok (.istore 4, 2) := by decide +kernel
theorem dX12_toWorker_50 : decode cX12_toWorker 50 = .ok (.aload_n 0, 1) := by decide +kernel
theorem dX12_toWorker_51 : decode cX12_toWorker 51 = .ok (.getfield 100, 3) := by decide +kernel
theorem dX12_toWorker_54 : decode cX12_toWorker 54 = .ok (.iload_n 1, 1) := by decide +kernel
theorem dX12_toWorker_55 : decode cX12_toWorker 55 = .ok (.iaload, 1) := by decide +kernel
theorem dX12_toWorker_56 : decode cX12_toWorker 56 = .ok (.tableswitch 193 4 7 #[32, 130, 193, 154], 32) := by decide +kernel
theorem dX12_toWorker_88 : decode cX12_toWorker 88 = .ok (.iload 4, 2) := by decide +kernel
theorem dX12_toWorker_90 : decode cX12_toWorker 90 = .ok (.ifCond .eq 169, 3) := by decide +kernel
theorem dX12_toWorker_93 : decode cX12_toWorker 93 = .ok (.aload_n 0, 1) := by decide +kernel
theorem dX12_toWorker_94 : decode cX12_toWorker 94 = .ok (.getfield 91, 3) := by decide +kernel
theorem dX12_toWorker_97 : decode cX12_toWorker 97 = .ok (.iload_n 3, 1) := by decide +kernel
theorem dX12_toWorker_98 : decode cX12_toWorker 98 = .ok (.iconst 0, 1) := by decide +kernel
theorem dX12_toWorker_99 : decode cX12_toWorker 99 = .ok (.iastore, 1) := by decide +kernel
theorem dX12_toWorker_100 : decode cX12_toWorker 100 = .ok (.aload_n 0, 1) := by decide +kernel
theorem dX12_toWorker_101 : decode cX12_toWorker 101 = .ok (.getfield 127, 3) := by decide +kernel
theorem dX12_toWorker_104 : decode cX12_toWorker 104 = .ok (.iload_n 1, 1) := by decide +kernel
theorem dX12_toWorker_105 : decode cX12_toWorker 105 = .ok (.laload, 1) := by decide +kernel
theorem dX12_toWorker_106 : decode cX12_toWorker 106 = .ok (.aload_n 0, 1) := by decide +kernel
theorem dX12_toWorker_107 : decode cX12_toWorker 107 = .ok (.getfield 35, 3) := by decide +kernel
theorem dX12_toWorker_110 : decode cX12_toWorker 110 = .ok (.aload_n 0, 1) := by decide +kernel
theorem dX12_toWorker_111 : decode cX12_toWorker 111 = .ok (.getfield 109, 3) := by decide +kernel
theorem dX12_toWorker_114 : decode cX12_toWorker 114 = .ok (.iload_n 1, 1) := by decide +kernel
theorem dX12_toWorker_115 : decode cX12_toWorker 115 = .ok (.iaload, 1) := by decide +kernel
theorem dX12_toWorker_116 : decode cX12_toWorker 116 = .ok (.iaload, 1) := by decide +kernel
theorem dX12_toWorker_117 : decode cX12_toWorker 117 = .ok (.i2l, 1) := by decide +kernel
theorem dX12_toWorker_118 : decode cX12_toWorker 118 = .ok (.ladd, 1) := by decide +kernel
theorem dX12_toWorker_119 : decode cX12_toWorker 119 = .ok (.lstore 5, 2) := by decide +kernel
theorem dX12_toWorker_121 : decode cX12_toWorker 121 = .ok (.lload 5, 2) := by decide +kernel
theorem dX12_toWorker_123 : decode cX12_toWorker 123 = .ok (.aload_n 0, 1) := by decide +kernel
theorem dX12_toWorker_124 : decode cX12_toWorker 124 = .ok (.iload_n 2, 1) := by decide +kernel
theorem dX12_toWorker_125 : decode cX12_toWorker 125 = .ok (.invokevirtual 194, 3) := by decide +kernel
theorem dX12_toWorker_128 : decode cX12_toWorker 128 = .ok (.lcmp, 1) := by decide +kernel
theorem dX12_toWorker_129 : decode cX12_toWorker 129 = .ok (.ifCond .le 54, 3) := by decide +kernel
theorem dX12_toWorker_132 : decode cX12_toWorker 132 = .ok (.aload_n 0, 1) := by decide +kernel
theorem dX12_toWorker_133 : decode cX12_toWorker 133 = .ok (.getfield 82, 3) := by decide +kernel
theorem dX12_toWorker_136 : decode cX12_toWorker 136 = .ok (.iload_n 3, 1) := by decide +kernel
theorem dX12_toWorker_137 : decode cX12_toWorker 137 = .ok (.iconst 1, 1) := by decide +kernel
theorem dX12_toWorker_138 : decode cX12_toWorker 138 = .ok (.bastore, 1) := by decide +kernel
theorem dX12_toWorker_139 : decode cX12_toWorker 139 = .ok (.aload_n 0, 1) := by decide +kernel
theorem dX12_toWorker_140 : decode cX12_toWorker 140 = .ok (.getfield 85, 3) := by decide +kernel
theorem dX12_toWorker_143 : decode cX12_toWorker 143 = .ok (.iload_n 3, 1) := by decide +kernel
theorem dX12_toWorker_144 : decode cX12_toWorker 144 = .ok (.aload_n 0, 1) := by decide +kernel
theorem dX12_toWorker_145 : decode cX12_toWorker 145 = .ok (.getfield 112, 3) := by decide +kernel
theorem dX12_toWorker_148 : decode cX12_toWorker 148 = .ok (.iload_n 1, 1) := by decide +kernel
theorem dX12_toWorker_149 : decode cX12_toWorker 149 = .ok (.iaload, 1) := by decide +kernel
theorem dX12_toWorker_150 : decode cX12_toWorker 150 = .ok (.iastore, 1) := by decide +kernel
theorem dX12_toWorker_151 : decode cX12_toWorker 151 = .ok (.aload_n 0, 1) := by decide +kernel
theorem dX12_toWorker_152 : decode cX12_toWorker 152 = .ok (.getfield 88, 3) := by decide +kernel
theorem dX12_toWorker_155 : decode cX12_toWorker 155 = .ok (.iload_n 3, 1) := by decide +kernel
theorem dX12_toWorker_156 : decode cX12_toWorker 156 = .ok (.aload_n 0, 1) := by decide +kernel
theorem dX12_toWorker_157 : decode cX12_toWorker 157 = .ok (.getfield 115, 3) := by decide +kernel
theorem dX12_toWorker_160 : decode cX12_toWorker 160 = .ok (.iload_n 1, 1) := by decide +kernel
theorem dX12_toWorker_161 : decode cX12_toWorker 161 = .ok (.iaload, 1) := by decide +kernel
theorem dX12_toWorker_162 : decode cX12_toWorker 162 = .ok (.iastore, 1) := by decide +kernel
theorem dX12_toWorker_163 : decode cX12_toWorker 163 = .ok (.aload_n 0, 1) := by decide +kernel
theorem dX12_toWorker_164 : decode cX12_toWorker 164 = .ok (.getfield 94, 3) := by decide +kernel
theorem dX12_toWorker_167 : decode cX12_toWorker 167 = .ok (.iload_n 3, 1) := by decide +kernel
theorem dX12_toWorker_168 : decode cX12_toWorker 168 = .ok (.aload_n 0, 1) := by decide +kernel
theorem dX12_toWorker_169 : decode cX12_toWorker 169 = .ok (.getfield 124, 3) := by decide +kernel
theorem dX12_toWorker_172 : decode cX12_toWorker 172 = .ok (.iload_n 1, 1) := by decide +kernel
theorem dX12_toWorker_173 : decode cX12_toWorker 173 = .ok (.laload, 1) := by decide +kernel
theorem dX12_toWorker_174 : decode cX12_toWorker 174 = .ok (.lastore, 1) := by decide +kernel
theorem dX12_toWorker_175 : decode cX12_toWorker 175 = .ok (.aload_n 0, 1) := by decide +kernel
theorem dX12_toWorker_176 : decode cX12_toWorker 176 = .ok (.getfield 97, 3) := by decide +kernel
theorem dX12_toWorker_179 : decode cX12_toWorker 179 = .ok (.iload_n 3, 1) := by decide +kernel
theorem dX12_toWorker_180 : decode cX12_toWorker 180 = .ok (.lload 5, 2) := by decide +kernel
theorem dX12_toWorker_182 : decode cX12_toWorker 182 = .ok (.lastore, 1) := by decide +kernel
theorem dX12_toWorker_183 : decode cX12_toWorker 183 = .ok (.goto 76, 3) := by decide +kernel
theorem dX12_toWorker_186 : decode cX12_toWorker 186 = .ok (.aload_n 0, 1) := by decide +kernel
theorem dX12_toWorker_187 : decode cX12_toWorker 187 = .ok (.getfield 91, 3) := by decide +kernel
theorem dX12_toWorker_190 : decode cX12_toWorker 190 = .ok (.iload_n 3, 1) := by decide +kernel
theorem dX12_toWorker_191 : decode cX12_toWorker 191 = .ok (.iload 4, 2) := by decide +kernel
theorem dX12_toWorker_193 : decode cX12_toWorker 193 = .ok (.ifCond .eq 7, 3) := by decide +kernel
theorem dX12_toWorker_196 : decode cX12_toWorker 196 = .ok (.iconst 0, 1) := by decide +kernel
theorem dX12_toWorker_197 : decode cX12_toWorker 197 = .ok (.goto 9, 3) := by decide +kernel
theorem dX12_toWorker_200 : decode cX12_toWorker 200 = .ok (.aload_n 0, 1) := by decide +kernel
theorem dX12_toWorker_201 : decode cX12_toWorker 201 = .ok (.getfield 91, 3) := by decide +kernel
theorem dX12_toWorker_204 : decode cX12_toWorker 204 = .ok (.iload_n 3, 1) := by decide +kernel
theorem dX12_toWorker_205 : decode cX12_toWorker 205 = .ok (.iaload, 1) := by decide +kernel
theorem dX12_toWorker_206 : decode cX12_toWorker 206 = .ok (.iastore, 1) := by decide +kernel
theorem dX12_toWorker_207 : decode cX12_toWorker 207 = .ok (.goto 52, 3) := by decide +kernel
theorem dX12_toWorker_210 : decode cX12_toWorker 210 = .ok (.aload_n 0, 1) := by decide +kernel
theorem dX12_toWorker_211 : decode cX12_toWorker 211 = .ok (.getfield 82, 3) := by decide +kernel
theorem dX12_toWorker_214 : decode cX12_toWorker 214 = .ok (.iload_n 3, 1) := by decide +kernel
theorem dX12_toWorker_215 : decode cX12_toWorker 215 = .ok (.aload_n 0, 1) := by decide +kernel
theorem dX12_toWorker_216 : decode cX12_toWorker 216 = .ok (.getfield 82, 3) := by decide +kernel
theorem dX12_toWorker_219 : decode cX12_toWorker 219 = .ok (.iload_n 3, 1) := by decide +kernel
theorem dX12_toWorker_220 : decode cX12_toWorker 220 = .ok (.baload, 1) := by decide +kernel
theorem dX12_toWorker_221 : decode cX12_toWorker 221 = .ok (.ifCond .eq 23, 3) := by decide +kernel
theorem dX12_toWorker_224 : decode cX12_toWorker 224 = .ok (.aload_n 0, 1) := by decide +kernel
theorem dX12_toWorker_225 : decode cX12_toWorker 225 = .ok (.getfield 94, 3) := by decide +kernel
theorem dX12_toWorker_228 : decode cX12_toWorker 228 = .ok (.iload_n 3, 1) := by decide +kernel
theorem dX12_toWorker_229 : decode cX12_toWorker 229 = .ok (.laload, 1) := by decide +kernel
theorem dX12_toWorker_230 : decode cX12_toWorker 230 = .ok (.aload_n 0, 1) := by decide +kernel
theorem dX12_toWorker_231 : decode cX12_toWorker 231 = .ok (.getfield 124, 3) := by decide +kernel
theorem dX12_toWorker_234 : decode cX12_toWorker 234 = .ok (.iload_n 1, 1) := by decide +kernel
theorem dX12_toWorker_235 : decode cX12_toWorker 235 = .ok (.laload, 1) := by decide +kernel
theorem dX12_toWorker_236 : decode cX12_toWorker 236 = .ok (.lcmp, 1) := by decide +kernel
theorem dX12_toWorker_237 : decode cX12_toWorker 237 = .ok (.ifCond .eq 7, 3) := by decide +kernel
theorem dX12_toWorker_240 : decode cX12_toWorker 240 = .ok (.iconst 1, 1) := by decide +kernel
theorem dX12_toWorker_241 : decode cX12_toWorker 241 = .ok (.goto 4, 3) := by decide +kernel
theorem dX12_toWorker_244 : decode cX12_toWorker 244 = .ok (.iconst 0, 1) := by decide +kernel
theorem dX12_toWorker_245 : decode cX12_toWorker 245 = .ok (.bastore, 1) := by decide +kernel
theorem dX12_toWorker_246 : decode cX12_toWorker 246 = .ok (.goto 13, 3) := by decide +kernel
theorem dX12_toWorker_249 : decode cX12_toWorker 249 = .ok (.aload_n 0, 1) := by decide +kernel
theorem dX12_toWorker_250 : decode cX12_toWorker 250 = .ok (.dup, 1) := by decide +kernel
theorem dX12_toWorker_251 : decode cX12_toWorker 251 = .ok (.getfield 294, 3) := by decide +kernel
theorem dX12_toWorker_254 : decode cX12_toWorker 254 = .ok (.iconst 1, 1) := by decide +kernel
theorem dX12_toWorker_255 : decode cX12_toWorker 255 = .ok (.iadd, 1) := by decide +kernel
theorem dX12_toWorker_256 : decode cX12_toWorker 256 = .ok (.putfield 294, 3) := by decide +kernel
theorem dX12_toWorker_259 : decode cX12_toWorker 259 = .ok (.return_, 1) := by decide +kernel
theorem dX12_deliver_0 : decode cX12_deliver 0 = .ok (.aload_n 0, 1) := by decide +kernel
theorem dX12_deliver_1 : decode cX12_deliver 1 = .ok (.iload_n 1, 1) := by decide +kernel
theorem dX12_deliver_2 : decode cX12_deliver 2 = .ok (.invokevirtual 228, 3) := by decide +kernel
theorem dX12_deliver_5 : decode cX12_deliver 5 = .ok (.ifCond .ne 6, 3) := by decide +kernel
theorem dX12_deliver_8 : decode cX12_deliver 8 = .ok (.bipush (-2), 2) := by decide +kernel
theorem dX12_deliver_10 : decode cX12_deliver 10 = .ok (.ireturn, 1) := by decide +kernel
theorem dX12_deliver_11 : decode cX12_deliver 11 = .ok (.aload_n 0, 1) := by decide +kernel
theorem dX12_deliver_12 : decode cX12_deliver 12 = .ok (.getfield 118, 3) := by decide +kernel
theorem dX12_deliver_15 : decode cX12_deliver 15 = .ok (.iload_n 1, 1) := by decide +kernel
theorem dX12_deliver_16 : decode cX12_deliver 16 = .ok (.iaload, 1) := by decide +kernel
theorem dX12_deliver_17 : decode cX12_deliver 17 = .ok (.ifCond .eq 6, 3) := by decide +kernel
theorem dX12_deliver_20 : decode cX12_deliver 20 = .ok (.bipush (-3), 2) := by decide +kernel
theorem dX12_deliver_22 : decode cX12_deliver 22 = .ok (.ireturn, 1) := by decide +kernel
theorem dX12_deliver_23 : decode cX12_deliver 23 = .ok (.aload_n 0, 1) := by decide +kernel
theorem dX12_deliver_24 : decode cX12_deliver 24 = .ok (.getfield 178, 3) := by decide +kernel
theorem dX12_deliver_27 : decode cX12_deliver 27 = .ok (.iconst 3, 1) := by decide +kernel
theorem dX12_deliver_28 : decode cX12_deliver 28 = .ok (.iadd, 1) := by decide +kernel
theorem dX12_deliver_29 : decode cX12_deliver 29 = .ok (.sipush 400, 3) := by decide +kernel
theorem dX12_deliver_32 : decode cX12_deliver 32 = .ok (.if_icmp .le 6, 3) := by decide +kernel
theorem dX12_deliver_35 : decode cX12_deliver 35 = .ok (.bipush (-4), 2) := by decide +kernel
theorem dX12_deliver_37 : decode cX12_deliver 37 = .ok (.ireturn, 1) := by decide +kernel
theorem dX12_deliver_38 : decode cX12_deliver 38 = .ok (.aload_n 0, 1) := by decide +kernel
theorem dX12_deliver_39 : decode cX12_deliver 39 = .ok (.getfield 118, 3) := by decide +kernel
theorem dX12_deliver_42 : decode cX12_deliver 42 = .ok (.iload_n 1, 1) := by decide +kernel
theorem dX12_deliver_43 : decode cX12_deliver 43 = .ok (.iconst 1, 1) := by decide +kernel
theorem dX12_deliver_44 : decode cX12_deliver 44 = .ok (.iastore, 1) := by decide +kernel
theorem dX12_deliver_45 : decode cX12_deliver 45 = .ok (.aload_n 0, 1) := by decide +kernel
theorem dX12_deliver_46 : decode cX12_deliver 46 = .ok (.getfield 100, 3) := by decide +kernel
theorem dX12_deliver_49 : decode cX12_deliver 49 = .ok (.iload_n 1, 1) := by decide +kernel
theorem dX12_deliver_50 : decode cX12_deliver 50 = .ok (.iaload, 1) := by decide +kernel
theorem dX12_deliver_51 : decode cX12_deliver 51 = .ok (.iconst 4, 1) := by decide +kernel
theorem dX12_deliver_52 : decode cX12_deliver 52 = .ok (.if_icmp .lt 26, 3) := by decide +kernel
theorem dX12_deliver_55 : decode cX12_deliver 55 = .ok (.aload_n 0, 1) := by decide +kernel
theorem dX12_deliver_56 : decode cX12_deliver 56 = .ok (.getfield 29, 3) := by decide +kernel
theorem dX12_deliver_59 : decode cX12_deliver 59 = .ok (.aload_n 0, 1) := by decide +kernel
theorem dX12_deliver_60 : decode cX12_deliver 60 = .ok (.getfield 103, 3) := by decide +kernel
theorem dX12_deliver_63 : decode cX12_deliver 63 = .ok (.iload_n 1, 1) := by decide +kernel
theorem dX12_deliver_64 : decode cX12_deliver 64 = .ok (.iaload, 1) := by decide +kernel
theorem dX12_deliver_65 : decode cX12_deliver 65 = .ok (.baload, 1) := by decide +kernel
theorem dX12_deliver_66 : decode cX12_deliver 66 = .ok (.ifCond .ne 5, 3) := by decide +kernel
theorem dX12_deliver_69 : decode cX12_deliver 69 = .ok (.iconst 0, 1) := by decide +kernel
theorem dX12_deliver_70 : decode cX12_deliver 70 = .ok (.ireturn, 1) := by decide +kernel
theorem dX12_deliver_71 : decode cX12_deliver 71 = .ok (.aload_n 0, 1) := by decide +kernel
theorem dX12_deliver_72 : decode cX12_deliver 72 = .ok (.iload_n 1, 1) := by decide +kernel
theorem dX12_deliver_73 : decode cX12_deliver 73 = .ok (.invokevirtual 297, 3) := by decide +kernel
theorem dX12_deliver_76 : decode cX12_deliver 76 = .ok (.iconst 1, 1) := by decide +kernel
theorem dX12_deliver_77 : decode cX12_deliver 77 = .ok (.ireturn, 1) := by decide +kernel
theorem dX12_deliver_78 : decode cX12_deliver 78 = .ok (.aload_n 0, 1) := by decide +kernel
theorem dX12_deliver_79 : decode cX12_deliver 79 = .ok (.getfield 106, 3) := by decide +kernel
theorem dX12_deliver_82 : decode cX12_deliver 82 = .ok (.iload_n 1, 1) := by decide +kernel
theorem dX12_deliver_83 : decode cX12_deliver 83 = .ok (.iaload, 1) := by decide +kernel
theorem dX12_deliver_84 : decode cX12_deliver 84 = .ok (.istore_n 2, 1) := by decide +kernel
theorem dX12_deliver_85 : decode cX12_deliver 85 = .ok (.aload_n 0, 1) := by decide +kernel
theorem dX12_deliver_86 : decode cX12_deliver 86 = .ok (.getfield 78, 3) := by decide +kernel
theorem dX12_deliver_89 : decode cX12_deliver 89 = .ok (.iload_n 2, 1) := by decide +kernel
theorem dX12_deliver_90 : decode cX12_deliver 90 = .ok (.if_icmp .ne 19, 3) := by decide +kernel
theorem dX12_deliver_93 : decode cX12_deliver 93 = .ok (.aload_n 0, 1) := by decide +kernel
theorem dX12_deliver_94 : decode cX12_deliver 94 = .ok (.getfield 16, 3) := by decide +kernel
theorem dX12_deliver_97 : decode cX12_deliver 97 = .ok (.iload_n 2, 1) := by decide +kernel
theorem dX12_deliver_98 : decode cX12_deliver 98 = .ok (.baload, 1) := by decide +kernel
theorem dX12_deliver_99 : decode cX12_deliver 99 = .ok (.ifCond .eq 10, 3) := by decide +kernel
theorem dX12_deliver_102 : decode cX12_deliver 102 = .ok (.aload_n 0, 1) := by decide +kernel
theorem dX12_deliver_103 : decode cX12_deliver 103 = .ok (.invokevirtual 203, 3) := by decide +kernel
theorem dX12_deliver_106 : decode cX12_deliver 106 = .ok (.ifCond .ne 5, 3) := by decide +kernel
theorem dX12_deliver_109 : decode cX12_deliver 109 = .ok (.iconst 0, 1) := by decide +kernel
theorem dX12_deliver_110 : decode cX12_deliver 110 = .ok (.ireturn, 1) := by decide +kernel
theorem dX12_deliver_111 : decode cX12_deliver 111 = .ok (.aload_n 0, 1) := by decide +kernel
theorem dX12_deliver_112 : decode cX12_deliver 112 = .ok (.iload_n 1, 1) := by decide +kernel
theorem dX12_deliver_113 : decode cX12_deliver 113 = .ok (.invokevirtual 300, 3) := by decide +kernel
theorem dX12_deliver_116 : decode cX12_deliver 116 = .ok (.iconst 1, 1) := by decide +kernel
theorem dX12_deliver_117 : decode cX12_deliver 117 = .ok (.ireturn, 1) := by decide +kernel
theorem dX12_look_0 : decode cX12_look 0 = .ok (.aload_n 0, 1) := by decide +kernel
theorem dX12_look_1 : decode cX12_look 1 = .ok (.iload_n 1, 1) := by decide +kernel
theorem dX12_look_2 : decode cX12_look 2 = .ok (.invokevirtual 214, 3) := by decide +kernel
theorem dX12_look_5 : decode cX12_look 5 = .ok (.ifCond .ne 6, 3) := by decide +kernel
theorem dX12_look_8 : decode cX12_look 8 = .ok (.bipush (-2), 2) := by decide +kernel
theorem dX12_look_10 : decode cX12_look 10 = .ok (.ireturn, 1) := by decide +kernel
theorem dX12_look_11 : decode cX12_look 11 = .ok (.aload_n 0, 1) := by decide +kernel
theorem dX12_look_12 : decode cX12_look 12 = .ok (.getfield 78, 3) := by decide +kernel
theorem dX12_look_15 : decode cX12_look 15 = .ok (.iconst (-1), 1) := by decide +kernel
theorem dX12_look_16 : decode cX12_look 16 = .ok (.if_icmp .eq 10, 3) := by decide +kernel
theorem dX12_look_19 : decode cX12_look 19 = .ok (.aload_n 0, 1) := by decide +kernel
theorem dX12_look_20 : decode cX12_look 20 = .ok (.invokevirtual 203, 3) := by decide +kernel
theorem dX12_look_23 : decode cX12_look 23 = .ok (.ifCond .ne 6, 3) := by decide +kernel
theorem dX12_look_26 : decode cX12_look 26 = .ok (.bipush (-3), 2) := by decide +kernel
theorem dX12_look_28 : decode cX12_look 28 = .ok (.ireturn, 1) := by decide +kernel
theorem dX12_look_29 : decode cX12_look 29 = .ok (.aload_n 0, 1) := by decide +kernel
theorem dX12_look_30 : decode cX12_look 30 = .ok (.getfield 178, 3) := by decide +kernel
theorem dX12_look_33 : decode cX12_look 33 = .ok (.sipush 400, 3) := by decide +kernel
theorem dX12_look_36 : decode cX12_look 36 = .ok (.if_icmp .ne 6, 3) := by decide +kernel
theorem dX12_look_39 : decode cX12_look 39 = .ok (.bipush (-4), 2) := by decide +kernel
theorem dX12_look_41 : decode cX12_look 41 = .ok (.ireturn, 1) := by decide +kernel
theorem dX12_look_42 : decode cX12_look 42 = .ok (.aload_n 0, 1) := by decide +kernel
theorem dX12_look_43 : decode cX12_look 43 = .ok (.iload_n 1, 1) := by decide +kernel
theorem dX12_look_44 : decode cX12_look 44 = .ok (.invokevirtual 285, 3) := by decide +kernel
theorem dX12_look_47 : decode cX12_look 47 = .ok (.aload_n 0, 1) := by decide +kernel
theorem dX12_look_48 : decode cX12_look 48 = .ok (.getfield 60, 3) := by decide +kernel
theorem dX12_look_51 : decode cX12_look 51 = .ok (.iload_n 1, 1) := by decide +kernel
theorem dX12_look_52 : decode cX12_look 52 = .ok (.iaload, 1) := by decide +kernel
theorem dX12_look_53 : decode cX12_look 53 = .ok (.ireturn, 1) := by decide +kernel
theorem dX12_grant_0 : decode cX12_grant 0 = .ok (.aload_n 0, 1) := by decide +kernel
theorem dX12_grant_1 : decode cX12_grant 1 = .ok (.iload_n 1, 1) := by decide +kernel
theorem dX12_grant_2 : decode cX12_grant 2 = .ok (.invokevirtual 214, 3) := by decide +kernel
theorem dX12_grant_5 : decode cX12_grant 5 = .ok (.ifCond .eq 12, 3) := by decide +kernel
theorem dX12_grant_8 : decode cX12_grant 8 = .ok (.iload_n 3, 1) := by decide +kernel
theorem dX12_grant_9 : decode cX12_grant 9 = .ok (.iconst 0, 1) := by decide +kernel
theorem dX12_grant_10 : decode cX12_grant 10 = .ok (.iconst 2, 1) := by decide +kernel
theorem dX12_grant_11 : decode cX12_grant 11 = .ok (.invokestatic 153, 3) := by decide +kernel
theorem dX12_grant_14 : decode cX12_grant 14 = .ok (.ifCond .ne 6, 3) := by decide +kernel
theorem dX12_grant_17 : decode cX12_grant 17 = .ok (.bipush (-2), 2) := by decide +kernel
theorem dX12_grant_19 : decode cX12_grant 19 = .ok (.ireturn, 1) := by decide +kernel
theorem dX12_grant_20 : decode cX12_grant 20 = .ok (.iload_n 2, 1) := by decide +kernel
theorem dX12_grant_21 : decode cX12_grant 21 = .ok (.iconst 0, 1) := by decide +kernel
theorem dX12_grant_22 : decode cX12_grant 22 = .ok (.aload_n 0, 1) := by decide +kernel
theorem dX12_grant_23 : decode cX12_grant 23 = .ok (.getfield 60, 3) := by decide +kernel
theorem dX12_grant_26 : decode cX12_grant 26 = .ok (.iload_n 1, 1) := by decide +kernel
theorem dX12_grant_27 : decode cX12_grant 27 = .ok (.iaload, 1) := by decide +kernel
theorem dX12_grant_28 : decode cX12_grant 28 = .ok (.iconst 1, 1) := by decide +kernel
theorem dX12_grant_29 : decode cX12_grant 29 = .ok (.isub, 1) := by decide +kernel
theorem dX12_grant_30 : decode cX12_grant 30 = .ok (.invokestatic 153, 3) := by decide +kernel
theorem dX12_grant_33 : decode cX12_grant 33 = .ok (.ifCond .ne 5, 3) := by decide +kernel
theorem dX12_grant_36 : decode cX12_grant 36 = .ok (.iconst (-1), 1) := by decide +kernel
theorem dX12_grant_37 : decode cX12_grant 37 = .ok (.ireturn, 1) := by decide +kernel
theorem dX12_grant_38 : decode cX12_grant 38 = .ok (.bipush 20, 2) := by decide +kernel
theorem dX12_grant_40 : decode cX12_grant 40 = .ok (.iload_n 1, 1) := by decide +kernel
theorem dX12_grant_41 : decode cX12_grant 41 = .ok (.imul, 1) := by decide +kernel
theorem dX12_grant_42 : decode cX12_grant 42 = .ok (.iload_n 2, 1) := by decide +kernel
theorem dX12_grant_43 : decode cX12_grant 43 = .ok (.iadd, 1) := by decide +kernel
theorem dX12_grant_44 : decode cX12_grant 44 = .ok (.istore 4, 2) := by decide +kernel
theorem dX12_grant_46 : decode cX12_grant 46 = .ok (.iload_n 3, 1) := by decide +kernel
theorem dX12_grant_47 : decode cX12_grant 47 = .ok (.ifCond .ne 13, 3) := by decide +kernel
theorem dX12_grant_50 : decode cX12_grant 50 = .ok (.aload_n 0, 1) := by decide +kernel
theorem dX12_grant_51 : decode cX12_grant 51 = .ok (.getfield 63, 3) := by decide +kernel
theorem dX12_grant_54 : decode cX12_grant 54 = .ok (.iload 4, 2) := by decide +kernel
theorem dX12_grant_56 : decode cX12_grant 56 = .ok (.iaload, 1) := by decide +kernel
theorem dX12_grant_57 : decode cX12_grant 57 = .ok (.goto 25, 3) := by decide +kernel
theorem dX12_grant_60 : decode cX12_grant 60 = .ok (.iload_n 3, 1) := by decide +kernel
theorem dX12_grant_61 : decode cX12_grant 61 = .ok (.iconst 1, 1) := by decide +kernel
theorem dX12_grant_62 : decode cX12_grant 62 = .ok (.if_icmp .ne 13, 3) := by decide +kernel
theorem dX12_grant_65 : decode cX12_grant 65 = .ok (.aload_n 0, 1) := by decide +kernel
theorem dX12_grant_66 : decode cX12_grant 66 = .ok (.getfield 66, 3) := by decide +kernel
theorem dX12_grant_69 : decode cX12_grant 69 = .ok (.iload 4, 2) := by decide +kernel
theorem dX12_grant_71 : decode cX12_grant 71 = .ok (.iaload, 1) := by decide +kernel
theorem dX12_grant_72 : decode cX12_grant 72 = .ok (.goto 10, 3) := by decide +kernel
theorem dX12_grant_75 : decode cX12_grant 75 = .ok (.aload_n 0, 1) := by decide +kernel
theorem dX12_grant_76 : decode cX12_grant 76 = .ok (.getfield 69, 3) := by decide +kernel
theorem dX12_grant_79 : decode cX12_grant 79 = .ok (.iload 4, 2) := by decide +kernel
theorem dX12_grant_81 : decode cX12_grant 81 = .ok (.iaload, 1) := by decide +kernel
theorem dX12_grant_82 : decode cX12_grant 82 = .ok (.ireturn, 1) := by decide +kernel
theorem dX12_ends_0 : decode cX12_ends 0 = .ok (.aload_n 0, 1) := by decide +kernel
theorem dX12_ends_1 : decode cX12_ends 1 = .ok (.iload_n 1, 1) := by decide +kernel
theorem dX12_ends_2 : decode cX12_ends 2 = .ok (.invokevirtual 214, 3) := by decide +kernel
theorem dX12_ends_5 : decode cX12_ends 5 = .ok (.ifCond .eq 28, 3) := by decide +kernel
theorem dX12_ends_8 : decode cX12_ends 8 = .ok (.iload_n 3, 1) := by decide +kernel
theorem dX12_ends_9 : decode cX12_ends 9 = .ok (.iconst 0, 1) := by decide +kernel
theorem dX12_ends_10 : decode cX12_ends 10 = .ok (.iconst 1, 1) := by decide +kernel
theorem dX12_ends_11 : decode cX12_ends 11 = .ok (.invokestatic 153, 3) := by decide +kernel
theorem dX12_ends_14 : decode cX12_ends 14 = .ok (.ifCond .eq 19, 3) := by decide +kernel
theorem dX12_ends_17 : decode cX12_ends 17 = .ok (.iload_n 2, 1) := by decide +kernel
theorem dX12_ends_18 : decode cX12_ends 18 = .ok (.iconst 0, 1) := by decide +kernel
theorem dX12_ends_19 : decode cX12_ends 19 = .ok (.aload_n 0, 1) := by decide +kernel
theorem dX12_ends_20 : decode cX12_ends 20 = .ok (.getfield 60, 3) := by decide +kernel
theorem dX12_ends_23 : decode cX12_ends 23 = .ok (.iload_n 1, 1) := by decide +kernel
theorem dX12_ends_24 : decode cX12_ends 24 = .ok (.iaload, 1) := by decide +kernel
theorem dX12_ends_25 : decode cX12_ends 25 = .ok (.iconst 1, 1) := by decide +kernel
theorem dX12_ends_26 : decode cX12_ends 26 = .ok (.isub, 1) := by decide +kernel
theorem dX12_ends_27 : decode cX12_ends 27 = .ok (.invokestatic 153, 3) := by decide +kernel
theorem dX12_ends_30 : decode cX12_ends 30 = .ok (.ifCond .ne 7, 3) := by decide +kernel
theorem dX12_ends_33 : decode cX12_ends 33 = .ok (.ldc2_w 197, 3) := by decide +kernel
theorem dX12_ends_36 : decode cX12_ends 36 = .ok (.lreturn, 1) := by decide +kernel
theorem dX12_ends_37 : decode cX12_ends 37 = .ok (.iload_n 3, 1) := by decide +kernel
theorem dX12_ends_38 : decode cX12_ends 38 = .ok (.ifCond .ne 17, 3) := by decide +kernel
theorem dX12_ends_41 : decode cX12_ends 41 = .ok (.aload_n 0, 1) := by decide +kernel
theorem dX12_ends_42 : decode cX12_ends 42 = .ok (.getfield 72, 3) := by decide +kernel
theorem dX12_ends_45 : decode cX12_ends 45 = .ok (.bipush 20, 2) := by decide +kernel
theorem dX12_ends_47 : decode cX12_ends 47 = .ok (.iload_n 1, 1) := by decide +kernel
theorem dX12_ends_48 : decode cX12_ends 48 = .ok (.imul, 1) := by decide +kernel
theorem dX12_ends_49 : decode cX12_ends 49 = .ok (.iload_n 2, 1) := by decide +kernel
theorem dX12_ends_50 : decode cX12_ends 50 = .ok (.iadd, 1) := by decide +kernel
theorem dX12_ends_51 : decode cX12_ends 51 = .ok (.laload, 1) := by decide +kernel
theorem dX12_ends_52 : decode cX12_ends 52 = .ok (.goto 14, 3) := by decide +kernel
theorem dX12_ends_55 : decode cX12_ends 55 = .ok (.aload_n 0, 1) := by decide +kernel
theorem dX12_ends_56 : decode cX12_ends 56 = .ok (.getfield 75, 3) := by decide +kernel
theorem dX12_ends_59 : decode cX12_ends 59 = .ok (.bipush 20, 2) := by decide +kernel
theorem dX12_ends_61 : decode cX12_ends 61 = .ok (.iload_n 1, 1) := by decide +kernel
theorem dX12_ends_62 : decode cX12_ends 62 = .ok (.imul, 1) := by decide +kernel
theorem dX12_ends_63 : decode cX12_ends 63 = .ok (.iload_n 2, 1) := by decide +kernel
theorem dX12_ends_64 : decode cX12_ends 64 = .ok (.iadd, 1) := by decide +kernel
theorem dX12_ends_65 : decode cX12_ends 65 = .ok (.laload, 1) := by decide +kernel
theorem dX12_ends_66 : decode cX12_ends 66 = .ok (.lreturn, 1) := by decide +kernel
theorem dX12_may_0 : decode cX12_may 0 = .ok (.aload_n 0, 1) := by decide +kernel
theorem dX12_may_1 : decode cX12_may 1 = .ok (.getfield 29, 3) := by decide +kernel
theorem dX12_may_4 : decode cX12_may 4 = .ok (.iload_n 1, 1) := by decide +kernel
theorem dX12_may_5 : decode cX12_may 5 = .ok (.baload, 1) := by decide +kernel
theorem dX12_may_6 : decode cX12_may 6 = .ok (.ifCond .eq 41, 3) := by decide +kernel
theorem dX12_may_9 : decode cX12_may 9 = .ok (.aload_n 0, 1) := by decide +kernel
theorem dX12_may_10 : decode cX12_may 10 = .ok (.getfield 82, 3) := by decide +kernel
theorem dX12_may_13 : decode cX12_may 13 = .ok (.bipush 20, 2) := by decide +kernel
theorem dX12_may_15 : decode cX12_may 15 = .ok (.iload_n 1, 1) := by decide +kernel
theorem dX12_may_16 : decode cX12_may 16 = .ok (.imul, 1) := by decide +kernel
theorem dX12_may_17 : decode cX12_may 17 = .ok (.iload_n 2, 1) := by decide +kernel
theorem dX12_may_18 : decode cX12_may 18 = .ok (.iadd, 1) := by decide +kernel
theorem dX12_may_19 : decode cX12_may 19 = .ok (.baload, 1) := by decide +kernel
theorem dX12_may_20 : decode cX12_may 20 = .ok (.ifCond .eq 27, 3) := by decide +kernel
theorem dX12_may_23 : decode cX12_may 23 = .ok (.aload_n 0, 1) := by decide +kernel
theorem dX12_may_24 : decode cX12_may 24 = .ok (.iload_n 1, 1) := by decide +kernel
theorem dX12_may_25 : decode cX12_may 25 = .ok (.invokevirtual 194, 3) := by decide +kernel
theorem dX12_may_28 : decode cX12_may 28 = .ok (.aload_n 0, 1) := by decide +kernel
theorem dX12_may_29 : decode cX12_may 29 = .ok (.getfield 97, 3) := by decide +kernel
theorem dX12_may_32 : decode cX12_may 32 = .ok (.bipush 20, 2) := by decide +kernel
theorem dX12_may_34 : decode cX12_may 34 = .ok (.iload_n 1, 1) := by decide +kernel
theorem dX12_may_35 : decode cX12_may 35 = .ok (.imul, 1) := by decide +kernel
theorem dX12_may_36 : decode cX12_may 36 = .ok (.iload_n 2, 1) := by decide +kernel
theorem dX12_may_37 : decode cX12_may 37 = .ok (.iadd, 1) := by decide +kernel
theorem dX12_may_38 : decode cX12_may 38 = .ok (.laload, 1) := by decide +kernel
theorem dX12_may_39 : decode cX12_may 39 = .ok (.lcmp, 1) := by decide +kernel
theorem dX12_may_40 : decode cX12_may 40 = .ok (.ifCond .ge 7, 3) := by decide +kernel
theorem dX12_may_43 : decode cX12_may 43 = .ok (.iconst 1, 1) := by decide +kernel
theorem dX12_may_44 : decode cX12_may 44 = .ok (.goto 4, 3) := by decide +kernel
theorem dX12_may_47 : decode cX12_may 47 = .ok (.iconst 0, 1) := by decide +kernel
theorem dX12_may_48 : decode cX12_may 48 = .ok (.ireturn, 1) := by decide +kernel
theorem dX12_mays_0 : decode cX12_mays 0 = .ok (.iconst 0, 1) := by decide +kernel
theorem dX12_mays_1 : decode cX12_mays 1 = .ok (.istore_n 2, 1) := by decide +kernel
theorem dX12_mays_2 : decode cX12_mays 2 = .ok (.iconst 0, 1) := by decide +kernel
theorem dX12_mays_3 : decode cX12_mays 3 = .ok (.istore_n 3, 1) := by decide +kernel
theorem dX12_mays_4 : decode cX12_mays 4 = .ok (.iload_n 3, 1) := by decide +kernel
theorem dX12_mays_5 : decode cX12_mays 5 = .ok (.aload_n 0, 1) := by decide +kernel
theorem dX12_mays_6 : decode cX12_mays 6 = .ok (.getfield 164, 3) := by decide +kernel
theorem dX12_mays_9 : decode cX12_mays 9 = .ok (.if_icmp .ge 26, 3) := by decide +kernel
theorem dX12_mays_12 : decode cX12_mays 12 = .ok (.iload_n 2, 1) := by decide +kernel
theorem dX12_mays_13 : decode cX12_mays 13 = .ok (.aload_n 0, 1) := by decide +kernel
theorem dX12_mays_14 : decode cX12_mays 14 = .ok (.iload_n 3, 1) := by decide +kernel
theorem dX12_mays_15 : decode cX12_mays 15 = .ok (.iload_n 1, 1) := by decide +kernel
theorem dX12_mays_16 : decode cX12_mays 16 = .ok (.invokevirtual 303, 3) := by decide +kernel
theorem dX12_mays_19 : decode cX12_mays 19 = .ok (.ifCond .eq 7, 3) := by decide +kernel
theorem dX12_mays_22 : decode cX12_mays 22 = .ok (.iconst 1, 1) := by decide +kernel
theorem dX12_mays_23 : decode cX12_mays 23 = .ok (.goto 4, 3) := by decide +kernel
theorem dX12_mays_26 : decode cX12_mays 26 = .ok (.iconst 0, 1) := by decide +kernel
theorem dX12_mays_27 : decode cX12_mays 27 = .ok (.iadd, 1) := by decide +kernel
theorem dX12_mays_28 : decode cX12_mays 28 = .ok (.istore_n 2, 1) := by decide +kernel
theorem dX12_mays_29 : decode cX12_mays 29 = .ok (.iinc 3 1, 3) := by decide +kernel
theorem dX12_mays_32 : decode cX12_mays 32 = .ok (.goto (-28), 3) := by decide +kernel
theorem dX12_mays_35 : decode cX12_mays 35 = .ok (.iload_n 2, 1) := by decide +kernel
theorem dX12_mays_36 : decode cX12_mays 36 = .ok (.ireturn, 1) := by decide +kernel
theorem dX12_told_0 : decode cX12_told 0 = .ok (.aload_n 0, 1) := by decide +kernel
theorem dX12_told_1 : decode cX12_told 1 = .ok (.iload_n 1, 1) := by decide +kernel
theorem dX12_told_2 : decode cX12_told 2 = .ok (.invokevirtual 214, 3) := by decide +kernel
theorem dX12_told_5 : decode cX12_told 5 = .ok (.ifCond .eq 7, 3) := by decide +kernel
theorem dX12_told_8 : decode cX12_told 8 = .ok (.iload_n 2, 1) := by decide +kernel
theorem dX12_told_9 : decode cX12_told 9 = .ok (.ifCond .ge 6, 3) := by decide +kernel
theorem dX12_told_12 : decode cX12_told 12 = .ok (.bipush (-2), 2) := by decide +kernel
theorem dX12_told_14 : decode cX12_told 14 = .ok (.ireturn, 1) := by decide +kernel
theorem dX12_told_15 : decode cX12_told 15 = .ok (.iload_n 2, 1) := by decide +kernel
theorem dX12_told_16 : decode cX12_told 16 = .ok (.tableswitch 121 0 8 #[52, 59, 66, 72, 79, 86, 93, 100, 115], 52) := by decide +kernel
theorem dX12_told_68 : decode cX12_told 68 = .ok (.aload_n 0, 1) := by decide +kernel
theorem dX12_told_69 : decode cX12_told 69 = .ok (.getfield 32, 3) := by decide +kernel
theorem dX12_told_72 : decode cX12_told 72 = .ok (.iload_n 1, 1) := by decide +kernel
theorem dX12_told_73 : decode cX12_told 73 = .ok (.iaload, 1) := by decide +kernel
theorem dX12_told_74 : decode cX12_told 74 = .ok (.ireturn, 1) := by decide +kernel
theorem dX12_told_75 : decode cX12_told 75 = .ok (.aload_n 0, 1) := by decide +kernel
theorem dX12_told_76 : decode cX12_told 76 = .ok (.getfield 35, 3) := by decide +kernel
theorem dX12_told_79 : decode cX12_told 79 = .ok (.iload_n 1, 1) := by decide +kernel
theorem dX12_told_80 : decode cX12_told 80 = .ok (.iaload, 1) := by decide +kernel
theorem dX12_told_81 : decode cX12_told 81 = .ok (.ireturn, 1) := by decide +kernel
theorem dX12_told_82 : decode cX12_told 82 = .ok (.aload_n 0, 1) := by decide +kernel
theorem dX12_told_83 : decode cX12_told 83 = .ok (.iload_n 1, 1) := by decide +kernel
theorem dX12_told_84 : decode cX12_told 84 = .ok (.invokevirtual 210, 3) := by decide +kernel
theorem dX12_told_87 : decode cX12_told 87 = .ok (.ireturn, 1) := by decide +kernel
theorem dX12_told_88 : decode cX12_told 88 = .ok (.aload_n 0, 1) := by decide +kernel
theorem dX12_told_89 : decode cX12_told 89 = .ok (.getfield 38, 3) := by decide +kernel
theorem dX12_told_92 : decode cX12_told 92 = .ok (.iload_n 1, 1) := by decide +kernel
theorem dX12_told_93 : decode cX12_told 93 = .ok (.iaload, 1) := by decide +kernel
theorem dX12_told_94 : decode cX12_told 94 = .ok (.ireturn, 1) := by decide +kernel
theorem dX12_told_95 : decode cX12_told 95 = .ok (.aload_n 0, 1) := by decide +kernel
theorem dX12_told_96 : decode cX12_told 96 = .ok (.getfield 60, 3) := by decide +kernel
theorem dX12_told_99 : decode cX12_told 99 = .ok (.iload_n 1, 1) := by decide +kernel
theorem dX12_told_100 : decode cX12_told 100 = .ok (.iaload, 1) := by decide +kernel
theorem dX12_told_101 : decode cX12_told 101 = .ok (.ireturn, 1) := by decide +kernel
theorem dX12_told_102 : decode cX12_told 102 = .ok (.aload_n 0, 1) := by decide +kernel
theorem dX12_told_103 : decode cX12_told 103 = .ok (.getfield 41, 3) := by decide +kernel
theorem dX12_told_106 : decode cX12_told 106 = .ok (.iload_n 1, 1) := by decide +kernel
theorem dX12_told_107 : decode cX12_told 107 = .ok (.iaload, 1) := by decide +kernel
theorem dX12_told_108 : decode cX12_told 108 = .ok (.ireturn, 1) := by decide +kernel
theorem dX12_told_109 : decode cX12_told 109 = .ok (.aload_n 0, 1) := by decide +kernel
theorem dX12_told_110 : decode cX12_told 110 = .ok (.getfield 44, 3) := by decide +kernel
theorem dX12_told_113 : decode cX12_told 113 = .ok (.iload_n 1, 1) := by decide +kernel
theorem dX12_told_114 : decode cX12_told 114 = .ok (.iaload, 1) := by decide +kernel
theorem dX12_told_115 : decode cX12_told 115 = .ok (.ireturn, 1) := by decide +kernel
theorem dX12_told_116 : decode cX12_told 116 = .ok (.aload_n 0, 1) := by decide +kernel
theorem dX12_told_117 : decode cX12_told 117 = .ok (.getfield 57, 3) := by decide +kernel
theorem dX12_told_120 : decode cX12_told 120 = .ok (.iload_n 1, 1) := by decide +kernel
theorem dX12_told_121 : decode cX12_told 121 = .ok (.baload, 1) := by decide +kernel
theorem dX12_told_122 : decode cX12_told 122 = .ok (.ifCond .eq 7, 3) := by decide +kernel
theorem dX12_told_125 : decode cX12_told 125 = .ok (.iconst 1, 1) := by decide +kernel
theorem dX12_told_126 : decode cX12_told 126 = .ok (.goto 4, 3) := by decide +kernel
theorem dX12_told_129 : decode cX12_told 129 = .ok (.iconst 0, 1) := by decide +kernel
theorem dX12_told_130 : decode cX12_told 130 = .ok (.ireturn, 1) := by decide +kernel
theorem dX12_told_131 : decode cX12_told 131 = .ok (.aload_n 0, 1) := by decide +kernel
theorem dX12_told_132 : decode cX12_told 132 = .ok (.iload_n 1, 1) := by decide +kernel
theorem dX12_told_133 : decode cX12_told 133 = .ok (.invokevirtual 306, 3) := by decide +kernel
theorem dX12_told_136 : decode cX12_told 136 = .ok (.ireturn, 1) := by decide +kernel
theorem dX12_told_137 : decode cX12_told 137 = .ok (.iload_n 2, 1) := by decide +kernel
theorem dX12_told_138 : decode cX12_told 138 = .ok (.bipush 9, 2) := by decide +kernel
theorem dX12_told_140 : decode cX12_told 140 = .ok (.isub, 1) := by decide +kernel
theorem dX12_told_141 : decode cX12_told 141 = .ok (.aload_n 0, 1) := by decide +kernel
theorem dX12_told_142 : decode cX12_told 142 = .ok (.getfield 44, 3) := by decide +kernel
theorem dX12_told_145 : decode cX12_told 145 = .ok (.iload_n 1, 1) := by decide +kernel
theorem dX12_told_146 : decode cX12_told 146 = .ok (.iaload, 1) := by decide +kernel
theorem dX12_told_147 : decode cX12_told 147 = .ok (.if_icmp .ge 20, 3) := by decide +kernel
theorem dX12_told_150 : decode cX12_told 150 = .ok (.aload_n 0, 1) := by decide +kernel
theorem dX12_told_151 : decode cX12_told 151 = .ok (.getfield 47, 3) := by decide +kernel
theorem dX12_told_154 : decode cX12_told 154 = .ok (.bipush 8, 2) := by decide +kernel
theorem dX12_told_156 : decode cX12_told 156 = .ok (.iload_n 1, 1) := by decide +kernel
theorem dX12_told_157 : decode cX12_told 157 = .ok (.imul, 1) := by decide +kernel
theorem dX12_told_158 : decode cX12_told 158 = .ok (.iload_n 2, 1) := by decide +kernel
theorem dX12_told_159 : decode cX12_told 159 = .ok (.iadd, 1) := by decide +kernel
theorem dX12_told_160 : decode cX12_told 160 = .ok (.bipush 9, 2) := by decide +kernel
theorem dX12_told_162 : decode cX12_told 162 = .ok (.isub, 1) := by decide +kernel
theorem dX12_told_163 : decode cX12_told 163 = .ok (.iaload, 1) := by decide +kernel
theorem dX12_told_164 : decode cX12_told 164 = .ok (.goto 4, 3) := by decide +kernel
theorem dX12_told_167 : decode cX12_told 167 = .ok (.iconst (-1), 1) := by decide +kernel
theorem dX12_told_168 : decode cX12_told 168 = .ok (.ireturn, 1) := by decide +kernel
theorem dX12_holds_0 : decode cX12_holds 0 = .ok (.aload_n 0, 1) := by decide +kernel
theorem dX12_holds_1 : decode cX12_holds 1 = .ok (.iload_n 1, 1) := by decide +kernel
theorem dX12_holds_2 : decode cX12_holds 2 = .ok (.invokevirtual 191, 3) := by decide +kernel
theorem dX12_holds_5 : decode cX12_holds 5 = .ok (.ifCond .eq 20, 3) := by decide +kernel
theorem dX12_holds_8 : decode cX12_holds 8 = .ok (.aload_n 0, 1) := by decide +kernel
theorem dX12_holds_9 : decode cX12_holds 9 = .ok (.iload_n 2, 1) := by decide +kernel
theorem dX12_holds_10 : decode cX12_holds 10 = .ok (.invokevirtual 214, 3) := by decide +kernel
theorem dX12_holds_13 : decode cX12_holds 13 = .ok (.ifCond .eq 12, 3) := by decide +kernel
theorem dX12_holds_16 : decode cX12_holds 16 = .ok (.iload_n 3, 1) := by decide +kernel
theorem dX12_holds_17 : decode cX12_holds 17 = .ok (.iconst 0, 1) := by decide +kernel
theorem dX12_holds_18 : decode cX12_holds 18 = .ok (.iconst 4, 1) := by decide +kernel
theorem dX12_holds_19 : decode cX12_holds 19 = .ok (.invokestatic 153, 3) := by decide +kernel
theorem dX12_holds_22 : decode cX12_holds 22 = .ok (.ifCond .ne 6, 3) := by decide +kernel
theorem dX12_holds_25 : decode cX12_holds 25 = .ok (.bipush (-2), 2) := by decide +kernel
theorem dX12_holds_27 : decode cX12_holds 27 = .ok (.ireturn, 1) := by decide +kernel
theorem dX12_holds_28 : decode cX12_holds 28 = .ok (.bipush 20, 2) := by decide +kernel
theorem dX12_holds_30 : decode cX12_holds 30 = .ok (.iload_n 1, 1) := by decide +kernel
theorem dX12_holds_31 : decode cX12_holds 31 = .ok (.imul, 1) := by decide +kernel
theorem dX12_holds_32 : decode cX12_holds 32 = .ok (.iload_n 2, 1) := by decide +kernel
theorem dX12_holds_33 : decode cX12_holds 33 = .ok (.iadd, 1) := by decide +kernel
theorem dX12_holds_34 : decode cX12_holds 34 = .ok (.istore 4, 2) := by decide +kernel
theorem dX12_holds_36 : decode cX12_holds 36 = .ok (.iload_n 3, 1) := by decide +kernel
theorem dX12_holds_37 : decode cX12_holds 37 = .ok (.tableswitch 106 0 3 #[31, 46, 62, 84], 31) := by decide +kernel
theorem dX12_holds_68 : decode cX12_holds 68 = .ok (.aload_n 0, 1) := by decide +kernel
theorem dX12_holds_69 : decode cX12_holds 69 = .ok (.iload_n 1, 1) := by decide +kernel
theorem dX12_holds_70 : decode cX12_holds 70 = .ok (.iload_n 2, 1) := by decide +kernel
theorem dX12_holds_71 : decode cX12_holds 71 = .ok (.invokevirtual 303, 3) := by decide +kernel
theorem dX12_holds_74 : decode cX12_holds 74 = .ok (.ifCond .eq 7, 3) := by decide +kernel
theorem dX12_holds_77 : decode cX12_holds 77 = .ok (.iconst 1, 1) := by decide +kernel
theorem dX12_holds_78 : decode cX12_holds 78 = .ok (.goto 4, 3) := by decide +kernel
theorem dX12_holds_81 : decode cX12_holds 81 = .ok (.iconst 0, 1) := by decide +kernel
theorem dX12_holds_82 : decode cX12_holds 82 = .ok (.ireturn, 1) := by decide +kernel
theorem dX12_holds_83 : decode cX12_holds 83 = .ok (.aload_n 0, 1) := by decide +kernel
theorem dX12_holds_84 : decode cX12_holds 84 = .ok (.getfield 82, 3) := by decide +kernel
theorem dX12_holds_87 : decode cX12_holds 87 = .ok (.iload 4, 2) := by decide +kernel
theorem dX12_holds_89 : decode cX12_holds 89 = .ok (.baload, 1) := by decide +kernel
theorem dX12_holds_90 : decode cX12_holds 90 = .ok (.ifCond .eq 7, 3) := by decide +kernel
theorem dX12_holds_93 : decode cX12_holds 93 = .ok (.iconst 1, 1) := by decide +kernel
theorem dX12_holds_94 : decode cX12_holds 94 = .ok (.goto 4, 3) := by decide +kernel
theorem dX12_holds_97 : decode cX12_holds 97 = .ok (.iconst 0, 1) := by decide +kernel
theorem dX12_holds_98 : decode cX12_holds 98 = .ok (.ireturn, 1) := by decide +kernel
theorem dX12_holds_99 : decode cX12_holds 99 = .ok (.aload_n 0, 1) := by decide +kernel
theorem dX12_holds_100 : decode cX12_holds 100 = .ok (.getfield 82, 3) := by decide +kernel
theorem dX12_holds_103 : decode cX12_holds 103 = .ok (.iload 4, 2) := by decide +kernel
theorem dX12_holds_105 : decode cX12_holds 105 = .ok (.baload, 1) := by decide +kernel
theorem dX12_holds_106 : decode cX12_holds 106 = .ok (.ifCond .eq 13, 3) := by decide +kernel
theorem dX12_holds_109 : decode cX12_holds 109 = .ok (.aload_n 0, 1) := by decide +kernel
theorem dX12_holds_110 : decode cX12_holds 110 = .ok (.getfield 85, 3) := by decide +kernel
theorem dX12_holds_113 : decode cX12_holds 113 = .ok (.iload 4, 2) := by decide +kernel
theorem dX12_holds_115 : decode cX12_holds 115 = .ok (.iaload, 1) := by decide +kernel
theorem dX12_holds_116 : decode cX12_holds 116 = .ok (.goto 4, 3) := by decide +kernel
theorem dX12_holds_119 : decode cX12_holds 119 = .ok (.iconst (-1), 1) := by decide +kernel
theorem dX12_holds_120 : decode cX12_holds 120 = .ok (.ireturn, 1) := by decide +kernel
theorem dX12_holds_121 : decode cX12_holds 121 = .ok (.aload_n 0, 1) := by decide +kernel
theorem dX12_holds_122 : decode cX12_holds 122 = .ok (.getfield 82, 3) := by decide +kernel
theorem dX12_holds_125 : decode cX12_holds 125 = .ok (.iload 4, 2) := by decide +kernel
theorem dX12_holds_127 : decode cX12_holds 127 = .ok (.baload, 1) := by decide +kernel
theorem dX12_holds_128 : decode cX12_holds 128 = .ok (.ifCond .eq 13, 3) := by decide +kernel
theorem dX12_holds_131 : decode cX12_holds 131 = .ok (.aload_n 0, 1) := by decide +kernel
theorem dX12_holds_132 : decode cX12_holds 132 = .ok (.getfield 88, 3) := by decide +kernel
theorem dX12_holds_135 : decode cX12_holds 135 = .ok (.iload 4, 2) := by decide +kernel
theorem dX12_holds_137 : decode cX12_holds 137 = .ok (.iaload, 1) := by decide +kernel
theorem dX12_holds_138 : decode cX12_holds 138 = .ok (.goto 4, 3) := by decide +kernel
theorem dX12_holds_141 : decode cX12_holds 141 = .ok (.iconst (-1), 1) := by decide +kernel
theorem dX12_holds_142 : decode cX12_holds 142 = .ok (.ireturn, 1) := by decide +kernel
theorem dX12_holds_143 : decode cX12_holds 143 = .ok (.aload_n 0, 1) := by decide +kernel
theorem dX12_holds_144 : decode cX12_holds 144 = .ok (.getfield 91, 3) := by decide +kernel
theorem dX12_holds_147 : decode cX12_holds 147 = .ok (.iload 4, 2) := by decide +kernel
theorem dX12_holds_149 : decode cX12_holds 149 = .ok (.iaload, 1) := by decide +kernel
theorem dX12_holds_150 : decode cX12_holds 150 = .ok (.ifCond .eq 7, 3) := by decide +kernel
theorem dX12_holds_153 : decode cX12_holds 153 = .ok (.iconst 1, 1) := by decide +kernel
theorem dX12_holds_154 : decode cX12_holds 154 = .ok (.goto 4, 3) := by decide +kernel
theorem dX12_holds_157 : decode cX12_holds 157 = .ok (.iconst 0, 1) := by decide +kernel
theorem dX12_holds_158 : decode cX12_holds 158 = .ok (.ireturn, 1) := by decide +kernel
theorem dX12_held_0 : decode cX12_held 0 = .ok (.aload_n 0, 1) := by decide +kernel
theorem dX12_held_1 : decode cX12_held 1 = .ok (.iload_n 1, 1) := by decide +kernel
theorem dX12_held_2 : decode cX12_held 2 = .ok (.invokevirtual 191, 3) := by decide +kernel
theorem dX12_held_5 : decode cX12_held 5 = .ok (.ifCond .eq 34, 3) := by decide +kernel
theorem dX12_held_8 : decode cX12_held 8 = .ok (.aload_n 0, 1) := by decide +kernel
theorem dX12_held_9 : decode cX12_held 9 = .ok (.iload_n 2, 1) := by decide +kernel
theorem dX12_held_10 : decode cX12_held 10 = .ok (.invokevirtual 214, 3) := by decide +kernel
theorem dX12_held_13 : decode cX12_held 13 = .ok (.ifCond .eq 26, 3) := by decide +kernel
theorem dX12_held_16 : decode cX12_held 16 = .ok (.iload_n 3, 1) := by decide +kernel
theorem dX12_held_17 : decode cX12_held 17 = .ok (.iconst 0, 1) := by decide +kernel
theorem dX12_held_18 : decode cX12_held 18 = .ok (.iconst 1, 1) := by decide +kernel
theorem dX12_held_19 : decode cX12_held 19 = .ok (.invokestatic 153, 3) := by decide +kernel
theorem dX12_held_22 : decode cX12_held 22 = .ok (.ifCond .eq 17, 3) := by decide +kernel
theorem dX12_held_25 : decode cX12_held 25 = .ok (.aload_n 0, 1) := by decide +kernel
theorem dX12_held_26 : decode cX12_held 26 = .ok (.getfield 82, 3) := by decide +kernel
theorem dX12_held_29 : decode cX12_held 29 = .ok (.bipush 20, 2) := by decide +kernel
theorem dX12_held_31 : decode cX12_held 31 = .ok (.iload_n 1, 1) := by decide +kernel
theorem dX12_held_32 : decode cX12_held 32 = .ok (.imul, 1) := by decide +kernel
theorem dX12_held_33 : decode cX12_held 33 = .ok (.iload_n 2, 1) := by decide +kernel
theorem dX12_held_34 : decode cX12_held 34 = .ok (.iadd, 1) := by decide +kernel
theorem dX12_held_35 : decode cX12_held 35 = .ok (.baload, 1) := by decide +kernel
theorem dX12_held_36 : decode cX12_held 36 = .ok (.ifCond .ne 7, 3) := by decide +kernel
theorem dX12_held_39 : decode cX12_held 39 = .ok (.ldc2_w 197, 3) := by decide +kernel
theorem dX12_held_42 : decode cX12_held 42 = .ok (.lreturn, 1) := by decide +kernel
theorem dX12_held_43 : decode cX12_held 43 = .ok (.iload_n 3, 1) := by decide +kernel
theorem dX12_held_44 : decode cX12_held 44 = .ok (.ifCond .ne 17, 3) := by decide +kernel
theorem dX12_held_47 : decode cX12_held 47 = .ok (.aload_n 0, 1) := by decide +kernel
theorem dX12_held_48 : decode cX12_held 48 = .ok (.getfield 94, 3) := by decide +kernel
theorem dX12_held_51 : decode cX12_held 51 = .ok (.bipush 20, 2) := by decide +kernel
theorem dX12_held_53 : decode cX12_held 53 = .ok (.iload_n 1, 1) := by decide +kernel
theorem dX12_held_54 : decode cX12_held 54 = .ok (.imul, 1) := by decide +kernel
theorem dX12_held_55 : decode cX12_held 55 = .ok (.iload_n 2, 1) := by decide +kernel
theorem dX12_held_56 : decode cX12_held 56 = .ok (.iadd, 1) := by decide +kernel
theorem dX12_held_57 : decode cX12_held 57 = .ok (.laload, 1) := by decide +kernel
theorem dX12_held_58 : decode cX12_held 58 = .ok (.goto 14, 3) := by decide +kernel
theorem dX12_held_61 : decode cX12_held 61 = .ok (.aload_n 0, 1) := by decide +kernel
theorem dX12_held_62 : decode cX12_held 62 = .ok (.getfield 97, 3) := by decide +kernel
theorem dX12_held_65 : decode cX12_held 65 = .ok (.bipush 20, 2) := by decide +kernel
theorem dX12_held_67 : decode cX12_held 67 = .ok (.iload_n 1, 1) := by decide +kernel
theorem dX12_held_68 : decode cX12_held 68 = .ok (.imul, 1) := by decide +kernel
theorem dX12_held_69 : decode cX12_held 69 = .ok (.iload_n 2, 1) := by decide +kernel
theorem dX12_held_70 : decode cX12_held 70 = .ok (.iadd, 1) := by decide +kernel
theorem dX12_held_71 : decode cX12_held 71 = .ok (.laload, 1) := by decide +kernel
theorem dX12_held_72 : decode cX12_held 72 = .ok (.lreturn, 1) := by decide +kernel
theorem dX12_isStore_0 : decode cX12_isStore 0 = .ok (.iload_n 1, 1) := by decide +kernel
theorem dX12_isStore_1 : decode cX12_isStore 1 = .ok (.iconst 0, 1) := by decide +kernel
theorem dX12_isStore_2 : decode cX12_isStore 2 = .ok (.aload_n 0, 1) := by decide +kernel
theorem dX12_isStore_3 : decode cX12_isStore 3 = .ok (.getfield 170, 3) := by decide +kernel
theorem dX12_isStore_6 : decode cX12_isStore 6 = .ok (.iconst 1, 1) := by decide +kernel
theorem dX12_isStore_7 : decode cX12_isStore 7 = .ok (.isub, 1) := by decide +kernel
theorem dX12_isStore_8 : decode cX12_isStore 8 = .ok (.invokestatic 153, 3) := by decide +kernel
theorem dX12_isStore_11 : decode cX12_isStore 11 = .ok (.ireturn, 1) := by decide +kernel
theorem dX12_write_0 : decode cX12_write 0 = .ok (.aload_n 0, 1) := by decide +kernel
theorem dX12_write_1 : decode cX12_write 1 = .ok (.iload_n 1, 1) := by decide +kernel
theorem dX12_write_2 : decode cX12_write 2 = .ok (.invokevirtual 191, 3) := by decide +kernel
theorem dX12_write_5 : decode cX12_write 5 = .ok (.ifCond .eq 19, 3) := by decide +kernel
theorem dX12_write_8 : decode cX12_write 8 = .ok (.aload_n 0, 1) := by decide +kernel
theorem dX12_write_9 : decode cX12_write 9 = .ok (.iload_n 2, 1) := by decide +kernel
theorem dX12_write_10 : decode cX12_write 10 = .ok (.invokevirtual 214, 3) := by decide +kernel
theorem dX12_write_13 : decode cX12_write 13 = .ok (.ifCond .eq 11, 3) := by decide +kernel
theorem dX12_write_16 : decode cX12_write 16 = .ok (.aload_n 0, 1) := by decide +kernel
theorem dX12_write_17 : decode cX12_write 17 = .ok (.iload_n 3, 1) := by decide +kernel
theorem dX12_write_18 : decode cX12_write 18 = .ok (.invokevirtual 309, 3) := by decide +kernel
theorem dX12_write_21 : decode cX12_write 21 = .ok (.ifCond .ne 6, 3) := by decide +kernel
theorem dX12_write_24 : decode cX12_write 24 = .ok (.bipush (-2), 2) := by decide +kernel
theorem dX12_write_26 : decode cX12_write 26 = .ok (.ireturn, 1) := by decide +kernel
theorem dX12_write_27 : decode cX12_write 27 = .ok (.bipush 20, 2) := by decide +kernel
theorem dX12_write_29 : decode cX12_write 29 = .ok (.iload_n 1, 1) := by decide +kernel
theorem dX12_write_30 : decode cX12_write 30 = .ok (.imul, 1) := by decide +kernel
theorem dX12_write_31 : decode cX12_write 31 = .ok (.iload_n 2, 1) := by decide +kernel
theorem dX12_write_32 : decode cX12_write 32 = .ok (.iadd, 1) := by decide +kernel
theorem dX12_write_33 : decode cX12_write 33 = .ok (.istore 6, 2) := by decide +kernel
theorem dX12_write_35 : decode cX12_write 35 = .ok (.aload_n 0, 1) := by decide +kernel
theorem dX12_write_36 : decode cX12_write 36 = .ok (.getfield 29, 3) := by decide +kernel
theorem dX12_write_39 : decode cX12_write 39 = .ok (.iload_n 1, 1) := by decide +kernel
theorem dX12_write_40 : decode cX12_write 40 = .ok (.baload, 1) := by decide +kernel
theorem dX12_write_41 : decode cX12_write 41 = .ok (.ifCond .eq 24, 3) := by decide +kernel
theorem dX12_write_44 : decode cX12_write 44 = .ok (.aload_n 0, 1) := by decide +kernel
theorem dX12_write_45 : decode cX12_write 45 = .ok (.getfield 82, 3) := by decide +kernel
theorem dX12_write_48 : decode cX12_write 48 = .ok (.iload 6, 2) := by decide +kernel
theorem dX12_write_50 : decode cX12_write 50 = .ok (.baload, 1) := by decide +kernel
theorem dX12_write_51 : decode cX12_write 51 = .ok (.ifCond .eq 14, 3) := by decide +kernel
theorem dX12_write_54 : decode cX12_write 54 = .ok (.aload_n 0, 1) := by decide +kernel
theorem dX12_write_55 : decode cX12_write 55 = .ok (.getfield 85, 3) := by decide +kernel
theorem dX12_write_58 : decode cX12_write 58 = .ok (.iload 6, 2) := by decide +kernel
theorem dX12_write_60 : decode cX12_write 60 = .ok (.iaload, 1) := by decide +kernel
theorem dX12_write_61 : decode cX12_write 61 = .ok (.iconst 1, 1) := by decide +kernel
theorem dX12_write_62 : decode cX12_write 62 = .ok (.if_icmp .ne 6, 3) := by decide +kernel
theorem dX12_write_65 : decode cX12_write 65 = .ok (.bipush (-3), 2) := by decide +kernel
theorem dX12_write_67 : decode cX12_write 67 = .ok (.ireturn, 1) := by decide +kernel
theorem dX12_write_68 : decode cX12_write 68 = .ok (.bipush 20, 2) := by decide +kernel
theorem dX12_write_70 : decode cX12_write 70 = .ok (.iload_n 3, 1) := by decide +kernel
theorem dX12_write_71 : decode cX12_write 71 = .ok (.imul, 1) := by decide +kernel
theorem dX12_write_72 : decode cX12_write 72 = .ok (.iload_n 2, 1) := by decide +kernel
theorem dX12_write_73 : decode cX12_write 73 = .ok (.iadd, 1) := by decide +kernel
theorem dX12_write_74 : decode cX12_write 74 = .ok (.istore 7, 2) := by decide +kernel
theorem dX12_write_76 : decode cX12_write 76 = .ok (.aload_n 0, 1) := by decide +kernel
theorem dX12_write_77 : decode cX12_write 77 = .ok (.getfield 94, 3) := by decide +kernel
theorem dX12_write_80 : decode cX12_write 80 = .ok (.iload 6, 2) := by decide +kernel
theorem dX12_write_82 : decode cX12_write 82 = .ok (.laload, 1) := by decide +kernel
theorem dX12_write_83 : decode cX12_write 83 = .ok (.aload_n 0, 1) := by decide +kernel
theorem dX12_write_84 : decode cX12_write 84 = .ok (.getfield 130, 3) := by decide +kernel
theorem dX12_write_87 : decode cX12_write 87 = .ok (.iload 7, 2) := by decide +kernel
theorem dX12_write_89 : decode cX12_write 89 = .ok (.laload, 1) := by decide +kernel
theorem dX12_write_90 : decode cX12_write 90 = .ok (.lcmp, 1) := by decide +kernel
theorem dX12_write_91 : decode cX12_write 91 = .ok (.ifCond .ge 15, 3) := by decide +kernel
theorem dX12_write_94 : decode cX12_write 94 = .ok (.aload_n 0, 1) := by decide +kernel
theorem dX12_write_95 : decode cX12_write 95 = .ok (.dup, 1) := by decide +kernel
theorem dX12_write_96 : decode cX12_write 96 = .ok (.getfield 312, 3) := by decide +kernel
theorem dX12_write_99 : decode cX12_write 99 = .ok (.iconst 1, 1) := by decide +kernel
theorem dX12_write_100 : decode cX12_write 100 = .ok (.iadd, 1) := by decide +kernel
theorem dX12_write_101 : decode cX12_write 101 = .ok (.putfield 312, 3) := by decide +kernel
theorem dX12_write_104 : decode cX12_write 104 = .ok (.iconst 0, 1) := by decide +kernel
theorem dX12_write_105 : decode cX12_write 105 = .ok (.ireturn, 1) := by decide +kernel
theorem dX12_write_106 : decode cX12_write 106 = .ok (.aload_n 0, 1) := by decide +kernel
theorem dX12_write_107 : decode cX12_write 107 = .ok (.getfield 130, 3) := by decide +kernel
theorem dX12_write_110 : decode cX12_write 110 = .ok (.iload 7, 2) := by decide +kernel
theorem dX12_write_112 : decode cX12_write 112 = .ok (.aload_n 0, 1) := by decide +kernel
theorem dX12_write_113 : decode cX12_write 113 = .ok (.getfield 94, 3) := by decide +kernel
theorem dX12_write_116 : decode cX12_write 116 = .ok (.iload 6, 2) := by decide +kernel
theorem dX12_write_118 : decode cX12_write 118 = .ok (.laload, 1) := by decide +kernel
theorem dX12_write_119 : decode cX12_write 119 = .ok (.lastore, 1) := by decide +kernel
theorem dX12_write_120 : decode cX12_write 120 = .ok (.aload_n 0, 1) := by decide +kernel
theorem dX12_write_121 : decode cX12_write 121 = .ok (.getfield 133, 3) := by decide +kernel
theorem dX12_write_124 : decode cX12_write 124 = .ok (.iload 7, 2) := by decide +kernel
theorem dX12_write_126 : decode cX12_write 126 = .ok (.lload 4, 2) := by decide +kernel
theorem dX12_write_128 : decode cX12_write 128 = .ok (.lastore, 1) := by decide +kernel
theorem dX12_write_129 : decode cX12_write 129 = .ok (.iconst 1, 1) := by decide +kernel
theorem dX12_write_130 : decode cX12_write 130 = .ok (.ireturn, 1) := by decide +kernel
theorem dX12_stored_0 : decode cX12_stored 0 = .ok (.aload_n 0, 1) := by decide +kernel
theorem dX12_stored_1 : decode cX12_stored 1 = .ok (.iload_n 1, 1) := by decide +kernel
theorem dX12_stored_2 : decode cX12_stored 2 = .ok (.invokevirtual 309, 3) := by decide +kernel
theorem dX12_stored_5 : decode cX12_stored 5 = .ok (.ifCond .eq 20, 3) := by decide +kernel
theorem dX12_stored_8 : decode cX12_stored 8 = .ok (.aload_n 0, 1) := by decide +kernel
theorem dX12_stored_9 : decode cX12_stored 9 = .ok (.iload_n 2, 1) := by decide +kernel
theorem dX12_stored_10 : decode cX12_stored 10 = .ok (.invokevirtual 214, 3) := by decide +kernel
theorem dX12_stored_13 : decode cX12_stored 13 = .ok (.ifCond .eq 12, 3) := by decide +kernel
theorem dX12_stored_16 : decode cX12_stored 16 = .ok (.iload_n 3, 1) := by decide +kernel
theorem dX12_stored_17 : decode cX12_stored 17 = .ok (.iconst 0, 1) := by decide +kernel
theorem dX12_stored_18 : decode cX12_stored 18 = .ok (.iconst 1, 1) := by decide +kernel
theorem dX12_stored_19 : decode cX12_stored 19 = .ok (.invokestatic 153, 3) := by decide +kernel
theorem dX12_stored_22 : decode cX12_stored 22 = .ok (.ifCond .ne 7, 3) := by decide +kernel
theorem dX12_stored_25 : decode cX12_stored 25 = .ok (.ldc2_w 197, 3) := by decide +kernel
theorem dX12_stored_28 : decode cX12_stored 28 = .ok (.lreturn, 1) := by decide +kernel
theorem dX12_stored_29 : decode cX12_stored 29 = .ok (.iload_n 3, 1) := by decide +kernel
theorem dX12_stored_30 : decode cX12_stored 30 = .ok (.ifCond .ne 17, 3) := by decide +kernel
theorem dX12_stored_33 : decode cX12_stored 33 = .ok (.aload_n 0, 1) := by decide +kernel
theorem dX12_stored_34 : decode cX12_stored 34 = .ok (.getfield 130, 3) := by decide +kernel
theorem dX12_stored_37 : decode cX12_stored 37 = .ok (.bipush 20, 2) := by decide +kernel
theorem dX12_stored_39 : decode cX12_stored 39 = .ok (.iload_n 1, 1) := by decide +kernel
theorem dX12_stored_40 : decode cX12_stored 40 = .ok (.imul, 1) := by decide +kernel
theorem dX12_stored_41 : decode cX12_stored 41 = .ok (.iload_n 2, 1) := by decide +kernel
theorem dX12_stored_42 : decode cX12_stored 42 = .ok (.iadd, 1) := by decide +kernel
theorem dX12_stored_43 : decode cX12_stored 43 = .ok (.laload, 1) := by decide +kernel
theorem dX12_stored_44 : decode cX12_stored 44 = .ok (.goto 14, 3) := by decide +kernel
theorem dX12_stored_47 : decode cX12_stored 47 = .ok (.aload_n 0, 1) := by decide +kernel
theorem dX12_stored_48 : decode cX12_stored 48 = .ok (.getfield 133, 3) := by decide +kernel
theorem dX12_stored_51 : decode cX12_stored 51 = .ok (.bipush 20, 2) := by decide +kernel
theorem dX12_stored_53 : decode cX12_stored 53 = .ok (.iload_n 1, 1) := by decide +kernel
theorem dX12_stored_54 : decode cX12_stored 54 = .ok (.imul, 1) := by decide +kernel
theorem dX12_stored_55 : decode cX12_stored 55 = .ok (.iload_n 2, 1) := by decide +kernel
theorem dX12_stored_56 : decode cX12_stored 56 = .ok (.iadd, 1) := by decide +kernel
theorem dX12_stored_57 : decode cX12_stored 57 = .ok (.laload, 1) := by decide +kernel
theorem dX12_stored_58 : decode cX12_stored 58 = .ok (.lreturn, 1) := by decide +kernel
theorem dX12_underWay_0 : decode cX12_underWay 0 = .ok (.iconst 0, 1) := by decide +kernel
theorem dX12_underWay_1 : decode cX12_underWay 1 = .ok (.istore_n 1, 1) := by decide +kernel
theorem dX12_underWay_2 : decode cX12_underWay 2 = .ok (.iconst 0, 1) := by decide +kernel
theorem dX12_underWay_3 : decode cX12_underWay 3 = .ok (.istore_n 2, 1) := by decide +kernel
theorem dX12_underWay_4 : decode cX12_underWay 4 = .ok (.iload_n 2, 1) := by decide +kernel
theorem dX12_underWay_5 : decode cX12_underWay 5 = .ok (.aload_n 0, 1) := by decide +kernel
theorem dX12_underWay_6 : decode cX12_underWay 6 = .ok (.getfield 178, 3) := by decide +kernel
theorem dX12_underWay_9 : decode cX12_underWay 9 = .ok (.if_icmp .ge 26, 3) := by decide +kernel
theorem dX12_underWay_12 : decode cX12_underWay 12 = .ok (.iload_n 1, 1) := by decide +kernel
theorem dX12_underWay_13 : decode cX12_underWay 13 = .ok (.aload_n 0, 1) := by decide +kernel
theorem dX12_underWay_14 : decode cX12_underWay 14 = .ok (.getfield 118, 3) := by decide +kernel
theorem dX12_underWay_17 : decode cX12_underWay 17 = .ok (.iload_n 2, 1) := by decide +kernel
theorem dX12_underWay_18 : decode cX12_underWay 18 = .ok (.iaload, 1) := by decide +kernel
theorem dX12_underWay_19 : decode cX12_underWay 19 = .ok (.ifCond .ne 7, 3) := by decide +kernel
theorem dX12_underWay_22 : decode cX12_underWay 22 = .ok (.iconst 1, 1) := by decide +kernel
theorem dX12_underWay_23 : decode cX12_underWay 23 = .ok (.goto 4, 3) := by decide +kernel
theorem dX12_underWay_26 : decode cX12_underWay 26 = .ok (.iconst 0, 1) := by decide +kernel
theorem dX12_underWay_27 : decode cX12_underWay 27 = .ok (.iadd, 1) := by decide +kernel
theorem dX12_underWay_28 : decode cX12_underWay 28 = .ok (.istore_n 1, 1) := by decide +kernel
theorem dX12_underWay_29 : decode cX12_underWay 29 = .ok (.iinc 2 1, 3) := by decide +kernel
theorem dX12_underWay_32 : decode cX12_underWay 32 = .ok (.goto (-28), 3) := by decide +kernel
theorem dX12_underWay_35 : decode cX12_underWay 35 = .ok (.iload_n 1, 1) := by decide +kernel
theorem dX12_underWay_36 : decode cX12_underWay 36 = .ok (.ireturn, 1) := by decide +kernel
theorem dX12_clashes_0 : decode cX12_clashes 0 = .ok (.iconst 0, 1) := by decide +kernel
theorem dX12_clashes_1 : decode cX12_clashes 1 = .ok (.istore_n 2, 1) := by decide +kernel
theorem dX12_clashes_2 : decode cX12_clashes 2 = .ok (.iconst 0, 1) := by decide +kernel
theorem dX12_clashes_3 : decode cX12_clashes 3 = .ok (.istore_n 3, 1) := by decide +kernel
theorem dX12_clashes_4 : decode cX12_clashes 4 = .ok (.iconst 0, 1) := by decide +kernel
theorem dX12_clashes_5 : decode cX12_clashes 5 = .ok (.istore 4, 2) := by decide +kernel
theorem dX12_clashes_7 : decode cX12_clashes 7 = .ok (.iload 4, 2) := by decide +kernel
theorem dX12_clashes_9 : decode cX12_clashes 9 = .ok (.aload_n 0, 1) := by decide +kernel
theorem dX12_clashes_10 : decode cX12_clashes 10 = .ok (.getfield 164, 3) := by decide +kernel
theorem dX12_clashes_13 : decode cX12_clashes 13 = .ok (.if_icmp .ge 59, 3) := by decide +kernel
theorem dX12_clashes_16 : decode cX12_clashes 16 = .ok (.aload_n 0, 1) := by decide +kernel
theorem dX12_clashes_17 : decode cX12_clashes 17 = .ok (.iload 4, 2) := by decide +kernel
theorem dX12_clashes_19 : decode cX12_clashes 19 = .ok (.iload_n 1, 1) := by decide +kernel
theorem dX12_clashes_20 : decode cX12_clashes 20 = .ok (.invokevirtual 303, 3) := by decide +kernel
theorem dX12_clashes_23 : decode cX12_clashes 23 = .ok (.ifCond .eq 43, 3) := by decide +kernel
theorem dX12_clashes_26 : decode cX12_clashes 26 = .ok (.iload_n 2, 1) := by decide +kernel
theorem dX12_clashes_27 : decode cX12_clashes 27 = .ok (.aload_n 0, 1) := by decide +kernel
theorem dX12_clashes_28 : decode cX12_clashes 28 = .ok (.getfield 88, 3) := by decide +kernel
theorem dX12_clashes_31 : decode cX12_clashes 31 = .ok (.bipush 20, 2) := by decide +kernel
theorem dX12_clashes_33 : decode cX12_clashes 33 = .ok (.iload 4, 2) := by decide +kernel
theorem dX12_clashes_35 : decode cX12_clashes 35 = .ok (.imul, 1) := by decide +kernel
theorem dX12_clashes_36 : decode cX12_clashes 36 = .ok (.iload_n 1, 1) := by decide +kernel
theorem dX12_clashes_37 : decode cX12_clashes 37 = .ok (.iadd, 1) := by decide +kernel
theorem dX12_clashes_38 : decode cX12_clashes 38 = .ok (.iaload, 1) := by decide +kernel
theorem dX12_clashes_39 : decode cX12_clashes 39 = .ok (.iadd, 1) := by decide +kernel
theorem dX12_clashes_40 : decode cX12_clashes 40 = .ok (.istore_n 2, 1) := by decide +kernel
theorem dX12_clashes_41 : decode cX12_clashes 41 = .ok (.iload_n 3, 1) := by decide +kernel
theorem dX12_clashes_42 : decode cX12_clashes 42 = .ok (.ifCond .ne 18, 3) := by decide +kernel
theorem dX12_clashes_45 : decode cX12_clashes 45 = .ok (.aload_n 0, 1) := by decide +kernel
theorem dX12_clashes_46 : decode cX12_clashes 46 = .ok (.getfield 85, 3) := by decide +kernel
theorem dX12_clashes_49 : decode cX12_clashes 49 = .ok (.bipush 20, 2) := by decide +kernel
theorem dX12_clashes_51 : decode cX12_clashes 51 = .ok (.iload 4, 2) := by decide +kernel
theorem dX12_clashes_53 : decode cX12_clashes 53 = .ok (.imul, 1) := by decide +kernel
theorem dX12_clashes_54 : decode cX12_clashes 54 = .ok (.iload_n 1, 1) := by decide +kernel
theorem dX12_clashes_55 : decode cX12_clashes 55 = .ok (.iadd, 1) := by decide +kernel
theorem dX12_clashes_56 : decode cX12_clashes 56 = .ok (.iaload, 1) := by decide +kernel
theorem dX12_clashes_57 : decode cX12_clashes 57 = .ok (.ifCond .ne 7, 3) := by decide +kernel
theorem dX12_clashes_60 : decode cX12_clashes 60 = .ok (.iconst 1, 1) := by decide +kernel
theorem dX12_clashes_61 : decode cX12_clashes 61 = .ok (.goto 4, 3) := by decide +kernel
theorem dX12_clashes_64 : decode cX12_clashes 64 = .ok (.iconst 0, 1) := by decide +kernel
theorem dX12_clashes_65 : decode cX12_clashes 65 = .ok (.istore_n 3, 1) := by decide +kernel
theorem dX12_clashes_66 : decode cX12_clashes 66 = .ok (.iinc 4 1, 3) := by decide +kernel
theorem dX12_clashes_69 : decode cX12_clashes 69 = .ok (.goto (-62), 3) := by decide +kernel
theorem dX12_clashes_72 : decode cX12_clashes 72 = .ok (.aload_n 0, 1) := by decide +kernel
theorem dX12_clashes_73 : decode cX12_clashes 73 = .ok (.getfield 32, 3) := by decide +kernel
theorem dX12_clashes_76 : decode cX12_clashes 76 = .ok (.iload_n 1, 1) := by decide +kernel
theorem dX12_clashes_77 : decode cX12_clashes 77 = .ok (.iaload, 1) := by decide +kernel
theorem dX12_clashes_78 : decode cX12_clashes 78 = .ok (.iconst 2, 1) := by decide +kernel
theorem dX12_clashes_79 : decode cX12_clashes 79 = .ok (.if_icmp .ne 21, 3) := by decide +kernel
theorem dX12_clashes_82 : decode cX12_clashes 82 = .ok (.iload_n 2, 1) := by decide +kernel
theorem dX12_clashes_83 : decode cX12_clashes 83 = .ok (.aload_n 0, 1) := by decide +kernel
theorem dX12_clashes_84 : decode cX12_clashes 84 = .ok (.getfield 38, 3) := by decide +kernel
theorem dX12_clashes_87 : decode cX12_clashes 87 = .ok (.iload_n 1, 1) := by decide +kernel
theorem dX12_clashes_88 : decode cX12_clashes 88 = .ok (.iaload, 1) := by decide +kernel
theorem dX12_clashes_89 : decode cX12_clashes 89 = .ok (.if_icmp .le 7, 3) := by decide +kernel
theorem dX12_clashes_92 : decode cX12_clashes 92 = .ok (.iconst 1, 1) := by decide +kernel
theorem dX12_clashes_93 : decode cX12_clashes 93 = .ok (.goto 25, 3) := by decide +kernel
theorem dX12_clashes_96 : decode cX12_clashes 96 = .ok (.iconst 0, 1) := by decide +kernel
theorem dX12_clashes_97 : decode cX12_clashes 97 = .ok (.goto 21, 3) := by decide +kernel
theorem dX12_clashes_100 : decode cX12_clashes 100 = .ok (.iload_n 3, 1) := by decide +kernel
theorem dX12_clashes_101 : decode cX12_clashes 101 = .ok (.ifCond .eq 16, 3) := by decide +kernel
theorem dX12_clashes_104 : decode cX12_clashes 104 = .ok (.aload_n 0, 1) := by decide +kernel
theorem dX12_clashes_105 : decode cX12_clashes 105 = .ok (.iload_n 1, 1) := by decide +kernel
theorem dX12_clashes_106 : decode cX12_clashes 106 = .ok (.invokevirtual 306, 3) := by decide +kernel
theorem dX12_clashes_109 : decode cX12_clashes 109 = .ok (.iconst 1, 1) := by decide +kernel
theorem dX12_clashes_110 : decode cX12_clashes 110 = .ok (.if_icmp .le 7, 3) := by decide +kernel
theorem dX12_clashes_113 : decode cX12_clashes 113 = .ok (.iconst 1, 1) := by decide +kernel
theorem dX12_clashes_114 : decode cX12_clashes 114 = .ok (.goto 4, 3) := by decide +kernel
theorem dX12_clashes_117 : decode cX12_clashes 117 = .ok (.iconst 0, 1) := by decide +kernel
theorem dX12_clashes_118 : decode cX12_clashes 118 = .ok (.ireturn, 1) := by decide +kernel
theorem dX12_count_0 : decode cX12_count 0 = .ok (.iload_n 1, 1) := by decide +kernel
theorem dX12_count_1 : decode cX12_count 1 = .ok (.tableswitch 181 0 14 #[75, 80, 85, 90, 95, 100, 105, 110, 115, 120, 125, 130, 135, 140, 145], 75) := by decide +kernel
theorem dX12_count_76 : decode cX12_count 76 = .ok (.aload_n 0, 1) := by decide +kernel
theorem dX12_count_77 : decode cX12_count 77 = .ok (.getfield 161, 3) := by decide +kernel
theorem dX12_count_80 : decode cX12_count 80 = .ok (.ireturn, 1) := by decide +kernel
theorem dX12_count_81 : decode cX12_count 81 = .ok (.aload_n 0, 1) := by decide +kernel
theorem dX12_count_82 : decode cX12_count 82 = .ok (.getfield 164, 3) := by decide +kernel
theorem dX12_count_85 : decode cX12_count 85 = .ok (.ireturn, 1) := by decide +kernel
theorem dX12_count_86 : decode cX12_count 86 = .ok (.aload_n 0, 1) := by decide +kernel
theorem dX12_count_87 : decode cX12_count 87 = .ok (.getfield 167, 3) := by decide +kernel
theorem dX12_count_90 : decode cX12_count 90 = .ok (.ireturn, 1) := by decide +kernel
theorem dX12_count_91 : decode cX12_count 91 = .ok (.aload_n 0, 1) := by decide +kernel
theorem dX12_count_92 : decode cX12_count 92 = .ok (.getfield 170, 3) := by decide +kernel
theorem dX12_count_95 : decode cX12_count 95 = .ok (.ireturn, 1) := by decide +kernel
theorem dX12_count_96 : decode cX12_count 96 = .ok (.aload_n 0, 1) := by decide +kernel
theorem dX12_count_97 : decode cX12_count 97 = .ok (.getfield 178, 3) := by decide +kernel
theorem dX12_count_100 : decode cX12_count 100 = .ok (.ireturn, 1) := by decide +kernel
theorem dX12_count_101 : decode cX12_count 101 = .ok (.aload_n 0, 1) := by decide +kernel
theorem dX12_count_102 : decode cX12_count 102 = .ok (.invokevirtual 315, 3) := by decide +kernel
theorem dX12_count_105 : decode cX12_count 105 = .ok (.ireturn, 1) := by decide +kernel
theorem dX12_count_106 : decode cX12_count 106 = .ok (.aload_n 0, 1) := by decide +kernel
theorem dX12_count_107 : decode cX12_count 107 = .ok (.invokevirtual 199, 3) := by decide +kernel
theorem dX12_count_110 : decode cX12_count 110 = .ok (.ireturn, 1) := by decide +kernel
theorem dX12_count_111 : decode cX12_count 111 = .ok (.aload_n 0, 1) := by decide +kernel
theorem dX12_count_112 : decode cX12_count 112 = .ok (.getfield 78, 3) := by decide +kernel
theorem dX12_count_115 : decode cX12_count 115 = .ok (.ireturn, 1) := by decide +kernel
theorem dX12_count_116 : decode cX12_count 116 = .ok (.aload_n 0, 1) := by decide +kernel
theorem dX12_count_117 : decode cX12_count 117 = .ok (.getfield 207, 3) := by decide +kernel
theorem dX12_count_120 : decode cX12_count 120 = .ok (.ireturn, 1) := by decide +kernel
theorem dX12_count_121 : decode cX12_count 121 = .ok (.aload_n 0, 1) := by decide +kernel
theorem dX12_count_122 : decode cX12_count 122 = .ok (.getfield 248, 3) := by decide +kernel
theorem dX12_count_125 : decode cX12_count 125 = .ok (.ireturn, 1) := by decide +kernel
theorem dX12_count_126 : decode cX12_count 126 = .ok (.aload_n 0, 1) := by decide +kernel
theorem dX12_count_127 : decode cX12_count 127 = .ok (.getfield 251, 3) := by decide +kernel
theorem dX12_count_130 : decode cX12_count 130 = .ok (.ireturn, 1) := by decide +kernel
theorem dX12_count_131 : decode cX12_count 131 = .ok (.aload_n 0, 1) := by decide +kernel
theorem dX12_count_132 : decode cX12_count 132 = .ok (.getfield 257, 3) := by decide +kernel
theorem dX12_count_135 : decode cX12_count 135 = .ok (.ireturn, 1) := by decide +kernel
theorem dX12_count_136 : decode cX12_count 136 = .ok (.aload_n 0, 1) := by decide +kernel
theorem dX12_count_137 : decode cX12_count 137 = .ok (.getfield 294, 3) := by decide +kernel
theorem dX12_count_140 : decode cX12_count 140 = .ok (.ireturn, 1) := by decide +kernel
theorem dX12_count_141 : decode cX12_count 141 = .ok (.aload_n 0, 1) := by decide +kernel
theorem dX12_count_142 : decode cX12_count 142 = .ok (.getfield 312, 3) := by decide +kernel
theorem dX12_count_145 : decode cX12_count 145 = .ok (.ireturn, 1) := by decide +kernel
theorem dX12_count_146 : decode cX12_count 146 = .ok (.iconst 0, 1) := by decide +kernel
theorem dX12_count_147 : decode cX12_count 147 = .ok (.istore_n 2, 1) := by decide +kernel
theorem dX12_count_148 : decode cX12_count 148 = .ok (.iconst 0, 1) := by decide +kernel
theorem dX12_count_149 : decode cX12_count 149 = .ok (.istore_n 3, 1) := by decide +kernel
theorem dX12_count_150 : decode cX12_count 150 = .ok (.iload_n 3, 1) := by decide +kernel
theorem dX12_count_151 : decode cX12_count 151 = .ok (.aload_n 0, 1) := by decide +kernel
theorem dX12_count_152 : decode cX12_count 152 = .ok (.getfield 167, 3) := by decide +kernel
theorem dX12_count_155 : decode cX12_count 155 = .ok (.if_icmp .ge 25, 3) := by decide +kernel
theorem dX12_count_158 : decode cX12_count 158 = .ok (.iload_n 2, 1) := by decide +kernel
theorem dX12_count_159 : decode cX12_count 159 = .ok (.aload_n 0, 1) := by decide +kernel
theorem dX12_count_160 : decode cX12_count 160 = .ok (.iload_n 3, 1) := by decide +kernel
theorem dX12_count_161 : decode cX12_count 161 = .ok (.invokevirtual 318, 3) := by decide +kernel
theorem dX12_count_164 : decode cX12_count 164 = .ok (.ifCond .eq 7, 3) := by decide +kernel
theorem dX12_count_167 : decode cX12_count 167 = .ok (.iconst 1, 1) := by decide +kernel
theorem dX12_count_168 : decode cX12_count 168 = .ok (.goto 4, 3) := by decide +kernel
theorem dX12_count_171 : decode cX12_count 171 = .ok (.iconst 0, 1) := by decide +kernel
theorem dX12_count_172 : decode cX12_count 172 = .ok (.iadd, 1) := by decide +kernel
theorem dX12_count_173 : decode cX12_count 173 = .ok (.istore_n 2, 1) := by decide +kernel
theorem dX12_count_174 : decode cX12_count 174 = .ok (.iinc 3 1, 3) := by decide +kernel
theorem dX12_count_177 : decode cX12_count 177 = .ok (.goto (-27), 3) := by decide +kernel
theorem dX12_count_180 : decode cX12_count 180 = .ok (.iload_n 2, 1) := by decide +kernel
theorem dX12_count_181 : decode cX12_count 181 = .ok (.ireturn, 1) := by decide +kernel
theorem dX12_count_182 : decode cX12_count 182 = .ok (.bipush (-2), 2) := by decide +kernel
theorem dX12_count_184 : decode cX12_count 184 = .ok (.ireturn, 1) := by decide +kernel
theorem dX12_done_0 : decode cX12_done 0 = .ok (.aload_n 0, 1) := by decide +kernel
theorem dX12_done_1 : decode cX12_done 1 = .ok (.iconst 0, 1) := by decide +kernel
theorem dX12_done_2 : decode cX12_done 2 = .ok (.putfield 321, 3) := by decide +kernel
theorem dX12_done_5 : decode cX12_done 5 = .ok (.iload_n 1, 1) := by decide +kernel
theorem dX12_done_6 : decode cX12_done 6 = .ok (.ireturn, 1) := by decide +kernel
theorem dX12_refuse_0 : decode cX12_refuse 0 = .ok (.aload_n 0, 1) := by decide +kernel
theorem dX12_refuse_1 : decode cX12_refuse 1 = .ok (.iload_n 1, 1) := by decide +kernel
theorem dX12_refuse_2 : decode cX12_refuse 2 = .ok (.putfield 321, 3) := by decide +kernel
theorem dX12_refuse_5 : decode cX12_refuse 5 = .ok (.iconst (-1), 1) := by decide +kernel
theorem dX12_refuse_6 : decode cX12_refuse 6 = .ok (.ireturn, 1) := by decide +kernel
theorem dX12_put_0 : decode cX12_put 0 = .ok (.iload_n 2, 1) := by decide +kernel
theorem dX12_put_1 : decode cX12_put 1 = .ok (.ifCond .eq 39, 3) := by decide +kernel
theorem dX12_put_4 : decode cX12_put 4 = .ok (.iload_n 2, 1) := by decide +kernel
theorem dX12_put_5 : decode cX12_put 5 = .ok (.iconst 2, 1) := by decide +kernel
theorem dX12_put_6 : decode cX12_put 6 = .ok (.if_icmp .ne 11, 3) := by decide +kernel
theorem dX12_put_9 : decode cX12_put 9 = .ok (.aload_n 0, 1) := by decide +kernel
theorem dX12_put_10 : decode cX12_put 10 = .ok (.iload_n 3, 1) := by decide +kernel
theorem dX12_put_11 : decode cX12_put 11 = .ok (.invokevirtual 228, 3) := by decide +kernel
theorem dX12_put_14 : decode cX12_put 14 = .ok (.ifCond .ne 26, 3) := by decide +kernel
theorem dX12_put_17 : decode cX12_put 17 = .ok (.iload_n 2, 1) := by decide +kernel
theorem dX12_put_18 : decode cX12_put 18 = .ok (.iconst 1, 1) := by decide +kernel
theorem dX12_put_19 : decode cX12_put 19 = .ok (.if_icmp .eq 13, 3) := by decide +kernel
theorem dX12_put_22 : decode cX12_put 22 = .ok (.iload_n 2, 1) := by decide +kernel
theorem dX12_put_23 : decode cX12_put 23 = .ok (.iconst 3, 1) := by decide +kernel
theorem dX12_put_24 : decode cX12_put 24 = .ok (.if_icmp .eq 8, 3) := by decide +kernel
theorem dX12_put_27 : decode cX12_put 27 = .ok (.iload_n 2, 1) := by decide +kernel
theorem dX12_put_28 : decode cX12_put 28 = .ok (.iconst 4, 1) := by decide +kernel
theorem dX12_put_29 : decode cX12_put 29 = .ok (.if_icmp .ne 15, 3) := by decide +kernel
theorem dX12_put_32 : decode cX12_put 32 = .ok (.aload_n 0, 1) := by decide +kernel
theorem dX12_put_33 : decode cX12_put 33 = .ok (.iload_n 3, 1) := by decide +kernel
theorem dX12_put_34 : decode cX12_put 34 = .ok (.invokevirtual 214, 3) := by decide +kernel
theorem dX12_put_37 : decode cX12_put 37 = .ok (.ifCond .eq 7, 3) := by decide +kernel
theorem dX12_put_40 : decode cX12_put 40 = .ok (.iconst 1, 1) := by decide +kernel
theorem dX12_put_41 : decode cX12_put 41 = .ok (.goto 4, 3) := by decide +kernel
theorem dX12_put_44 : decode cX12_put 44 = .ok (.iconst 0, 1) := by decide +kernel
theorem dX12_put_45 : decode cX12_put 45 = .ok (.istore 4, 2) := by decide +kernel
theorem dX12_put_47 : decode cX12_put 47 = .ok (.iload_n 1, 1) := by decide +kernel
theorem dX12_put_48 : decode cX12_put 48 = .ok (.iconst 0, 1) := by decide +kernel
theorem dX12_put_49 : decode cX12_put 49 = .ok (.iconst 5, 1) := by decide +kernel
theorem dX12_put_50 : decode cX12_put 50 = .ok (.invokestatic 153, 3) := by decide +kernel
theorem dX12_put_53 : decode cX12_put 53 = .ok (.ifCond .eq 8, 3) := by decide +kernel
theorem dX12_put_56 : decode cX12_put 56 = .ok (.iload 4, 2) := by decide +kernel
theorem dX12_put_58 : decode cX12_put 58 = .ok (.ifCond .ne 9, 3) := by decide +kernel
theorem dX12_put_61 : decode cX12_put 61 = .ok (.aload_n 0, 1) := by decide +kernel
theorem dX12_put_62 : decode cX12_put 62 = .ok (.iconst 1, 1) := by decide +kernel
theorem dX12_put_63 : decode cX12_put 63 = .ok (.invokevirtual 324, 3) := by decide +kernel
theorem dX12_put_66 : decode cX12_put 66 = .ok (.ireturn, 1) := by decide +kernel
theorem dX12_put_67 : decode cX12_put 67 = .ok (.aload_n 0, 1) := by decide +kernel
theorem dX12_put_68 : decode cX12_put 68 = .ok (.getfield 136, 3) := by decide +kernel
theorem dX12_put_71 : decode cX12_put 71 = .ok (.iload_n 1, 1) := by decide +kernel
theorem dX12_put_72 : decode cX12_put 72 = .ok (.iload_n 2, 1) := by decide +kernel
theorem dX12_put_73 : decode cX12_put 73 = .ok (.iastore, 1) := by decide +kernel
theorem dX12_put_74 : decode cX12_put 74 = .ok (.aload_n 0, 1) := by decide +kernel
theorem dX12_put_75 : decode cX12_put 75 = .ok (.getfield 139, 3) := by decide +kernel
theorem dX12_put_78 : decode cX12_put 78 = .ok (.iload_n 1, 1) := by decide +kernel
theorem dX12_put_79 : decode cX12_put 79 = .ok (.iload_n 3, 1) := by decide +kernel
theorem dX12_put_80 : decode cX12_put 80 = .ok (.iastore, 1) := by decide +kernel
theorem dX12_put_81 : decode cX12_put 81 = .ok (.aload_n 0, 1) := by decide +kernel
theorem dX12_put_82 : decode cX12_put 82 = .ok (.getfield 142, 3) := by decide +kernel
theorem dX12_put_85 : decode cX12_put 85 = .ok (.iload_n 1, 1) := by decide +kernel
theorem dX12_put_86 : decode cX12_put 86 = .ok (.iload_n 2, 1) := by decide +kernel
theorem dX12_put_87 : decode cX12_put 87 = .ok (.iconst 3, 1) := by decide +kernel
theorem dX12_put_88 : decode cX12_put 88 = .ok (.if_icmp .ne 12, 3) := by decide +kernel
theorem dX12_put_91 : decode cX12_put 91 = .ok (.aload_n 0, 1) := by decide +kernel
theorem dX12_put_92 : decode cX12_put 92 = .ok (.getfield 60, 3) := by decide +kernel
theorem dX12_put_95 : decode cX12_put 95 = .ok (.iload_n 3, 1) := by decide +kernel
theorem dX12_put_96 : decode cX12_put 96 = .ok (.iaload, 1) := by decide +kernel
theorem dX12_put_97 : decode cX12_put 97 = .ok (.goto 16, 3) := by decide +kernel
theorem dX12_put_100 : decode cX12_put 100 = .ok (.iload_n 2, 1) := by decide +kernel
theorem dX12_put_101 : decode cX12_put 101 = .ok (.iconst 4, 1) := by decide +kernel
theorem dX12_put_102 : decode cX12_put 102 = .ok (.if_icmp .ne 10, 3) := by decide +kernel
theorem dX12_put_105 : decode cX12_put 105 = .ok (.aload_n 0, 1) := by decide +kernel
theorem dX12_put_106 : decode cX12_put 106 = .ok (.getfield 164, 3) := by decide +kernel
theorem dX12_put_109 : decode cX12_put 109 = .ok (.goto 4, 3) := by decide +kernel
theorem dX12_put_112 : decode cX12_put 112 = .ok (.iconst 0, 1) := by decide +kernel
theorem dX12_put_113 : decode cX12_put 113 = .ok (.iastore, 1) := by decide +kernel
theorem dX12_put_114 : decode cX12_put 114 = .ok (.iconst 0, 1) := by decide +kernel
theorem dX12_put_115 : decode cX12_put 115 = .ok (.istore 5, 2) := by decide +kernel
theorem dX12_put_117 : decode cX12_put 117 = .ok (.iload 5, 2) := by decide +kernel
theorem dX12_put_119 : decode cX12_put 119 = .ok (.aload_n 0, 1) := by decide +kernel
theorem dX12_put_120 : decode cX12_put 120 = .ok (.getfield 142, 3) := by decide +kernel
theorem dX12_put_123 : decode cX12_put 123 = .ok (.iload_n 1, 1) := by decide +kernel
theorem dX12_put_124 : decode cX12_put 124 = .ok (.iaload, 1) := by decide +kernel
theorem dX12_put_125 : decode cX12_put 125 = .ok (.if_icmp .ge 56, 3) := by decide +kernel
theorem dX12_put_128 : decode cX12_put 128 = .ok (.aload_n 0, 1) := by decide +kernel
theorem dX12_put_129 : decode cX12_put 129 = .ok (.getfield 145, 3) := by decide +kernel
theorem dX12_put_132 : decode cX12_put 132 = .ok (.bipush 20, 2) := by decide +kernel
theorem dX12_put_134 : decode cX12_put 134 = .ok (.iload_n 1, 1) := by decide +kernel
theorem dX12_put_135 : decode cX12_put 135 = .ok (.imul, 1) := by decide +kernel
theorem dX12_put_136 : decode cX12_put 136 = .ok (.iload 5, 2) := by decide +kernel
theorem dX12_put_138 : decode cX12_put 138 = .ok (.iadd, 1) := by decide +kernel
theorem dX12_put_139 : decode cX12_put 139 = .ok (.iload_n 2, 1) := by decide +kernel
theorem dX12_put_140 : decode cX12_put 140 = .ok (.iconst 3, 1) := by decide +kernel
theorem dX12_put_141 : decode cX12_put 141 = .ok (.if_icmp .ne 18, 3) := by decide +kernel
theorem dX12_put_144 : decode cX12_put 144 = .ok (.aload_n 0, 1) := by decide +kernel
theorem dX12_put_145 : decode cX12_put 145 = .ok (.getfield 72, 3) := by decide +kernel
theorem dX12_put_148 : decode cX12_put 148 = .ok (.bipush 20, 2) := by decide +kernel
theorem dX12_put_150 : decode cX12_put 150 = .ok (.iload_n 3, 1) := by decide +kernel
theorem dX12_put_151 : decode cX12_put 151 = .ok (.imul, 1) := by decide +kernel
theorem dX12_put_152 : decode cX12_put 152 = .ok (.iload 5, 2) := by decide +kernel
theorem dX12_put_154 : decode cX12_put 154 = .ok (.iadd, 1) := by decide +kernel
theorem dX12_put_155 : decode cX12_put 155 = .ok (.laload, 1) := by decide +kernel
theorem dX12_put_156 : decode cX12_put 156 = .ok (.goto 18, 3) := by decide +kernel
theorem dX12_put_159 : decode cX12_put 159 = .ok (.aload_n 0, 1) := by decide +kernel
theorem dX12_put_160 : decode cX12_put 160 = .ok (.iload 5, 2) := by decide +kernel
theorem dX12_put_162 : decode cX12_put 162 = .ok (.iload_n 3, 1) := by decide +kernel
theorem dX12_put_163 : decode cX12_put 163 = .ok (.invokevirtual 303, 3) := by decide +kernel
theorem dX12_put_166 : decode cX12_put 166 = .ok (.ifCond .eq 7, 3) := by decide +kernel
theorem dX12_put_169 : decode cX12_put 169 = .ok (.lconst 1, 1) := by decide +kernel
theorem dX12_put_170 : decode cX12_put 170 = .ok (.goto 4, 3) := by decide +kernel
theorem dX12_put_173 : decode cX12_put 173 = .ok (.lconst 0, 1) := by decide +kernel
theorem dX12_put_174 : decode cX12_put 174 = .ok (.lastore, 1) := by decide +kernel
theorem dX12_put_175 : decode cX12_put 175 = .ok (.iinc 5 1, 3) := by decide +kernel
theorem dX12_put_178 : decode cX12_put 178 = .ok (.goto (-61), 3) := by decide +kernel
theorem dX12_put_181 : decode cX12_put 181 = .ok (.aload_n 0, 1) := by decide +kernel
theorem dX12_put_182 : decode cX12_put 182 = .ok (.iconst 1, 1) := by decide +kernel
theorem dX12_put_183 : decode cX12_put 183 = .ok (.invokevirtual 327, 3) := by decide +kernel
theorem dX12_put_186 : decode cX12_put 186 = .ok (.ireturn, 1) := by decide +kernel
theorem dX12_isUnder_0 : decode cX12_isUnder 0 = .ok (.iload_n 1, 1) := by decide +kernel
theorem dX12_isUnder_1 : decode cX12_isUnder 1 = .ok (.ifCond .eq 18, 3) := by decide +kernel
theorem dX12_isUnder_4 : decode cX12_isUnder 4 = .ok (.iload_n 0, 1) := by decide +kernel
theorem dX12_isUnder_5 : decode cX12_isUnder 5 = .ok (.iload_n 1, 1) := by decide +kernel
theorem dX12_isUnder_6 : decode cX12_isUnder 6 = .ok (.if_icmp .eq 13, 3) := by decide +kernel
theorem dX12_isUnder_9 : decode cX12_isUnder 9 = .ok (.iload_n 0, 1) := by decide +kernel
theorem dX12_isUnder_10 : decode cX12_isUnder 10 = .ok (.iconst 2, 1) := by decide +kernel
theorem dX12_isUnder_11 : decode cX12_isUnder 11 = .ok (.if_icmp .ne 12, 3) := by decide +kernel
theorem dX12_isUnder_14 : decode cX12_isUnder 14 = .ok (.iload_n 1, 1) := by decide +kernel
theorem dX12_isUnder_15 : decode cX12_isUnder 15 = .ok (.iconst 1, 1) := by decide +kernel
theorem dX12_isUnder_16 : decode cX12_isUnder 16 = .ok (.if_icmp .ne 7, 3) := by decide +kernel
theorem dX12_isUnder_19 : decode cX12_isUnder 19 = .ok (.iconst 1, 1) := by decide +kernel
theorem dX12_isUnder_20 : decode cX12_isUnder 20 = .ok (.goto 4, 3) := by decide +kernel
theorem dX12_isUnder_23 : decode cX12_isUnder 23 = .ok (.iconst 0, 1) := by decide +kernel
theorem dX12_isUnder_24 : decode cX12_isUnder 24 = .ok (.ireturn, 1) := by decide +kernel
theorem dX12_asThing_0 : decode cX12_asThing 0 = .ok (.iload_n 2, 1) := by decide +kernel
theorem dX12_asThing_1 : decode cX12_asThing 1 = .ok (.iconst 5, 1) := by decide +kernel
theorem dX12_asThing_2 : decode cX12_asThing 2 = .ok (.irem, 1) := by decide +kernel
theorem dX12_asThing_3 : decode cX12_asThing 3 = .ok (.istore_n 3, 1) := by decide +kernel
theorem dX12_asThing_4 : decode cX12_asThing 4 = .ok (.iload_n 3, 1) := by decide +kernel
theorem dX12_asThing_5 : decode cX12_asThing 5 = .ok (.ifCond .ge 9, 3) := by decide +kernel
theorem dX12_asThing_8 : decode cX12_asThing 8 = .ok (.iload_n 3, 1) := by decide +kernel
theorem dX12_asThing_9 : decode cX12_asThing 9 = .ok (.iconst 5, 1) := by decide +kernel
theorem dX12_asThing_10 : decode cX12_asThing 10 = .ok (.iadd, 1) := by decide +kernel
theorem dX12_asThing_11 : decode cX12_asThing 11 = .ok (.goto 4, 3) := by decide +kernel
theorem dX12_asThing_14 : decode cX12_asThing 14 = .ok (.iload_n 3, 1) := by decide +kernel
theorem dX12_asThing_15 : decode cX12_asThing 15 = .ok (.istore_n 3, 1) := by decide +kernel
theorem dX12_asThing_16 : decode cX12_asThing 16 = .ok (.aload_n 0, 1) := by decide +kernel
theorem dX12_asThing_17 : decode cX12_asThing 17 = .ok (.getfield 136, 3) := by decide +kernel
theorem dX12_asThing_20 : decode cX12_asThing 20 = .ok (.iload_n 1, 1) := by decide +kernel
theorem dX12_asThing_21 : decode cX12_asThing 21 = .ok (.iaload, 1) := by decide +kernel
theorem dX12_asThing_22 : decode cX12_asThing 22 = .ok (.istore 4, 2) := by decide +kernel
theorem dX12_asThing_24 : decode cX12_asThing 24 = .ok (.iload 4, 2) := by decide +kernel
theorem dX12_asThing_26 : decode cX12_asThing 26 = .ok (.ifCond .ne 10, 3) := by decide +kernel
theorem dX12_asThing_29 : decode cX12_asThing 29 = .ok (.aload_n 0, 1) := by decide +kernel
theorem dX12_asThing_30 : decode cX12_asThing 30 = .ok (.bipush 10, 2) := by decide +kernel
theorem dX12_asThing_32 : decode cX12_asThing 32 = .ok (.invokevirtual 324, 3) := by decide +kernel
theorem dX12_asThing_35 : decode cX12_asThing 35 = .ok (.ireturn, 1) := by decide +kernel
theorem dX12_asThing_36 : decode cX12_asThing 36 = .ok (.iload 4, 2) := by decide +kernel
theorem dX12_asThing_38 : decode cX12_asThing 38 = .ok (.iconst 1, 1) := by decide +kernel
theorem dX12_asThing_39 : decode cX12_asThing 39 = .ok (.if_icmp .ne 21, 3) := by decide +kernel
theorem dX12_asThing_42 : decode cX12_asThing 42 = .ok (.aload_n 0, 1) := by decide +kernel
theorem dX12_asThing_43 : decode cX12_asThing 43 = .ok (.getfield 32, 3) := by decide +kernel
theorem dX12_asThing_46 : decode cX12_asThing 46 = .ok (.aload_n 0, 1) := by decide +kernel
theorem dX12_asThing_47 : decode cX12_asThing 47 = .ok (.getfield 139, 3) := by decide +kernel
theorem dX12_asThing_50 : decode cX12_asThing 50 = .ok (.iload_n 1, 1) := by decide +kernel
theorem dX12_asThing_51 : decode cX12_asThing 51 = .ok (.iaload, 1) := by decide +kernel
theorem dX12_asThing_52 : decode cX12_asThing 52 = .ok (.iaload, 1) := by decide +kernel
theorem dX12_asThing_53 : decode cX12_asThing 53 = .ok (.iload_n 3, 1) := by decide +kernel
theorem dX12_asThing_54 : decode cX12_asThing 54 = .ok (.invokestatic 330, 3) := by decide +kernel
theorem dX12_asThing_57 : decode cX12_asThing 57 = .ok (.ifCond .ne 10, 3) := by decide +kernel
theorem dX12_asThing_60 : decode cX12_asThing 60 = .ok (.aload_n 0, 1) := by decide +kernel
theorem dX12_asThing_61 : decode cX12_asThing 61 = .ok (.bipush 11, 2) := by decide +kernel
theorem dX12_asThing_63 : decode cX12_asThing 63 = .ok (.invokevirtual 324, 3) := by decide +kernel
theorem dX12_asThing_66 : decode cX12_asThing 66 = .ok (.ireturn, 1) := by decide +kernel
theorem dX12_asThing_67 : decode cX12_asThing 67 = .ok (.aload_n 0, 1) := by decide +kernel
theorem dX12_asThing_68 : decode cX12_asThing 68 = .ok (.aload_n 0, 1) := by decide +kernel
theorem dX12_asThing_69 : decode cX12_asThing 69 = .ok (.getfield 35, 3) := by decide +kernel
theorem dX12_asThing_72 : decode cX12_asThing 72 = .ok (.aload_n 0, 1) := by decide +kernel
theorem dX12_asThing_73 : decode cX12_asThing 73 = .ok (.getfield 139, 3) := by decide +kernel
theorem dX12_asThing_76 : decode cX12_asThing 76 = .ok (.iload_n 1, 1) := by decide +kernel
theorem dX12_asThing_77 : decode cX12_asThing 77 = .ok (.iaload, 1) := by decide +kernel
theorem dX12_asThing_78 : decode cX12_asThing 78 = .ok (.iaload, 1) := by decide +kernel
theorem dX12_asThing_79 : decode cX12_asThing 79 = .ok (.invokevirtual 327, 3) := by decide +kernel
theorem dX12_asThing_82 : decode cX12_asThing 82 = .ok (.ireturn, 1) := by decide +kernel
theorem dX12_asLetter_0 : decode cX12_asLetter 0 = .ok (.aload_n 0, 1) := by decide +kernel
theorem dX12_asLetter_1 : decode cX12_asLetter 1 = .ok (.getfield 136, 3) := by decide +kernel
theorem dX12_asLetter_4 : decode cX12_asLetter 4 = .ok (.iload_n 1, 1) := by decide +kernel
theorem dX12_asLetter_5 : decode cX12_asLetter 5 = .ok (.iaload, 1) := by decide +kernel
theorem dX12_asLetter_6 : decode cX12_asLetter 6 = .ok (.istore_n 3, 1) := by decide +kernel
theorem dX12_asLetter_7 : decode cX12_asLetter 7 = .ok (.iload_n 3, 1) := by decide +kernel
theorem dX12_asLetter_8 : decode cX12_asLetter 8 = .ok (.ifCond .ne 10, 3) := by decide +kernel
theorem dX12_asLetter_11 : decode cX12_asLetter 11 = .ok (.aload_n 0, 1) := by decide +kernel
theorem dX12_asLetter_12 : decode cX12_asLetter 12 = .ok (.bipush 10, 2) := by decide +kernel
theorem dX12_asLetter_14 : decode cX12_asLetter 14 = .ok (.invokevirtual 324, 3) := by decide +kernel
theorem dX12_asLetter_17 : decode cX12_asLetter 17 = .ok (.ireturn, 1) := by decide +kernel
theorem dX12_asLetter_18 : decode cX12_asLetter 18 = .ok (.iload_n 3, 1) := by decide +kernel
theorem dX12_asLetter_19 : decode cX12_asLetter 19 = .ok (.iconst 2, 1) := by decide +kernel
theorem dX12_asLetter_20 : decode cX12_asLetter 20 = .ok (.if_icmp .ne 37, 3) := by decide +kernel
theorem dX12_asLetter_23 : decode cX12_asLetter 23 = .ok (.aload_n 0, 1) := by decide +kernel
theorem dX12_asLetter_24 : decode cX12_asLetter 24 = .ok (.getfield 100, 3) := by decide +kernel
theorem dX12_asLetter_27 : decode cX12_asLetter 27 = .ok (.aload_n 0, 1) := by decide +kernel
theorem dX12_asLetter_28 : decode cX12_asLetter 28 = .ok (.getfield 139, 3) := by decide +kernel
theorem dX12_asLetter_31 : decode cX12_asLetter 31 = .ok (.iload_n 1, 1) := by decide +kernel
theorem dX12_asLetter_32 : decode cX12_asLetter 32 = .ok (.iaload, 1) := by decide +kernel
theorem dX12_asLetter_33 : decode cX12_asLetter 33 = .ok (.iaload, 1) := by decide +kernel
theorem dX12_asLetter_34 : decode cX12_asLetter 34 = .ok (.iconst 4, 1) := by decide +kernel
theorem dX12_asLetter_35 : decode cX12_asLetter 35 = .ok (.if_icmp .ge 7, 3) := by decide +kernel
theorem dX12_asLetter_38 : decode cX12_asLetter 38 = .ok (.iconst 1, 1) := by decide +kernel
theorem dX12_asLetter_39 : decode cX12_asLetter 39 = .ok (.goto 4, 3) := by decide +kernel
theorem dX12_asLetter_42 : decode cX12_asLetter 42 = .ok (.iconst 0, 1) := by decide +kernel
theorem dX12_asLetter_43 : decode cX12_asLetter 43 = .ok (.iload_n 2, 1) := by decide +kernel
theorem dX12_asLetter_44 : decode cX12_asLetter 44 = .ok (.iconst 2, 1) := by decide +kernel
theorem dX12_asLetter_45 : decode cX12_asLetter 45 = .ok (.irem, 1) := by decide +kernel
theorem dX12_asLetter_46 : decode cX12_asLetter 46 = .ok (.ifCond .ne 7, 3) := by decide +kernel
theorem dX12_asLetter_49 : decode cX12_asLetter 49 = .ok (.iconst 1, 1) := by decide +kernel
theorem dX12_asLetter_50 : decode cX12_asLetter 50 = .ok (.goto 4, 3) := by decide +kernel
theorem dX12_asLetter_53 : decode cX12_asLetter 53 = .ok (.iconst 0, 1) := by decide +kernel
theorem dX12_asLetter_54 : decode cX12_asLetter 54 = .ok (.if_icmp .eq 10, 3) := by decide +kernel
theorem dX12_asLetter_57 : decode cX12_asLetter 57 = .ok (.aload_n 0, 1) := by decide +kernel
theorem dX12_asLetter_58 : decode cX12_asLetter 58 = .ok (.bipush 11, 2) := by decide +kernel
theorem dX12_asLetter_60 : decode cX12_asLetter 60 = .ok (.invokevirtual 324, 3) := by decide +kernel
theorem dX12_asLetter_63 : decode cX12_asLetter 63 = .ok (.ireturn, 1) := by decide +kernel
theorem dX12_asLetter_64 : decode cX12_asLetter 64 = .ok (.aload_n 0, 1) := by decide +kernel
theorem dX12_asLetter_65 : decode cX12_asLetter 65 = .ok (.aload_n 0, 1) := by decide +kernel
theorem dX12_asLetter_66 : decode cX12_asLetter 66 = .ok (.getfield 109, 3) := by decide +kernel
theorem dX12_asLetter_69 : decode cX12_asLetter 69 = .ok (.aload_n 0, 1) := by decide +kernel
theorem dX12_asLetter_70 : decode cX12_asLetter 70 = .ok (.getfield 139, 3) := by decide +kernel
theorem dX12_asLetter_73 : decode cX12_asLetter 73 = .ok (.iload_n 1, 1) := by decide +kernel
theorem dX12_asLetter_74 : decode cX12_asLetter 74 = .ok (.iaload, 1) := by decide +kernel
theorem dX12_asLetter_75 : decode cX12_asLetter 75 = .ok (.iaload, 1) := by decide +kernel
theorem dX12_asLetter_76 : decode cX12_asLetter 76 = .ok (.invokevirtual 327, 3) := by decide +kernel
theorem dX12_asLetter_79 : decode cX12_asLetter 79 = .ok (.ireturn, 1) := by decide +kernel
theorem dX12_asRow_0 : decode cX12_asRow 0 = .ok (.aload_n 0, 1) := by decide +kernel
theorem dX12_asRow_1 : decode cX12_asRow 1 = .ok (.getfield 136, 3) := by decide +kernel
theorem dX12_asRow_4 : decode cX12_asRow 4 = .ok (.iload_n 1, 1) := by decide +kernel
theorem dX12_asRow_5 : decode cX12_asRow 5 = .ok (.iaload, 1) := by decide +kernel
theorem dX12_asRow_6 : decode cX12_asRow 6 = .ok (.ifCond .ne 10, 3) := by decide +kernel
theorem dX12_asRow_9 : decode cX12_asRow 9 = .ok (.aload_n 0, 1) := by decide +kernel
theorem dX12_asRow_10 : decode cX12_asRow 10 = .ok (.bipush 10, 2) := by decide +kernel
theorem dX12_asRow_12 : decode cX12_asRow 12 = .ok (.invokevirtual 324, 3) := by decide +kernel
theorem dX12_asRow_15 : decode cX12_asRow 15 = .ok (.ireturn, 1) := by decide +kernel
theorem dX12_asRow_16 : decode cX12_asRow 16 = .ok (.aload_n 0, 1) := by decide +kernel
theorem dX12_asRow_17 : decode cX12_asRow 17 = .ok (.getfield 136, 3) := by decide +kernel
theorem dX12_asRow_20 : decode cX12_asRow 20 = .ok (.iload_n 1, 1) := by decide +kernel
theorem dX12_asRow_21 : decode cX12_asRow 21 = .ok (.iaload, 1) := by decide +kernel
theorem dX12_asRow_22 : decode cX12_asRow 22 = .ok (.iload_n 2, 1) := by decide +kernel
theorem dX12_asRow_23 : decode cX12_asRow 23 = .ok (.if_icmp .eq 10, 3) := by decide +kernel
theorem dX12_asRow_26 : decode cX12_asRow 26 = .ok (.aload_n 0, 1) := by decide +kernel
theorem dX12_asRow_27 : decode cX12_asRow 27 = .ok (.bipush 11, 2) := by decide +kernel
theorem dX12_asRow_29 : decode cX12_asRow 29 = .ok (.invokevirtual 324, 3) := by decide +kernel
theorem dX12_asRow_32 : decode cX12_asRow 32 = .ok (.ireturn, 1) := by decide +kernel
theorem dX12_asRow_33 : decode cX12_asRow 33 = .ok (.iload_n 3, 1) := by decide +kernel
theorem dX12_asRow_34 : decode cX12_asRow 34 = .ok (.iconst 0, 1) := by decide +kernel
theorem dX12_asRow_35 : decode cX12_asRow 35 = .ok (.aload_n 0, 1) := by decide +kernel
theorem dX12_asRow_36 : decode cX12_asRow 36 = .ok (.getfield 142, 3) := by decide +kernel
theorem dX12_asRow_39 : decode cX12_asRow 39 = .ok (.iload_n 1, 1) := by decide +kernel
theorem dX12_asRow_40 : decode cX12_asRow 40 = .ok (.iaload, 1) := by decide +kernel
theorem dX12_asRow_41 : decode cX12_asRow 41 = .ok (.iconst 1, 1) := by decide +kernel
theorem dX12_asRow_42 : decode cX12_asRow 42 = .ok (.isub, 1) := by decide +kernel
theorem dX12_asRow_43 : decode cX12_asRow 43 = .ok (.invokestatic 153, 3) := by decide +kernel
theorem dX12_asRow_46 : decode cX12_asRow 46 = .ok (.ifCond .ne 10, 3) := by decide +kernel
theorem dX12_asRow_49 : decode cX12_asRow 49 = .ok (.aload_n 0, 1) := by decide +kernel
theorem dX12_asRow_50 : decode cX12_asRow 50 = .ok (.bipush 12, 2) := by decide +kernel
theorem dX12_asRow_52 : decode cX12_asRow 52 = .ok (.invokevirtual 324, 3) := by decide +kernel
theorem dX12_asRow_55 : decode cX12_asRow 55 = .ok (.ireturn, 1) := by decide +kernel
theorem dX12_asRow_56 : decode cX12_asRow 56 = .ok (.aload_n 0, 1) := by decide +kernel
theorem dX12_asRow_57 : decode cX12_asRow 57 = .ok (.aload_n 0, 1) := by decide +kernel
theorem dX12_asRow_58 : decode cX12_asRow 58 = .ok (.getfield 145, 3) := by decide +kernel
theorem dX12_asRow_61 : decode cX12_asRow 61 = .ok (.bipush 20, 2) := by decide +kernel
theorem dX12_asRow_63 : decode cX12_asRow 63 = .ok (.iload_n 1, 1) := by decide +kernel
theorem dX12_asRow_64 : decode cX12_asRow 64 = .ok (.imul, 1) := by decide +kernel
theorem dX12_asRow_65 : decode cX12_asRow 65 = .ok (.iload_n 3, 1) := by decide +kernel
theorem dX12_asRow_66 : decode cX12_asRow 66 = .ok (.iadd, 1) := by decide +kernel
theorem dX12_asRow_67 : decode cX12_asRow 67 = .ok (.laload, 1) := by decide +kernel
theorem dX12_asRow_68 : decode cX12_asRow 68 = .ok (.l2i, 1) := by decide +kernel
theorem dX12_asRow_69 : decode cX12_asRow 69 = .ok (.invokevirtual 327, 3) := by decide +kernel
theorem dX12_asRow_72 : decode cX12_asRow 72 = .ok (.ireturn, 1) := by decide +kernel
theorem dX12_copied_0 : decode cX12_copied 0 = .ok (.aload_n 0, 1) := by decide +kernel
theorem dX12_copied_1 : decode cX12_copied 1 = .ok (.getfield 136, 3) := by decide +kernel
theorem dX12_copied_4 : decode cX12_copied 4 = .ok (.iload_n 1, 1) := by decide +kernel
theorem dX12_copied_5 : decode cX12_copied 5 = .ok (.iaload, 1) := by decide +kernel
theorem dX12_copied_6 : decode cX12_copied 6 = .ok (.ifCond .ne 10, 3) := by decide +kernel
theorem dX12_copied_9 : decode cX12_copied 9 = .ok (.aload_n 0, 1) := by decide +kernel
theorem dX12_copied_10 : decode cX12_copied 10 = .ok (.bipush 10, 2) := by decide +kernel
theorem dX12_copied_12 : decode cX12_copied 12 = .ok (.invokevirtual 324, 3) := by decide +kernel
theorem dX12_copied_15 : decode cX12_copied 15 = .ok (.ireturn, 1) := by decide +kernel
theorem dX12_copied_16 : decode cX12_copied 16 = .ok (.aload_n 0, 1) := by decide +kernel
theorem dX12_copied_17 : decode cX12_copied 17 = .ok (.getfield 136, 3) := by decide +kernel
theorem dX12_copied_20 : decode cX12_copied 20 = .ok (.iload_n 1, 1) := by decide +kernel
theorem dX12_copied_21 : decode cX12_copied 21 = .ok (.iaload, 1) := by decide +kernel
theorem dX12_copied_22 : decode cX12_copied 22 = .ok (.iconst 3, 1) := by decide +kernel
theorem dX12_copied_23 : decode cX12_copied 23 = .ok (.if_icmp .eq 10, 3) := by decide +kernel
theorem dX12_copied_26 : decode cX12_copied 26 = .ok (.aload_n 0, 1) := by decide +kernel
theorem dX12_copied_27 : decode cX12_copied 27 = .ok (.bipush 11, 2) := by decide +kernel
theorem dX12_copied_29 : decode cX12_copied 29 = .ok (.invokevirtual 324, 3) := by decide +kernel
theorem dX12_copied_32 : decode cX12_copied 32 = .ok (.ireturn, 1) := by decide +kernel
theorem dX12_copied_33 : decode cX12_copied 33 = .ok (.iload_n 2, 1) := by decide +kernel
theorem dX12_copied_34 : decode cX12_copied 34 = .ok (.ifCond .lt 22, 3) := by decide +kernel
theorem dX12_copied_37 : decode cX12_copied 37 = .ok (.iconst 1, 1) := by decide +kernel
theorem dX12_copied_38 : decode cX12_copied 38 = .ok (.iload_n 2, 1) := by decide +kernel
theorem dX12_copied_39 : decode cX12_copied 39 = .ok (.iadd, 1) := by decide +kernel
theorem dX12_copied_40 : decode cX12_copied 40 = .ok (.aload_n 0, 1) := by decide +kernel
theorem dX12_copied_41 : decode cX12_copied 41 = .ok (.getfield 142, 3) := by decide +kernel
theorem dX12_copied_44 : decode cX12_copied 44 = .ok (.iload_n 1, 1) := by decide +kernel
theorem dX12_copied_45 : decode cX12_copied 45 = .ok (.iaload, 1) := by decide +kernel
theorem dX12_copied_46 : decode cX12_copied 46 = .ok (.if_icmp .gt 10, 3) := by decide +kernel
theorem dX12_copied_49 : decode cX12_copied 49 = .ok (.iconst 2, 1) := by decide +kernel
theorem dX12_copied_50 : decode cX12_copied 50 = .ok (.iload_n 2, 1) := by decide +kernel
theorem dX12_copied_51 : decode cX12_copied 51 = .ok (.imul, 1) := by decide +kernel
theorem dX12_copied_52 : decode cX12_copied 52 = .ok (.iconst 5, 1) := by decide +kernel
theorem dX12_copied_53 : decode cX12_copied 53 = .ok (.if_icmp .le 10, 3) := by decide +kernel
theorem dX12_copied_56 : decode cX12_copied 56 = .ok (.aload_n 0, 1) := by decide +kernel
theorem dX12_copied_57 : decode cX12_copied 57 = .ok (.bipush 12, 2) := by decide +kernel
theorem dX12_copied_59 : decode cX12_copied 59 = .ok (.invokevirtual 324, 3) := by decide +kernel
theorem dX12_copied_62 : decode cX12_copied 62 = .ok (.ireturn, 1) := by decide +kernel
theorem dX12_copied_63 : decode cX12_copied 63 = .ok (.lconst 0, 1) := by decide +kernel
theorem dX12_copied_64 : decode cX12_copied 64 = .ok (.lstore_n 3, 1) := by decide +kernel
theorem dX12_copied_65 : decode cX12_copied 65 = .ok (.iconst 0, 1) := by decide +kernel
theorem dX12_copied_66 : decode cX12_copied 66 = .ok (.istore 5, 2) := by decide +kernel
theorem dX12_copied_68 : decode cX12_copied 68 = .ok (.iload 5, 2) := by decide +kernel
theorem dX12_copied_70 : decode cX12_copied 70 = .ok (.iload_n 2, 1) := by decide +kernel
theorem dX12_copied_71 : decode cX12_copied 71 = .ok (.if_icmp .ge 26, 3) := by decide +kernel
theorem dX12_copied_74 : decode cX12_copied 74 = .ok (.lload_n 3, 1) := by decide +kernel
theorem dX12_copied_75 : decode cX12_copied 75 = .ok (.aload_n 0, 1) := by decide +kernel
theorem dX12_copied_76 : decode cX12_copied 76 = .ok (.getfield 145, 3) := by decide +kernel
theorem dX12_copied_79 : decode cX12_copied 79 = .ok (.bipush 20, 2) := by decide +kernel
theorem dX12_copied_81 : decode cX12_copied 81 = .ok (.iload_n 1, 1) := by decide +kernel
theorem dX12_copied_82 : decode cX12_copied 82 = .ok (.imul, 1) := by decide +kernel
theorem dX12_copied_83 : decode cX12_copied 83 = .ok (.iconst 1, 1) := by decide +kernel
theorem dX12_copied_84 : decode cX12_copied 84 = .ok (.iadd, 1) := by decide +kernel
theorem dX12_copied_85 : decode cX12_copied 85 = .ok (.iload 5, 2) := by decide +kernel
theorem dX12_copied_87 : decode cX12_copied 87 = .ok (.iadd, 1) := by decide +kernel
theorem dX12_copied_88 : decode cX12_copied 88 = .ok (.laload, 1) := by decide +kernel
theorem dX12_copied_89 : decode cX12_copied 89 = .ok (.ladd, 1) := by decide +kernel
theorem dX12_copied_90 : decode cX12_copied 90 = .ok (.lstore_n 3, 1) := by decide +kernel
theorem dX12_copied_91 : decode cX12_copied 91 = .ok (.iinc 5 1, 3) := by decide +kernel
theorem dX12_copied_94 : decode cX12_copied 94 = .ok (.goto (-26), 3) := by decide +kernel
theorem dX12_copied_97 : decode cX12_copied 97 = .ok (.aload_n 0, 1) := by decide +kernel
theorem dX12_copied_98 : decode cX12_copied 98 = .ok (.lload_n 3, 1) := by decide +kernel
theorem dX12_copied_99 : decode cX12_copied 99 = .ok (.l2i, 1) := by decide +kernel
theorem dX12_copied_100 : decode cX12_copied 100 = .ok (.invokevirtual 327, 3) := by decide +kernel
theorem dX12_copied_103 : decode cX12_copied 103 = .ok (.ireturn, 1) := by decide +kernel
theorem dX12_laid_0 : decode cX12_laid 0 = .ok (.aload_n 0, 1) := by decide +kernel
theorem dX12_laid_1 : decode cX12_laid 1 = .ok (.getfield 136, 3) := by decide +kernel
theorem dX12_laid_4 : decode cX12_laid 4 = .ok (.iload_n 1, 1) := by decide +kernel
theorem dX12_laid_5 : decode cX12_laid 5 = .ok (.iaload, 1) := by decide +kernel
theorem dX12_laid_6 : decode cX12_laid 6 = .ok (.istore_n 2, 1) := by decide +kernel
theorem dX12_laid_7 : decode cX12_laid 7 = .ok (.iload_n 2, 1) := by decide +kernel
theorem dX12_laid_8 : decode cX12_laid 8 = .ok (.ifCond .ne 9, 3) := by decide +kernel
theorem dX12_laid_11 : decode cX12_laid 11 = .ok (.aload_n 0, 1) := by decide +kernel
theorem dX12_laid_12 : decode cX12_laid 12 = .ok (.iconst 0, 1) := by decide +kernel
theorem dX12_laid_13 : decode cX12_laid 13 = .ok (.invokevirtual 327, 3) := by decide +kernel
theorem dX12_laid_16 : decode cX12_laid 16 = .ok (.ireturn, 1) := by decide +kernel
theorem dX12_laid_17 : decode cX12_laid 17 = .ok (.iload_n 2, 1) := by decide +kernel
theorem dX12_laid_18 : decode cX12_laid 18 = .ok (.iconst 1, 1) := by decide +kernel
theorem dX12_laid_19 : decode cX12_laid 19 = .ok (.if_icmp .ne 21, 3) := by decide +kernel
theorem dX12_laid_22 : decode cX12_laid 22 = .ok (.aload_n 0, 1) := by decide +kernel
theorem dX12_laid_23 : decode cX12_laid 23 = .ok (.getfield 32, 3) := by decide +kernel
theorem dX12_laid_26 : decode cX12_laid 26 = .ok (.aload_n 0, 1) := by decide +kernel
theorem dX12_laid_27 : decode cX12_laid 27 = .ok (.getfield 139, 3) := by decide +kernel
theorem dX12_laid_30 : decode cX12_laid 30 = .ok (.iload_n 1, 1) := by decide +kernel
theorem dX12_laid_31 : decode cX12_laid 31 = .ok (.iaload, 1) := by decide +kernel
theorem dX12_laid_32 : decode cX12_laid 32 = .ok (.iaload, 1) := by decide +kernel
theorem dX12_laid_33 : decode cX12_laid 33 = .ok (.iconst 1, 1) := by decide +kernel
theorem dX12_laid_34 : decode cX12_laid 34 = .ok (.invokestatic 330, 3) := by decide +kernel
theorem dX12_laid_37 : decode cX12_laid 37 = .ok (.ifCond .ne 10, 3) := by decide +kernel
theorem dX12_laid_40 : decode cX12_laid 40 = .ok (.aload_n 0, 1) := by decide +kernel
theorem dX12_laid_41 : decode cX12_laid 41 = .ok (.bipush 14, 2) := by decide +kernel
theorem dX12_laid_43 : decode cX12_laid 43 = .ok (.invokevirtual 324, 3) := by decide +kernel
theorem dX12_laid_46 : decode cX12_laid 46 = .ok (.ireturn, 1) := by decide +kernel
theorem dX12_laid_47 : decode cX12_laid 47 = .ok (.aload_n 0, 1) := by decide +kernel
theorem dX12_laid_48 : decode cX12_laid 48 = .ok (.aload_n 0, 1) := by decide +kernel
theorem dX12_laid_49 : decode cX12_laid 49 = .ok (.getfield 35, 3) := by decide +kernel
theorem dX12_laid_52 : decode cX12_laid 52 = .ok (.aload_n 0, 1) := by decide +kernel
theorem dX12_laid_53 : decode cX12_laid 53 = .ok (.getfield 139, 3) := by decide +kernel
theorem dX12_laid_56 : decode cX12_laid 56 = .ok (.iload_n 1, 1) := by decide +kernel
theorem dX12_laid_57 : decode cX12_laid 57 = .ok (.iaload, 1) := by decide +kernel
theorem dX12_laid_58 : decode cX12_laid 58 = .ok (.iaload, 1) := by decide +kernel
theorem dX12_laid_59 : decode cX12_laid 59 = .ok (.invokevirtual 327, 3) := by decide +kernel
theorem dX12_laid_62 : decode cX12_laid 62 = .ok (.ireturn, 1) := by decide +kernel
theorem dX12_forge_0 : decode cX12_forge 0 = .ok (.iload_n 1, 1) := by decide +kernel
theorem dX12_forge_1 : decode cX12_forge 1 = .ok (.iconst 0, 1) := by decide +kernel
theorem dX12_forge_2 : decode cX12_forge 2 = .ok (.iconst 5, 1) := by decide +kernel
theorem dX12_forge_3 : decode cX12_forge 3 = .ok (.invokestatic 153, 3) := by decide +kernel
theorem dX12_forge_6 : decode cX12_forge 6 = .ok (.ifCond .eq 24, 3) := by decide +kernel
theorem dX12_forge_9 : decode cX12_forge 9 = .ok (.iload_n 2, 1) := by decide +kernel
theorem dX12_forge_10 : decode cX12_forge 10 = .ok (.iconst 0, 1) := by decide +kernel
theorem dX12_forge_11 : decode cX12_forge 11 = .ok (.bipush 8, 2) := by decide +kernel
theorem dX12_forge_13 : decode cX12_forge 13 = .ok (.invokestatic 153, 3) := by decide +kernel
theorem dX12_forge_16 : decode cX12_forge 16 = .ok (.ifCond .eq 14, 3) := by decide +kernel
theorem dX12_forge_19 : decode cX12_forge 19 = .ok (.iload_n 3, 1) := by decide +kernel
theorem dX12_forge_20 : decode cX12_forge 20 = .ok (.bipush (-100), 2) := by decide +kernel
theorem dX12_forge_22 : decode cX12_forge 22 = .ok (.bipush 100, 2) := by decide +kernel
theorem dX12_forge_24 : decode cX12_forge 24 = .ok (.invokestatic 153, 3) := by decide +kernel
theorem dX12_forge_27 : decode cX12_forge 27 = .ok (.ifCond .ne 9, 3) := by decide +kernel
theorem dX12_forge_30 : decode cX12_forge 30 = .ok (.aload_n 0, 1) := by decide +kernel
theorem dX12_forge_31 : decode cX12_forge 31 = .ok (.iconst 1, 1) := by decide +kernel
theorem dX12_forge_32 : decode cX12_forge 32 = .ok (.invokevirtual 324, 3) := by decide +kernel
theorem dX12_forge_35 : decode cX12_forge 35 = .ok (.ireturn, 1) := by decide +kernel
theorem dX12_forge_36 : decode cX12_forge 36 = .ok (.iload_n 2, 1) := by decide +kernel
theorem dX12_forge_37 : decode cX12_forge 37 = .ok (.tableswitch 132 0 7 #[47, 54, 61, 69, 77, 96, 103, 109], 47) := by decide +kernel
theorem dX12_forge_84 : decode cX12_forge 84 = .ok (.aload_n 0, 1) := by decide +kernel
theorem dX12_forge_85 : decode cX12_forge 85 = .ok (.iload_n 1, 1) := by decide +kernel
theorem dX12_forge_86 : decode cX12_forge 86 = .ok (.iload_n 3, 1) := by decide +kernel
theorem dX12_forge_87 : decode cX12_forge 87 = .ok (.invokevirtual 333, 3) := by decide +kernel
theorem dX12_forge_90 : decode cX12_forge 90 = .ok (.ireturn, 1) := by decide +kernel
theorem dX12_forge_91 : decode cX12_forge 91 = .ok (.aload_n 0, 1) := by decide +kernel
theorem dX12_forge_92 : decode cX12_forge 92 = .ok (.iload_n 1, 1) := by decide +kernel
theorem dX12_forge_93 : decode cX12_forge 93 = .ok (.iload_n 3, 1) := by decide +kernel
theorem dX12_forge_94 : decode cX12_forge 94 = .ok (.invokevirtual 336, 3) := by decide +kernel
theorem dX12_forge_97 : decode cX12_forge 97 = .ok (.ireturn, 1) := by decide +kernel
theorem dX12_forge_98 : decode cX12_forge 98 = .ok (.aload_n 0, 1) := by decide +kernel
theorem dX12_forge_99 : decode cX12_forge 99 = .ok (.iload_n 1, 1) := by decide +kernel
theorem dX12_forge_100 : decode cX12_forge 100 = .ok (.iconst 3, 1) := by decide +kernel
theorem dX12_forge_101 : decode cX12_forge 101 = .ok (.iload_n 3, 1) := by decide +kernel
theorem dX12_forge_102 : decode cX12_forge 102 = .ok (.invokevirtual 339, 3) := by decide +kernel
theorem dX12_forge_105 : decode cX12_forge 105 = .ok (.ireturn, 1) := by decide +kernel
theorem dX12_forge_106 : decode cX12_forge 106 = .ok (.aload_n 0, 1) := by decide +kernel
theorem dX12_forge_107 : decode cX12_forge 107 = .ok (.iload_n 1, 1) := by decide +kernel
theorem dX12_forge_108 : decode cX12_forge 108 = .ok (.iconst 4, 1) := by decide +kernel
theorem dX12_forge_109 : decode cX12_forge 109 = .ok (.iload_n 3, 1) := by decide +kernel
theorem dX12_forge_110 : decode cX12_forge 110 = .ok (.invokevirtual 339, 3) := by decide +kernel
theorem dX12_forge_113 : decode cX12_forge 113 = .ok (.ireturn, 1) := by decide +kernel
theorem dX12_forge_114 : decode cX12_forge 114 = .ok (.iload_n 3, 1) := by decide +kernel
theorem dX12_forge_115 : decode cX12_forge 115 = .ok (.ifCond .ge 12, 3) := by decide +kernel
theorem dX12_forge_118 : decode cX12_forge 118 = .ok (.aload_n 0, 1) := by decide +kernel
theorem dX12_forge_119 : decode cX12_forge 119 = .ok (.bipush 13, 2) := by decide +kernel
theorem dX12_forge_121 : decode cX12_forge 121 = .ok (.invokevirtual 324, 3) := by decide +kernel
theorem dX12_forge_124 : decode cX12_forge 124 = .ok (.goto 8, 3) := by decide +kernel
theorem dX12_forge_127 : decode cX12_forge 127 = .ok (.aload_n 0, 1) := by decide +kernel
theorem dX12_forge_128 : decode cX12_forge 128 = .ok (.iload_n 3, 1) := by decide +kernel
theorem dX12_forge_129 : decode cX12_forge 129 = .ok (.invokevirtual 327, 3) := by decide +kernel
theorem dX12_forge_132 : decode cX12_forge 132 = .ok (.ireturn, 1) := by decide +kernel
theorem dX12_forge_133 : decode cX12_forge 133 = .ok (.aload_n 0, 1) := by decide +kernel
theorem dX12_forge_134 : decode cX12_forge 134 = .ok (.iload_n 1, 1) := by decide +kernel
theorem dX12_forge_135 : decode cX12_forge 135 = .ok (.iload_n 3, 1) := by decide +kernel
theorem dX12_forge_136 : decode cX12_forge 136 = .ok (.invokevirtual 343, 3) := by decide +kernel
theorem dX12_forge_139 : decode cX12_forge 139 = .ok (.ireturn, 1) := by decide +kernel
theorem dX12_forge_140 : decode cX12_forge 140 = .ok (.aload_n 0, 1) := by decide +kernel
theorem dX12_forge_141 : decode cX12_forge 141 = .ok (.iload_n 1, 1) := by decide +kernel
theorem dX12_forge_142 : decode cX12_forge 142 = .ok (.invokevirtual 346, 3) := by decide +kernel
theorem dX12_forge_145 : decode cX12_forge 145 = .ok (.ireturn, 1) := by decide +kernel
theorem dX12_forge_146 : decode cX12_forge 146 = .ok (.iload_n 3, 1) := by decide +kernel
theorem dX12_forge_147 : decode cX12_forge 147 = .ok (.ifCond .ne 12, 3) := by decide +kernel
theorem dX12_forge_150 : decode cX12_forge 150 = .ok (.aload_n 0, 1) := by decide +kernel
theorem dX12_forge_151 : decode cX12_forge 151 = .ok (.bipush 15, 2) := by decide +kernel
theorem dX12_forge_153 : decode cX12_forge 153 = .ok (.invokevirtual 324, 3) := by decide +kernel
theorem dX12_forge_156 : decode cX12_forge 156 = .ok (.goto 12, 3) := by decide +kernel
theorem dX12_forge_159 : decode cX12_forge 159 = .ok (.aload_n 0, 1) := by decide +kernel
theorem dX12_forge_160 : decode cX12_forge 160 = .ok (.sipush 1000, 3) := by decide +kernel
theorem dX12_forge_163 : decode cX12_forge 163 = .ok (.iload_n 3, 1) := by decide +kernel
theorem dX12_forge_164 : decode cX12_forge 164 = .ok (.idiv, 1) := by decide +kernel
theorem dX12_forge_165 : decode cX12_forge 165 = .ok (.invokevirtual 327, 3) := by decide +kernel
theorem dX12_forge_168 : decode cX12_forge 168 = .ok (.ireturn, 1) := by decide +kernel
theorem dX12_forge_169 : decode cX12_forge 169 = .ok (.aload_n 0, 1) := by decide +kernel
theorem dX12_forge_170 : decode cX12_forge 170 = .ok (.bipush 10, 2) := by decide +kernel
theorem dX12_forge_172 : decode cX12_forge 172 = .ok (.invokevirtual 324, 3) := by decide +kernel
theorem dX12_forge_175 : decode cX12_forge 175 = .ok (.ireturn, 1) := by decide +kernel
theorem dX12_status_0 : decode cX12_status 0 = .ok (.aload_n 0, 1) := by decide +kernel
theorem dX12_status_1 : decode cX12_status 1 = .ok (.getfield 321, 3) := by decide +kernel
theorem dX12_status_4 : decode cX12_status 4 = .ok (.ireturn, 1) := by decide +kernel
