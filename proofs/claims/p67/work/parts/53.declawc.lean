theorem dL_night_0 : decode cL_night 0 = .ok (.aload_n 0, 1) := by decide +kernel
theorem dL_night_1 : decode cL_night 1 = .ok (.invokevirtual 214, 3) := by decide +kernel
theorem dL_night_4 : decode cL_night 4 = .ok (.sipush 999, 3) := by decide +kernel
theorem dL_night_7 : decode cL_night 7 = .ok (.if_icmp .ne 21, 3) := by decide +kernel
theorem dL_night_10 : decode cL_night 10 = .ok (.aload_n 0, 1) := by decide +kernel
theorem dL_night_11 : decode cL_night 11 = .ok (.bipush 8, 2) := by decide +kernel
theorem dL_night_13 : decode cL_night 13 = .ok (.iconst 1, 1) := by decide +kernel
theorem dL_night_14 : decode cL_night 14 = .ok (.invokestatic 174, 3) := by decide +kernel
theorem dL_night_17 : decode cL_night 17 = .ok (.bipush (-102), 2) := by decide +kernel
theorem dL_night_19 : decode cL_night 19 = .ok (.if_icmp .ne 7, 3) := by decide +kernel
theorem dL_night_22 : decode cL_night 22 = .ok (.iconst 1, 1) := by decide +kernel
theorem dL_night_23 : decode cL_night 23 = .ok (.goto 4, 3) := by decide +kernel
theorem dL_night_26 : decode cL_night 26 = .ok (.iconst 0, 1) := by decide +kernel
theorem dL_night_27 : decode cL_night 27 = .ok (.ireturn, 1) := by decide +kernel
theorem dL_night_28 : decode cL_night 28 = .ok (.aload_n 0, 1) := by decide +kernel
theorem dL_night_29 : decode cL_night 29 = .ok (.invokestatic 279, 3) := by decide +kernel
theorem dL_night_32 : decode cL_night 32 = .ok (.lstore_n 1, 1) := by decide +kernel
theorem dL_night_33 : decode cL_night 33 = .ok (.aload_n 0, 1) := by decide +kernel
theorem dL_night_34 : decode cL_night 34 = .ok (.invokevirtual 246, 3) := by decide +kernel
theorem dL_night_37 : decode cL_night 37 = .ok (.istore_n 3, 1) := by decide +kernel
theorem dL_night_38 : decode cL_night 38 = .ok (.aload_n 0, 1) := by decide +kernel
theorem dL_night_39 : decode cL_night 39 = .ok (.invokevirtual 214, 3) := by decide +kernel
theorem dL_night_42 : decode cL_night 42 = .ok (.istore 4, 2) := by decide +kernel
theorem dL_night_44 : decode cL_night 44 = .ok (.aload_n 0, 1) := by decide +kernel
theorem dL_night_45 : decode cL_night 45 = .ok (.invokevirtual 283, 3) := by decide +kernel
theorem dL_night_48 : decode cL_night 48 = .ok (.istore 5, 2) := by decide +kernel
theorem dL_night_50 : decode cL_night 50 = .ok (.aload_n 0, 1) := by decide +kernel
theorem dL_night_51 : decode cL_night 51 = .ok (.invokevirtual 256, 3) := by decide +kernel
theorem dL_night_54 : decode cL_night 54 = .ok (.istore 6, 2) := by decide +kernel
theorem dL_night_56 : decode cL_night 56 = .ok (.aload_n 0, 1) := by decide +kernel
theorem dL_night_57 : decode cL_night 57 = .ok (.invokevirtual 217, 3) := by decide +kernel
theorem dL_night_60 : decode cL_night 60 = .ok (.istore 7, 2) := by decide +kernel
theorem dL_night_62 : decode cL_night 62 = .ok (.aload_n 0, 1) := by decide +kernel
theorem dL_night_63 : decode cL_night 63 = .ok (.invokevirtual 262, 3) := by decide +kernel
theorem dL_night_66 : decode cL_night 66 = .ok (.aload_n 0, 1) := by decide +kernel
theorem dL_night_67 : decode cL_night 67 = .ok (.invokevirtual 265, 3) := by decide +kernel
theorem dL_night_70 : decode cL_night 70 = .ok (.iadd, 1) := by decide +kernel
theorem dL_night_71 : decode cL_night 71 = .ok (.istore 8, 2) := by decide +kernel
theorem dL_night_73 : decode cL_night 73 = .ok (.bipush 24, 2) := by decide +kernel
theorem dL_night_75 : decode cL_night 75 = .ok (.newarray .int, 2) := by decide +kernel
theorem dL_night_77 : decode cL_night 77 = .ok (.astore 9, 2) := by decide +kernel
theorem dL_night_79 : decode cL_night 79 = .ok (.bipush 24, 2) := by decide +kernel
theorem dL_night_81 : decode cL_night 81 = .ok (.newarray .int, 2) := by decide +kernel
theorem dL_night_83 : decode cL_night 83 = .ok (.astore 10, 2) := by decide +kernel
theorem dL_night_85 : decode cL_night 85 = .ok (.iconst 5, 1) := by decide +kernel
theorem dL_night_86 : decode cL_night 86 = .ok (.newarray .int, 2) := by decide +kernel
theorem dL_night_88 : decode cL_night 88 = .ok (.astore 11, 2) := by decide +kernel
theorem dL_night_90 : decode cL_night 90 = .ok (.aload_n 0, 1) := by decide +kernel
theorem dL_night_91 : decode cL_night 91 = .ok (.bipush 8, 2) := by decide +kernel
theorem dL_night_93 : decode cL_night 93 = .ok (.iconst 0, 1) := by decide +kernel
theorem dL_night_94 : decode cL_night 94 = .ok (.invokestatic 174, 3) := by decide +kernel
theorem dL_night_97 : decode cL_night 97 = .ok (.bipush (-103), 2) := by decide +kernel
theorem dL_night_99 : decode cL_night 99 = .ok (.if_icmp .ne 29, 3) := by decide +kernel
theorem dL_night_102 : decode cL_night 102 = .ok (.aload_n 0, 1) := by decide +kernel
theorem dL_night_103 : decode cL_night 103 = .ok (.bipush 8, 2) := by decide +kernel
theorem dL_night_105 : decode cL_night 105 = .ok (.bipush 61, 2) := by decide +kernel
theorem dL_night_107 : decode cL_night 107 = .ok (.invokestatic 174, 3) := by decide +kernel
theorem dL_night_110 : decode cL_night 110 = .ok (.bipush (-103), 2) := by decide +kernel
theorem dL_night_112 : decode cL_night 112 = .ok (.if_icmp .ne 16, 3) := by decide +kernel
theorem dL_night_115 : decode cL_night 115 = .ok (.aload_n 0, 1) := by decide +kernel
theorem dL_night_116 : decode cL_night 116 = .ok (.invokestatic 279, 3) := by decide +kernel
theorem dL_night_119 : decode cL_night 119 = .ok (.lload_n 1, 1) := by decide +kernel
theorem dL_night_120 : decode cL_night 120 = .ok (.lcmp, 1) := by decide +kernel
theorem dL_night_121 : decode cL_night 121 = .ok (.ifCond .ne 7, 3) := by decide +kernel
theorem dL_night_124 : decode cL_night 124 = .ok (.iconst 1, 1) := by decide +kernel
theorem dL_night_125 : decode cL_night 125 = .ok (.goto 4, 3) := by decide +kernel
theorem dL_night_128 : decode cL_night 128 = .ok (.iconst 0, 1) := by decide +kernel
theorem dL_night_129 : decode cL_night 129 = .ok (.istore 12, 2) := by decide +kernel
theorem dL_night_131 : decode cL_night 131 = .ok (.iconst 0, 1) := by decide +kernel
theorem dL_night_132 : decode cL_night 132 = .ok (.istore 13, 2) := by decide +kernel
theorem dL_night_134 : decode cL_night 134 = .ok (.iload 13, 2) := by decide +kernel
theorem dL_night_136 : decode cL_night 136 = .ok (.iload_n 3, 1) := by decide +kernel
theorem dL_night_137 : decode cL_night 137 = .ok (.if_icmp .ge 35, 3) := by decide +kernel
theorem dL_night_140 : decode cL_night 140 = .ok (.aload 9, 2) := by decide +kernel
theorem dL_night_142 : decode cL_night 142 = .ok (.iload 13, 2) := by decide +kernel
theorem dL_night_144 : decode cL_night 144 = .ok (.aload_n 0, 1) := by decide +kernel
theorem dL_night_145 : decode cL_night 145 = .ok (.bipush 27, 2) := by decide +kernel
theorem dL_night_147 : decode cL_night 147 = .ok (.iload 13, 2) := by decide +kernel
theorem dL_night_149 : decode cL_night 149 = .ok (.invokestatic 174, 3) := by decide +kernel
theorem dL_night_152 : decode cL_night 152 = .ok (.iastore, 1) := by decide +kernel
theorem dL_night_153 : decode cL_night 153 = .ok (.aload 10, 2) := by decide +kernel
theorem dL_night_155 : decode cL_night 155 = .ok (.iload 13, 2) := by decide +kernel
theorem dL_night_157 : decode cL_night 157 = .ok (.aload_n 0, 1) := by decide +kernel
theorem dL_night_158 : decode cL_night 158 = .ok (.bipush 25, 2) := by decide +kernel
theorem dL_night_160 : decode cL_night 160 = .ok (.iload 13, 2) := by decide +kernel
theorem dL_night_162 : decode cL_night 162 = .ok (.invokestatic 174, 3) := by decide +kernel
theorem dL_night_165 : decode cL_night 165 = .ok (.iastore, 1) := by decide +kernel
theorem dL_night_166 : decode cL_night 166 = .ok (.iinc 13 1, 3) := by decide +kernel
theorem dL_night_169 : decode cL_night 169 = .ok (.goto (-35), 3) := by decide +kernel
theorem dL_night_172 : decode cL_night 172 = .ok (.iconst 0, 1) := by decide +kernel
theorem dL_night_173 : decode cL_night 173 = .ok (.istore 13, 2) := by decide +kernel
theorem dL_night_175 : decode cL_night 175 = .ok (.iload 13, 2) := by decide +kernel
theorem dL_night_177 : decode cL_night 177 = .ok (.aload_n 0, 1) := by decide +kernel
theorem dL_night_178 : decode cL_night 178 = .ok (.invokevirtual 241, 3) := by decide +kernel
theorem dL_night_181 : decode cL_night 181 = .ok (.if_icmp .ge 22, 3) := by decide +kernel
theorem dL_night_184 : decode cL_night 184 = .ok (.aload 11, 2) := by decide +kernel
theorem dL_night_186 : decode cL_night 186 = .ok (.iload 13, 2) := by decide +kernel
theorem dL_night_188 : decode cL_night 188 = .ok (.aload_n 0, 1) := by decide +kernel
theorem dL_night_189 : decode cL_night 189 = .ok (.bipush 39, 2) := by decide +kernel
theorem dL_night_191 : decode cL_night 191 = .ok (.iload 13, 2) := by decide +kernel
theorem dL_night_193 : decode cL_night 193 = .ok (.invokestatic 174, 3) := by decide +kernel
theorem dL_night_196 : decode cL_night 196 = .ok (.iastore, 1) := by decide +kernel
theorem dL_night_197 : decode cL_night 197 = .ok (.iinc 13 1, 3) := by decide +kernel
theorem dL_night_200 : decode cL_night 200 = .ok (.goto (-25), 3) := by decide +kernel
theorem dL_night_203 : decode cL_night 203 = .ok (.iload 12, 2) := by decide +kernel
theorem dL_night_205 : decode cL_night 205 = .ok (.ifCond .eq 30, 3) := by decide +kernel
theorem dL_night_208 : decode cL_night 208 = .ok (.aload_n 0, 1) := by decide +kernel
theorem dL_night_209 : decode cL_night 209 = .ok (.bipush 8, 2) := by decide +kernel
theorem dL_night_211 : decode cL_night 211 = .ok (.iconst 1, 1) := by decide +kernel
theorem dL_night_212 : decode cL_night 212 = .ok (.invokestatic 174, 3) := by decide +kernel
theorem dL_night_215 : decode cL_night 215 = .ok (.iload 5, 2) := by decide +kernel
theorem dL_night_217 : decode cL_night 217 = .ok (.if_icmp .ne 18, 3) := by decide +kernel
theorem dL_night_220 : decode cL_night 220 = .ok (.aload_n 0, 1) := by decide +kernel
theorem dL_night_221 : decode cL_night 221 = .ok (.invokevirtual 214, 3) := by decide +kernel
theorem dL_night_224 : decode cL_night 224 = .ok (.iload 4, 2) := by decide +kernel
theorem dL_night_226 : decode cL_night 226 = .ok (.iconst 1, 1) := by decide +kernel
theorem dL_night_227 : decode cL_night 227 = .ok (.iadd, 1) := by decide +kernel
theorem dL_night_228 : decode cL_night 228 = .ok (.if_icmp .ne 7, 3) := by decide +kernel
theorem dL_night_231 : decode cL_night 231 = .ok (.iconst 1, 1) := by decide +kernel
theorem dL_night_232 : decode cL_night 232 = .ok (.goto 4, 3) := by decide +kernel
theorem dL_night_235 : decode cL_night 235 = .ok (.iconst 0, 1) := by decide +kernel
theorem dL_night_236 : decode cL_night 236 = .ok (.istore 12, 2) := by decide +kernel
theorem dL_night_238 : decode cL_night 238 = .ok (.iconst 5, 1) := by decide +kernel
theorem dL_night_239 : decode cL_night 239 = .ok (.newarray .int, 2) := by decide +kernel
theorem dL_night_241 : decode cL_night 241 = .ok (.astore 13, 2) := by decide +kernel
theorem dL_night_243 : decode cL_night 243 = .ok (.iconst 0, 1) := by decide +kernel
theorem dL_night_244 : decode cL_night 244 = .ok (.istore 14, 2) := by decide +kernel
theorem dL_night_246 : decode cL_night 246 = .ok (.iload 14, 2) := by decide +kernel
theorem dL_night_248 : decode cL_night 248 = .ok (.iload_n 3, 1) := by decide +kernel
theorem dL_night_249 : decode cL_night 249 = .ok (.if_icmp .ge 318, 3) := by decide +kernel
theorem dL_night_252 : decode cL_night 252 = .ok (.iload 12, 2) := by decide +kernel
theorem dL_night_254 : decode cL_night 254 = .ok (.ifCond .eq 313, 3) := by decide +kernel
theorem dL_night_257 : decode cL_night 257 = .ok (.iload 4, 2) := by decide +kernel
theorem dL_night_259 : decode cL_night 259 = .ok (.iconst 1, 1) := by decide +kernel
theorem dL_night_260 : decode cL_night 260 = .ok (.iadd, 1) := by decide +kernel
theorem dL_night_261 : decode cL_night 261 = .ok (.aload_n 0, 1) := by decide +kernel
theorem dL_night_262 : decode cL_night 262 = .ok (.bipush 26, 2) := by decide +kernel
theorem dL_night_264 : decode cL_night 264 = .ok (.iload 14, 2) := by decide +kernel
theorem dL_night_266 : decode cL_night 266 = .ok (.invokestatic 174, 3) := by decide +kernel
theorem dL_night_269 : decode cL_night 269 = .ok (.isub, 1) := by decide +kernel
theorem dL_night_270 : decode cL_night 270 = .ok (.istore 15, 2) := by decide +kernel
theorem dL_night_272 : decode cL_night 272 = .ok (.aload 9, 2) := by decide +kernel
theorem dL_night_274 : decode cL_night 274 = .ok (.iload 14, 2) := by decide +kernel
theorem dL_night_276 : decode cL_night 276 = .ok (.iaload, 1) := by decide +kernel
theorem dL_night_277 : decode cL_night 277 = .ok (.ifCond .ne 40, 3) := by decide +kernel
theorem dL_night_280 : decode cL_night 280 = .ok (.aload_n 0, 1) := by decide +kernel
theorem dL_night_281 : decode cL_night 281 = .ok (.bipush 27, 2) := by decide +kernel
theorem dL_night_283 : decode cL_night 283 = .ok (.iload 14, 2) := by decide +kernel
theorem dL_night_285 : decode cL_night 285 = .ok (.invokestatic 174, 3) := by decide +kernel
theorem dL_night_288 : decode cL_night 288 = .ok (.ifCond .ne 23, 3) := by decide +kernel
theorem dL_night_291 : decode cL_night 291 = .ok (.aload_n 0, 1) := by decide +kernel
theorem dL_night_292 : decode cL_night 292 = .ok (.bipush 25, 2) := by decide +kernel
theorem dL_night_294 : decode cL_night 294 = .ok (.iload 14, 2) := by decide +kernel
theorem dL_night_296 : decode cL_night 296 = .ok (.invokestatic 174, 3) := by decide +kernel
theorem dL_night_299 : decode cL_night 299 = .ok (.aload 10, 2) := by decide +kernel
theorem dL_night_301 : decode cL_night 301 = .ok (.iload 14, 2) := by decide +kernel
theorem dL_night_303 : decode cL_night 303 = .ok (.iaload, 1) := by decide +kernel
theorem dL_night_304 : decode cL_night 304 = .ok (.if_icmp .ne 7, 3) := by decide +kernel
theorem dL_night_307 : decode cL_night 307 = .ok (.iconst 1, 1) := by decide +kernel
theorem dL_night_308 : decode cL_night 308 = .ok (.goto 4, 3) := by decide +kernel
theorem dL_night_311 : decode cL_night 311 = .ok (.iconst 0, 1) := by decide +kernel
theorem dL_night_312 : decode cL_night 312 = .ok (.istore 12, 2) := by decide +kernel
theorem dL_night_314 : decode cL_night 314 = .ok (.goto 247, 3) := by decide +kernel
theorem dL_night_317 : decode cL_night 317 = .ok (.aload_n 0, 1) := by decide +kernel
theorem dL_night_318 : decode cL_night 318 = .ok (.bipush 32, 2) := by decide +kernel
theorem dL_night_320 : decode cL_night 320 = .ok (.iload 14, 2) := by decide +kernel
theorem dL_night_322 : decode cL_night 322 = .ok (.invokestatic 174, 3) := by decide +kernel
theorem dL_night_325 : decode cL_night 325 = .ok (.istore 16, 2) := by decide +kernel
theorem dL_night_327 : decode cL_night 327 = .ok (.iload 16, 2) := by decide +kernel
theorem dL_night_329 : decode cL_night 329 = .ok (.ifCond .lt 12, 3) := by decide +kernel
theorem dL_night_332 : decode cL_night 332 = .ok (.aload 13, 2) := by decide +kernel
theorem dL_night_334 : decode cL_night 334 = .ok (.iload 16, 2) := by decide +kernel
theorem dL_night_336 : decode cL_night 336 = .ok (.dup2, 1) := by decide +kernel
theorem dL_night_337 : decode cL_night 337 = .ok (.iaload, 1) := by decide +kernel
theorem dL_night_338 : decode cL_night 338 = .ok (.iconst 1, 1) := by decide +kernel
theorem dL_night_339 : decode cL_night 339 = .ok (.iadd, 1) := by decide +kernel
theorem dL_night_340 : decode cL_night 340 = .ok (.iastore, 1) := by decide +kernel
theorem dL_night_341 : decode cL_night 341 = .ok (.aload_n 0, 1) := by decide +kernel
theorem dL_night_342 : decode cL_night 342 = .ok (.bipush 28, 2) := by decide +kernel
theorem dL_night_344 : decode cL_night 344 = .ok (.iload 14, 2) := by decide +kernel
theorem dL_night_346 : decode cL_night 346 = .ok (.invokestatic 174, 3) := by decide +kernel
theorem dL_night_349 : decode cL_night 349 = .ok (.iconst 1, 1) := by decide +kernel
theorem dL_night_350 : decode cL_night 350 = .ok (.if_icmp .ne 62, 3) := by decide +kernel
theorem dL_night_353 : decode cL_night 353 = .ok (.aload_n 0, 1) := by decide +kernel
theorem dL_night_354 : decode cL_night 354 = .ok (.bipush 20, 2) := by decide +kernel
theorem dL_night_356 : decode cL_night 356 = .ok (.aload_n 0, 1) := by decide +kernel
theorem dL_night_357 : decode cL_night 357 = .ok (.bipush 24, 2) := by decide +kernel
theorem dL_night_359 : decode cL_night 359 = .ok (.iload 14, 2) := by decide +kernel
theorem dL_night_361 : decode cL_night 361 = .ok (.invokestatic 174, 3) := by decide +kernel
theorem dL_night_364 : decode cL_night 364 = .ok (.iload 4, 2) := by decide +kernel
theorem dL_night_366 : decode cL_night 366 = .ok (.invokestatic 249, 3) := by decide +kernel
theorem dL_night_369 : decode cL_night 369 = .ok (.iconst 1, 1) := by decide +kernel
theorem dL_night_370 : decode cL_night 370 = .ok (.if_icmp .ne 36, 3) := by decide +kernel
theorem dL_night_373 : decode cL_night 373 = .ok (.aload_n 0, 1) := by decide +kernel
theorem dL_night_374 : decode cL_night 374 = .ok (.bipush 31, 2) := by decide +kernel
theorem dL_night_376 : decode cL_night 376 = .ok (.iload 14, 2) := by decide +kernel
theorem dL_night_378 : decode cL_night 378 = .ok (.invokestatic 174, 3) := by decide +kernel
theorem dL_night_381 : decode cL_night 381 = .ok (.iload 4, 2) := by decide +kernel
theorem dL_night_383 : decode cL_night 383 = .ok (.if_icmp .ne 23, 3) := by decide +kernel
theorem dL_night_386 : decode cL_night 386 = .ok (.aload_n 0, 1) := by decide +kernel
theorem dL_night_387 : decode cL_night 387 = .ok (.bipush 25, 2) := by decide +kernel
theorem dL_night_389 : decode cL_night 389 = .ok (.iload 14, 2) := by decide +kernel
theorem dL_night_391 : decode cL_night 391 = .ok (.invokestatic 174, 3) := by decide +kernel
theorem dL_night_394 : decode cL_night 394 = .ok (.aload 10, 2) := by decide +kernel
theorem dL_night_396 : decode cL_night 396 = .ok (.iload 14, 2) := by decide +kernel
theorem dL_night_398 : decode cL_night 398 = .ok (.iaload, 1) := by decide +kernel
theorem dL_night_399 : decode cL_night 399 = .ok (.if_icmp .ne 7, 3) := by decide +kernel
theorem dL_night_402 : decode cL_night 402 = .ok (.iconst 1, 1) := by decide +kernel
theorem dL_night_403 : decode cL_night 403 = .ok (.goto 4, 3) := by decide +kernel
theorem dL_night_406 : decode cL_night 406 = .ok (.iconst 0, 1) := by decide +kernel
theorem dL_night_407 : decode cL_night 407 = .ok (.istore 12, 2) := by decide +kernel
theorem dL_night_409 : decode cL_night 409 = .ok (.goto 152, 3) := by decide +kernel
theorem dL_night_412 : decode cL_night 412 = .ok (.aload_n 0, 1) := by decide +kernel
theorem dL_night_413 : decode cL_night 413 = .ok (.bipush 29, 2) := by decide +kernel
theorem dL_night_415 : decode cL_night 415 = .ok (.iload 14, 2) := by decide +kernel
theorem dL_night_417 : decode cL_night 417 = .ok (.invokestatic 174, 3) := by decide +kernel
theorem dL_night_420 : decode cL_night 420 = .ok (.iconst 1, 1) := by decide +kernel
theorem dL_night_421 : decode cL_night 421 = .ok (.if_icmp .ne 49, 3) := by decide +kernel
theorem dL_night_424 : decode cL_night 424 = .ok (.iload 15, 2) := by decide +kernel
theorem dL_night_426 : decode cL_night 426 = .ok (.bipush 14, 2) := by decide +kernel
theorem dL_night_428 : decode cL_night 428 = .ok (.if_icmp .le 36, 3) := by decide +kernel
theorem dL_night_431 : decode cL_night 431 = .ok (.aload_n 0, 1) := by decide +kernel
theorem dL_night_432 : decode cL_night 432 = .ok (.bipush 31, 2) := by decide +kernel
theorem dL_night_434 : decode cL_night 434 = .ok (.iload 14, 2) := by decide +kernel
theorem dL_night_436 : decode cL_night 436 = .ok (.invokestatic 174, 3) := by decide +kernel
theorem dL_night_439 : decode cL_night 439 = .ok (.iload 4, 2) := by decide +kernel
theorem dL_night_441 : decode cL_night 441 = .ok (.if_icmp .ne 23, 3) := by decide +kernel
theorem dL_night_444 : decode cL_night 444 = .ok (.aload_n 0, 1) := by decide +kernel
theorem dL_night_445 : decode cL_night 445 = .ok (.bipush 25, 2) := by decide +kernel
theorem dL_night_447 : decode cL_night 447 = .ok (.iload 14, 2) := by decide +kernel
theorem dL_night_449 : decode cL_night 449 = .ok (.invokestatic 174, 3) := by decide +kernel
theorem dL_night_452 : decode cL_night 452 = .ok (.aload 10, 2) := by decide +kernel
theorem dL_night_454 : decode cL_night 454 = .ok (.iload 14, 2) := by decide +kernel
theorem dL_night_456 : decode cL_night 456 = .ok (.iaload, 1) := by decide +kernel
theorem dL_night_457 : decode cL_night 457 = .ok (.if_icmp .ne 7, 3) := by decide +kernel
theorem dL_night_460 : decode cL_night 460 = .ok (.iconst 1, 1) := by decide +kernel
theorem dL_night_461 : decode cL_night 461 = .ok (.goto 4, 3) := by decide +kernel
theorem dL_night_464 : decode cL_night 464 = .ok (.iconst 0, 1) := by decide +kernel
theorem dL_night_465 : decode cL_night 465 = .ok (.istore 12, 2) := by decide +kernel
theorem dL_night_467 : decode cL_night 467 = .ok (.goto 94, 3) := by decide +kernel
theorem dL_night_470 : decode cL_night 470 = .ok (.aload_n 0, 1) := by decide +kernel
theorem dL_night_471 : decode cL_night 471 = .ok (.bipush 30, 2) := by decide +kernel
theorem dL_night_473 : decode cL_night 473 = .ok (.iload 14, 2) := by decide +kernel
theorem dL_night_475 : decode cL_night 475 = .ok (.invokestatic 174, 3) := by decide +kernel
theorem dL_night_478 : decode cL_night 478 = .ok (.iload 15, 2) := by decide +kernel
theorem dL_night_480 : decode cL_night 480 = .ok (.bipush 56, 2) := by decide +kernel
theorem dL_night_482 : decode cL_night 482 = .ok (.if_icmp .ne 7, 3) := by decide +kernel
theorem dL_night_485 : decode cL_night 485 = .ok (.iconst 1, 1) := by decide +kernel
theorem dL_night_486 : decode cL_night 486 = .ok (.goto 4, 3) := by decide +kernel
theorem dL_night_489 : decode cL_night 489 = .ok (.iconst 0, 1) := by decide +kernel
theorem dL_night_490 : decode cL_night 490 = .ok (.if_icmp .ne 68, 3) := by decide +kernel
theorem dL_night_493 : decode cL_night 493 = .ok (.aload_n 0, 1) := by decide +kernel
theorem dL_night_494 : decode cL_night 494 = .ok (.bipush 25, 2) := by decide +kernel
theorem dL_night_496 : decode cL_night 496 = .ok (.iload 14, 2) := by decide +kernel
theorem dL_night_498 : decode cL_night 498 = .ok (.invokestatic 174, 3) := by decide +kernel
theorem dL_night_501 : decode cL_night 501 = .ok (.iload 15, 2) := by decide +kernel
theorem dL_night_503 : decode cL_night 503 = .ok (.bipush 7, 2) := by decide +kernel
theorem dL_night_505 : decode cL_night 505 = .ok (.irem, 1) := by decide +kernel
theorem dL_night_506 : decode cL_night 506 = .ok (.ifCond .ne 18, 3) := by decide +kernel
theorem dL_night_509 : decode cL_night 509 = .ok (.bipush 9, 2) := by decide +kernel
theorem dL_night_511 : decode cL_night 511 = .ok (.aload 10, 2) := by decide +kernel
theorem dL_night_513 : decode cL_night 513 = .ok (.iload 14, 2) := by decide +kernel
theorem dL_night_515 : decode cL_night 515 = .ok (.iaload, 1) := by decide +kernel
theorem dL_night_516 : decode cL_night 516 = .ok (.iconst 1, 1) := by decide +kernel
theorem dL_night_517 : decode cL_night 517 = .ok (.iadd, 1) := by decide +kernel
theorem dL_night_518 : decode cL_night 518 = .ok (.invokestatic 286, 3) := by decide +kernel
theorem dL_night_521 : decode cL_night 521 = .ok (.goto 8, 3) := by decide +kernel
theorem dL_night_524 : decode cL_night 524 = .ok (.aload 10, 2) := by decide +kernel
theorem dL_night_526 : decode cL_night 526 = .ok (.iload 14, 2) := by decide +kernel
theorem dL_night_528 : decode cL_night 528 = .ok (.iaload, 1) := by decide +kernel
theorem dL_night_529 : decode cL_night 529 = .ok (.if_icmp .ne 29, 3) := by decide +kernel
theorem dL_night_532 : decode cL_night 532 = .ok (.iload 15, 2) := by decide +kernel
theorem dL_night_534 : decode cL_night 534 = .ok (.bipush 56, 2) := by decide +kernel
theorem dL_night_536 : decode cL_night 536 = .ok (.if_icmp .lt 18, 3) := by decide +kernel
theorem dL_night_539 : decode cL_night 539 = .ok (.aload_n 0, 1) := by decide +kernel
theorem dL_night_540 : decode cL_night 540 = .ok (.bipush 31, 2) := by decide +kernel
theorem dL_night_542 : decode cL_night 542 = .ok (.iload 14, 2) := by decide +kernel
theorem dL_night_544 : decode cL_night 544 = .ok (.invokestatic 174, 3) := by decide +kernel
theorem dL_night_547 : decode cL_night 547 = .ok (.iload 4, 2) := by decide +kernel
theorem dL_night_549 : decode cL_night 549 = .ok (.iconst 1, 1) := by decide +kernel
theorem dL_night_550 : decode cL_night 550 = .ok (.iadd, 1) := by decide +kernel
theorem dL_night_551 : decode cL_night 551 = .ok (.if_icmp .ne 7, 3) := by decide +kernel
theorem dL_night_554 : decode cL_night 554 = .ok (.iconst 1, 1) := by decide +kernel
theorem dL_night_555 : decode cL_night 555 = .ok (.goto 4, 3) := by decide +kernel
theorem dL_night_558 : decode cL_night 558 = .ok (.iconst 0, 1) := by decide +kernel
theorem dL_night_559 : decode cL_night 559 = .ok (.istore 12, 2) := by decide +kernel
theorem dL_night_561 : decode cL_night 561 = .ok (.iinc 14 1, 3) := by decide +kernel
theorem dL_night_564 : decode cL_night 564 = .ok (.goto (-318), 3) := by decide +kernel
theorem dL_night_567 : decode cL_night 567 = .ok (.iconst 0, 1) := by decide +kernel
theorem dL_night_568 : decode cL_night 568 = .ok (.istore 14, 2) := by decide +kernel
theorem dL_night_570 : decode cL_night 570 = .ok (.iconst 0, 1) := by decide +kernel
theorem dL_night_571 : decode cL_night 571 = .ok (.istore 15, 2) := by decide +kernel
theorem dL_night_573 : decode cL_night 573 = .ok (.iload 15, 2) := by decide +kernel
theorem dL_night_575 : decode cL_night 575 = .ok (.aload_n 0, 1) := by decide +kernel
theorem dL_night_576 : decode cL_night 576 = .ok (.invokevirtual 241, 3) := by decide +kernel
theorem dL_night_579 : decode cL_night 579 = .ok (.if_icmp .ge 87, 3) := by decide +kernel
theorem dL_night_582 : decode cL_night 582 = .ok (.iload 12, 2) := by decide +kernel
theorem dL_night_584 : decode cL_night 584 = .ok (.ifCond .eq 82, 3) := by decide +kernel
theorem dL_night_587 : decode cL_night 587 = .ok (.iload 14, 2) := by decide +kernel
theorem dL_night_589 : decode cL_night 589 = .ok (.aload 13, 2) := by decide +kernel
theorem dL_night_591 : decode cL_night 591 = .ok (.iload 15, 2) := by decide +kernel
theorem dL_night_593 : decode cL_night 593 = .ok (.iaload, 1) := by decide +kernel
theorem dL_night_594 : decode cL_night 594 = .ok (.iadd, 1) := by decide +kernel
theorem dL_night_595 : decode cL_night 595 = .ok (.istore 14, 2) := by decide +kernel
theorem dL_night_597 : decode cL_night 597 = .ok (.aload 13, 2) := by decide +kernel
theorem dL_night_599 : decode cL_night 599 = .ok (.iload 15, 2) := by decide +kernel
theorem dL_night_601 : decode cL_night 601 = .ok (.iaload, 1) := by decide +kernel
theorem dL_night_602 : decode cL_night 602 = .ok (.iconst 1, 1) := by decide +kernel
theorem dL_night_603 : decode cL_night 603 = .ok (.aload_n 0, 1) := by decide +kernel
theorem dL_night_604 : decode cL_night 604 = .ok (.bipush 38, 2) := by decide +kernel
theorem dL_night_606 : decode cL_night 606 = .ok (.iload 15, 2) := by decide +kernel
theorem dL_night_608 : decode cL_night 608 = .ok (.invokestatic 174, 3) := by decide +kernel
theorem dL_night_611 : decode cL_night 611 = .ok (.iconst 3, 1) := by decide +kernel
theorem dL_night_612 : decode cL_night 612 = .ok (.idiv, 1) := by decide +kernel
theorem dL_night_613 : decode cL_night 613 = .ok (.iadd, 1) := by decide +kernel
theorem dL_night_614 : decode cL_night 614 = .ok (.if_icmp .gt 43, 3) := by decide +kernel
theorem dL_night_617 : decode cL_night 617 = .ok (.aload_n 0, 1) := by decide +kernel
theorem dL_night_618 : decode cL_night 618 = .ok (.bipush 39, 2) := by decide +kernel
theorem dL_night_620 : decode cL_night 620 = .ok (.iload 15, 2) := by decide +kernel
theorem dL_night_622 : decode cL_night 622 = .ok (.invokestatic 174, 3) := by decide +kernel
theorem dL_night_625 : decode cL_night 625 = .ok (.aload 11, 2) := by decide +kernel
theorem dL_night_627 : decode cL_night 627 = .ok (.iload 15, 2) := by decide +kernel
theorem dL_night_629 : decode cL_night 629 = .ok (.iaload, 1) := by decide +kernel
theorem dL_night_630 : decode cL_night 630 = .ok (.iload 6, 2) := by decide +kernel
theorem dL_night_632 : decode cL_night 632 = .ok (.aload 13, 2) := by decide +kernel
theorem dL_night_634 : decode cL_night 634 = .ok (.iload 15, 2) := by decide +kernel
theorem dL_night_636 : decode cL_night 636 = .ok (.iaload, 1) := by decide +kernel
theorem dL_night_637 : decode cL_night 637 = .ok (.imul, 1) := by decide +kernel
theorem dL_night_638 : decode cL_night 638 = .ok (.isub, 1) := by decide +kernel
theorem dL_night_639 : decode cL_night 639 = .ok (.if_icmp .ne 18, 3) := by decide +kernel
theorem dL_night_642 : decode cL_night 642 = .ok (.aload_n 0, 1) := by decide +kernel
theorem dL_night_643 : decode cL_night 643 = .ok (.bipush 39, 2) := by decide +kernel
theorem dL_night_645 : decode cL_night 645 = .ok (.iload 15, 2) := by decide +kernel
theorem dL_night_647 : decode cL_night 647 = .ok (.invokestatic 174, 3) := by decide +kernel
theorem dL_night_650 : decode cL_night 650 = .ok (.ifCond .lt 7, 3) := by decide +kernel
theorem dL_night_653 : decode cL_night 653 = .ok (.iconst 1, 1) := by decide +kernel
theorem dL_night_654 : decode cL_night 654 = .ok (.goto 4, 3) := by decide +kernel
theorem dL_night_657 : decode cL_night 657 = .ok (.iconst 0, 1) := by decide +kernel
theorem dL_night_658 : decode cL_night 658 = .ok (.istore 12, 2) := by decide +kernel
theorem dL_night_660 : decode cL_night 660 = .ok (.iinc 15 1, 3) := by decide +kernel
theorem dL_night_663 : decode cL_night 663 = .ok (.goto (-90), 3) := by decide +kernel
theorem dL_night_666 : decode cL_night 666 = .ok (.iload 12, 2) := by decide +kernel
theorem dL_night_668 : decode cL_night 668 = .ok (.ifCond .eq 65, 3) := by decide +kernel
theorem dL_night_671 : decode cL_night 671 = .ok (.aload_n 0, 1) := by decide +kernel
theorem dL_night_672 : decode cL_night 672 = .ok (.invokevirtual 262, 3) := by decide +kernel
theorem dL_night_675 : decode cL_night 675 = .ok (.aload_n 0, 1) := by decide +kernel
theorem dL_night_676 : decode cL_night 676 = .ok (.invokevirtual 265, 3) := by decide +kernel
theorem dL_night_679 : decode cL_night 679 = .ok (.iadd, 1) := by decide +kernel
theorem dL_night_680 : decode cL_night 680 = .ok (.iload 8, 2) := by decide +kernel
theorem dL_night_682 : decode cL_night 682 = .ok (.iload 14, 2) := by decide +kernel
theorem dL_night_684 : decode cL_night 684 = .ok (.iadd, 1) := by decide +kernel
theorem dL_night_685 : decode cL_night 685 = .ok (.if_icmp .ne 48, 3) := by decide +kernel
theorem dL_night_688 : decode cL_night 688 = .ok (.aload_n 0, 1) := by decide +kernel
theorem dL_night_689 : decode cL_night 689 = .ok (.invokevirtual 217, 3) := by decide +kernel
theorem dL_night_692 : decode cL_night 692 = .ok (.iload 7, 2) := by decide +kernel
theorem dL_night_694 : decode cL_night 694 = .ok (.iload 6, 2) := by decide +kernel
theorem dL_night_696 : decode cL_night 696 = .ok (.iload 14, 2) := by decide +kernel
theorem dL_night_698 : decode cL_night 698 = .ok (.imul, 1) := by decide +kernel
theorem dL_night_699 : decode cL_night 699 = .ok (.iadd, 1) := by decide +kernel
theorem dL_night_700 : decode cL_night 700 = .ok (.if_icmp .ne 33, 3) := by decide +kernel
theorem dL_night_703 : decode cL_night 703 = .ok (.aload_n 0, 1) := by decide +kernel
theorem dL_night_704 : decode cL_night 704 = .ok (.invokestatic 291, 3) := by decide +kernel
theorem dL_night_707 : decode cL_night 707 = .ok (.ifCond .eq 26, 3) := by decide +kernel
theorem dL_night_710 : decode cL_night 710 = .ok (.aload_n 0, 1) := by decide +kernel
theorem dL_night_711 : decode cL_night 711 = .ok (.bipush 9, 2) := by decide +kernel
theorem dL_night_713 : decode cL_night 713 = .ok (.iconst 0, 1) := by decide +kernel
theorem dL_night_714 : decode cL_night 714 = .ok (.invokestatic 174, 3) := by decide +kernel
theorem dL_night_717 : decode cL_night 717 = .ok (.ifCond .lt 16, 3) := by decide +kernel
theorem dL_night_720 : decode cL_night 720 = .ok (.aload_n 0, 1) := by decide +kernel
theorem dL_night_721 : decode cL_night 721 = .ok (.invokestatic 279, 3) := by decide +kernel
theorem dL_night_724 : decode cL_night 724 = .ok (.lload_n 1, 1) := by decide +kernel
theorem dL_night_725 : decode cL_night 725 = .ok (.lcmp, 1) := by decide +kernel
theorem dL_night_726 : decode cL_night 726 = .ok (.ifCond .ne 7, 3) := by decide +kernel
theorem dL_night_729 : decode cL_night 729 = .ok (.iconst 1, 1) := by decide +kernel
theorem dL_night_730 : decode cL_night 730 = .ok (.goto 4, 3) := by decide +kernel
theorem dL_night_733 : decode cL_night 733 = .ok (.iconst 0, 1) := by decide +kernel
theorem dL_night_734 : decode cL_night 734 = .ok (.ireturn, 1) := by decide +kernel
theorem dL_ahead_0 : decode cL_ahead 0 = .ok (.aload_n 0, 1) := by decide +kernel
theorem dL_ahead_1 : decode cL_ahead 1 = .ok (.invokestatic 279, 3) := by decide +kernel
theorem dL_ahead_4 : decode cL_ahead 4 = .ok (.lstore_n 2, 1) := by decide +kernel
theorem dL_ahead_5 : decode cL_ahead 5 = .ok (.iconst 1, 1) := by decide +kernel
theorem dL_ahead_6 : decode cL_ahead 6 = .ok (.istore 4, 2) := by decide +kernel
theorem dL_ahead_8 : decode cL_ahead 8 = .ok (.aload_n 0, 1) := by decide +kernel
theorem dL_ahead_9 : decode cL_ahead 9 = .ok (.invokevirtual 246, 3) := by decide +kernel
theorem dL_ahead_12 : decode cL_ahead 12 = .ok (.istore 5, 2) := by decide +kernel
theorem dL_ahead_14 : decode cL_ahead 14 = .ok (.iload_n 1, 1) := by decide +kernel
theorem dL_ahead_15 : decode cL_ahead 15 = .ok (.sipush 255, 3) := by decide +kernel
theorem dL_ahead_18 : decode cL_ahead 18 = .ok (.iand, 1) := by decide +kernel
theorem dL_ahead_19 : decode cL_ahead 19 = .ok (.iconst 3, 1) := by decide +kernel
theorem dL_ahead_20 : decode cL_ahead 20 = .ok (.irem, 1) := by decide +kernel
theorem dL_ahead_21 : decode cL_ahead 21 = .ok (.istore 6, 2) := by decide +kernel
theorem dL_ahead_23 : decode cL_ahead 23 = .ok (.iload 6, 2) := by decide +kernel
theorem dL_ahead_25 : decode cL_ahead 25 = .ok (.iload 5, 2) := by decide +kernel
theorem dL_ahead_27 : decode cL_ahead 27 = .ok (.if_icmp .ge 333, 3) := by decide +kernel
theorem dL_ahead_30 : decode cL_ahead 30 = .ok (.iload 4, 2) := by decide +kernel
theorem dL_ahead_32 : decode cL_ahead 32 = .ok (.ifCond .eq 328, 3) := by decide +kernel
theorem dL_ahead_35 : decode cL_ahead 35 = .ok (.aload_n 0, 1) := by decide +kernel
theorem dL_ahead_36 : decode cL_ahead 36 = .ok (.bipush 41, 2) := by decide +kernel
theorem dL_ahead_38 : decode cL_ahead 38 = .ok (.iload 6, 2) := by decide +kernel
theorem dL_ahead_40 : decode cL_ahead 40 = .ok (.invokestatic 174, 3) := by decide +kernel
theorem dL_ahead_43 : decode cL_ahead 43 = .ok (.istore 7, 2) := by decide +kernel
theorem dL_ahead_45 : decode cL_ahead 45 = .ok (.aload_n 0, 1) := by decide +kernel
theorem dL_ahead_46 : decode cL_ahead 46 = .ok (.bipush 42, 2) := by decide +kernel
theorem dL_ahead_48 : decode cL_ahead 48 = .ok (.iload 6, 2) := by decide +kernel
theorem dL_ahead_50 : decode cL_ahead 50 = .ok (.invokestatic 174, 3) := by decide +kernel
theorem dL_ahead_53 : decode cL_ahead 53 = .ok (.istore 8, 2) := by decide +kernel
theorem dL_ahead_55 : decode cL_ahead 55 = .ok (.aload_n 0, 1) := by decide +kernel
theorem dL_ahead_56 : decode cL_ahead 56 = .ok (.bipush 27, 2) := by decide +kernel
theorem dL_ahead_58 : decode cL_ahead 58 = .ok (.iload 6, 2) := by decide +kernel
theorem dL_ahead_60 : decode cL_ahead 60 = .ok (.invokestatic 174, 3) := by decide +kernel
theorem dL_ahead_63 : decode cL_ahead 63 = .ok (.ifCond .ne 39, 3) := by decide +kernel
theorem dL_ahead_66 : decode cL_ahead 66 = .ok (.iload 7, 2) := by decide +kernel
theorem dL_ahead_68 : decode cL_ahead 68 = .ok (.bipush (-102), 2) := by decide +kernel
theorem dL_ahead_70 : decode cL_ahead 70 = .ok (.if_icmp .ne 26, 3) := by decide +kernel
theorem dL_ahead_73 : decode cL_ahead 73 = .ok (.iload 8, 2) := by decide +kernel
theorem dL_ahead_75 : decode cL_ahead 75 = .ok (.bipush (-102), 2) := by decide +kernel
theorem dL_ahead_77 : decode cL_ahead 77 = .ok (.if_icmp .ne 19, 3) := by decide +kernel
theorem dL_ahead_80 : decode cL_ahead 80 = .ok (.aload_n 0, 1) := by decide +kernel
theorem dL_ahead_81 : decode cL_ahead 81 = .ok (.iconst 1, 1) := by decide +kernel
theorem dL_ahead_82 : decode cL_ahead 82 = .ok (.iload 6, 2) := by decide +kernel
theorem dL_ahead_84 : decode cL_ahead 84 = .ok (.invokestatic 174, 3) := by decide +kernel
theorem dL_ahead_87 : decode cL_ahead 87 = .ok (.bipush (-102), 2) := by decide +kernel
theorem dL_ahead_89 : decode cL_ahead 89 = .ok (.if_icmp .ne 7, 3) := by decide +kernel
theorem dL_ahead_92 : decode cL_ahead 92 = .ok (.iconst 1, 1) := by decide +kernel
theorem dL_ahead_93 : decode cL_ahead 93 = .ok (.goto 4, 3) := by decide +kernel
theorem dL_ahead_96 : decode cL_ahead 96 = .ok (.iconst 0, 1) := by decide +kernel
theorem dL_ahead_97 : decode cL_ahead 97 = .ok (.istore 4, 2) := by decide +kernel
theorem dL_ahead_99 : decode cL_ahead 99 = .ok (.goto 255, 3) := by decide +kernel
theorem dL_ahead_102 : decode cL_ahead 102 = .ok (.aload_n 0, 1) := by decide +kernel
theorem dL_ahead_103 : decode cL_ahead 103 = .ok (.invokevirtual 214, 3) := by decide +kernel
theorem dL_ahead_106 : decode cL_ahead 106 = .ok (.aload_n 0, 1) := by decide +kernel
theorem dL_ahead_107 : decode cL_ahead 107 = .ok (.bipush 26, 2) := by decide +kernel
theorem dL_ahead_109 : decode cL_ahead 109 = .ok (.iload 6, 2) := by decide +kernel
theorem dL_ahead_111 : decode cL_ahead 111 = .ok (.invokestatic 174, 3) := by decide +kernel
theorem dL_ahead_114 : decode cL_ahead 114 = .ok (.isub, 1) := by decide +kernel
theorem dL_ahead_115 : decode cL_ahead 115 = .ok (.istore 9, 2) := by decide +kernel
theorem dL_ahead_117 : decode cL_ahead 117 = .ok (.iload 7, 2) := by decide +kernel
theorem dL_ahead_119 : decode cL_ahead 119 = .ok (.ifCond .le 28, 3) := by decide +kernel
theorem dL_ahead_122 : decode cL_ahead 122 = .ok (.iload 7, 2) := by decide +kernel
theorem dL_ahead_124 : decode cL_ahead 124 = .ok (.bipush 56, 2) := by decide +kernel
theorem dL_ahead_126 : decode cL_ahead 126 = .ok (.iload 9, 2) := by decide +kernel
theorem dL_ahead_128 : decode cL_ahead 128 = .ok (.isub, 1) := by decide +kernel
theorem dL_ahead_129 : decode cL_ahead 129 = .ok (.if_icmp .gt 18, 3) := by decide +kernel
theorem dL_ahead_132 : decode cL_ahead 132 = .ok (.iload 8, 2) := by decide +kernel
theorem dL_ahead_134 : decode cL_ahead 134 = .ok (.iconst 1, 1) := by decide +kernel
theorem dL_ahead_135 : decode cL_ahead 135 = .ok (.if_icmp .eq 8, 3) := by decide +kernel
theorem dL_ahead_138 : decode cL_ahead 138 = .ok (.iload 8, 2) := by decide +kernel
theorem dL_ahead_140 : decode cL_ahead 140 = .ok (.ifCond .ne 7, 3) := by decide +kernel
theorem dL_ahead_143 : decode cL_ahead 143 = .ok (.iconst 1, 1) := by decide +kernel
theorem dL_ahead_144 : decode cL_ahead 144 = .ok (.goto 4, 3) := by decide +kernel
theorem dL_ahead_147 : decode cL_ahead 147 = .ok (.iconst 0, 1) := by decide +kernel
theorem dL_ahead_148 : decode cL_ahead 148 = .ok (.istore 4, 2) := by decide +kernel
theorem dL_ahead_150 : decode cL_ahead 150 = .ok (.aload_n 0, 1) := by decide +kernel
theorem dL_ahead_151 : decode cL_ahead 151 = .ok (.invokevirtual 214, 3) := by decide +kernel
theorem dL_ahead_154 : decode cL_ahead 154 = .ok (.iload 7, 2) := by decide +kernel
theorem dL_ahead_156 : decode cL_ahead 156 = .ok (.iadd, 1) := by decide +kernel
theorem dL_ahead_157 : decode cL_ahead 157 = .ok (.sipush 999, 3) := by decide +kernel
theorem dL_ahead_160 : decode cL_ahead 160 = .ok (.if_icmp .gt 113, 3) := by decide +kernel
theorem dL_ahead_163 : decode cL_ahead 163 = .ok (.iload 7, 2) := by decide +kernel
theorem dL_ahead_165 : decode cL_ahead 165 = .ok (.iconst 1, 1) := by decide +kernel
theorem dL_ahead_166 : decode cL_ahead 166 = .ok (.if_icmp .le 50, 3) := by decide +kernel
theorem dL_ahead_169 : decode cL_ahead 169 = .ok (.iload 4, 2) := by decide +kernel
theorem dL_ahead_171 : decode cL_ahead 171 = .ok (.ifCond .eq 42, 3) := by decide +kernel
theorem dL_ahead_174 : decode cL_ahead 174 = .ok (.aload_n 0, 1) := by decide +kernel
theorem dL_ahead_175 : decode cL_ahead 175 = .ok (.bipush 8, 2) := by decide +kernel
theorem dL_ahead_177 : decode cL_ahead 177 = .ok (.iload 7, 2) := by decide +kernel
theorem dL_ahead_179 : decode cL_ahead 179 = .ok (.iconst 1, 1) := by decide +kernel
theorem dL_ahead_180 : decode cL_ahead 180 = .ok (.isub, 1) := by decide +kernel
theorem dL_ahead_181 : decode cL_ahead 181 = .ok (.invokestatic 174, 3) := by decide +kernel
theorem dL_ahead_184 : decode cL_ahead 184 = .ok (.ifCond .lt 29, 3) := by decide +kernel
theorem dL_ahead_187 : decode cL_ahead 187 = .ok (.aload_n 0, 1) := by decide +kernel
theorem dL_ahead_188 : decode cL_ahead 188 = .ok (.bipush 27, 2) := by decide +kernel
theorem dL_ahead_190 : decode cL_ahead 190 = .ok (.iload 6, 2) := by decide +kernel
theorem dL_ahead_192 : decode cL_ahead 192 = .ok (.invokestatic 174, 3) := by decide +kernel
theorem dL_ahead_195 : decode cL_ahead 195 = .ok (.iconst 1, 1) := by decide +kernel
theorem dL_ahead_196 : decode cL_ahead 196 = .ok (.if_icmp .ne 17, 3) := by decide +kernel
theorem dL_ahead_199 : decode cL_ahead 199 = .ok (.aload_n 0, 1) := by decide +kernel
theorem dL_ahead_200 : decode cL_ahead 200 = .ok (.bipush 9, 2) := by decide +kernel
theorem dL_ahead_202 : decode cL_ahead 202 = .ok (.iconst 0, 1) := by decide +kernel
theorem dL_ahead_203 : decode cL_ahead 203 = .ok (.invokestatic 174, 3) := by decide +kernel
theorem dL_ahead_206 : decode cL_ahead 206 = .ok (.ifCond .lt 7, 3) := by decide +kernel
theorem dL_ahead_209 : decode cL_ahead 209 = .ok (.iconst 1, 1) := by decide +kernel
theorem dL_ahead_210 : decode cL_ahead 210 = .ok (.goto 4, 3) := by decide +kernel
theorem dL_ahead_213 : decode cL_ahead 213 = .ok (.iconst 0, 1) := by decide +kernel
theorem dL_ahead_214 : decode cL_ahead 214 = .ok (.istore 4, 2) := by decide +kernel
theorem dL_ahead_216 : decode cL_ahead 216 = .ok (.iload 4, 2) := by decide +kernel
theorem dL_ahead_218 : decode cL_ahead 218 = .ok (.ifCond .eq 52, 3) := by decide +kernel
theorem dL_ahead_221 : decode cL_ahead 221 = .ok (.aload_n 0, 1) := by decide +kernel
theorem dL_ahead_222 : decode cL_ahead 222 = .ok (.bipush 8, 2) := by decide +kernel
theorem dL_ahead_224 : decode cL_ahead 224 = .ok (.iload 7, 2) := by decide +kernel
theorem dL_ahead_226 : decode cL_ahead 226 = .ok (.invokestatic 174, 3) := by decide +kernel
theorem dL_ahead_229 : decode cL_ahead 229 = .ok (.ifCond .lt 41, 3) := by decide +kernel
theorem dL_ahead_232 : decode cL_ahead 232 = .ok (.aload_n 0, 1) := by decide +kernel
theorem dL_ahead_233 : decode cL_ahead 233 = .ok (.bipush 27, 2) := by decide +kernel
theorem dL_ahead_235 : decode cL_ahead 235 = .ok (.iload 6, 2) := by decide +kernel
theorem dL_ahead_237 : decode cL_ahead 237 = .ok (.invokestatic 174, 3) := by decide +kernel
theorem dL_ahead_240 : decode cL_ahead 240 = .ok (.ifCond .ne 30, 3) := by decide +kernel
theorem dL_ahead_243 : decode cL_ahead 243 = .ok (.aload_n 0, 1) := by decide +kernel
theorem dL_ahead_244 : decode cL_ahead 244 = .ok (.bipush 28, 2) := by decide +kernel
theorem dL_ahead_246 : decode cL_ahead 246 = .ok (.iload 6, 2) := by decide +kernel
theorem dL_ahead_248 : decode cL_ahead 248 = .ok (.invokestatic 174, 3) := by decide +kernel
theorem dL_ahead_251 : decode cL_ahead 251 = .ok (.iload 8, 2) := by decide +kernel
theorem dL_ahead_253 : decode cL_ahead 253 = .ok (.if_icmp .ne 17, 3) := by decide +kernel
theorem dL_ahead_256 : decode cL_ahead 256 = .ok (.aload_n 0, 1) := by decide +kernel
theorem dL_ahead_257 : decode cL_ahead 257 = .ok (.bipush 9, 2) := by decide +kernel
theorem dL_ahead_259 : decode cL_ahead 259 = .ok (.iconst 0, 1) := by decide +kernel
theorem dL_ahead_260 : decode cL_ahead 260 = .ok (.invokestatic 174, 3) := by decide +kernel
theorem dL_ahead_263 : decode cL_ahead 263 = .ok (.ifCond .lt 7, 3) := by decide +kernel
theorem dL_ahead_266 : decode cL_ahead 266 = .ok (.iconst 1, 1) := by decide +kernel
theorem dL_ahead_267 : decode cL_ahead 267 = .ok (.goto 4, 3) := by decide +kernel
theorem dL_ahead_270 : decode cL_ahead 270 = .ok (.iconst 0, 1) := by decide +kernel
theorem dL_ahead_271 : decode cL_ahead 271 = .ok (.istore 4, 2) := by decide +kernel
theorem dL_ahead_273 : decode cL_ahead 273 = .ok (.iload 4, 2) := by decide +kernel
theorem dL_ahead_275 : decode cL_ahead 275 = .ok (.ifCond .eq 76, 3) := by decide +kernel
theorem dL_ahead_278 : decode cL_ahead 278 = .ok (.aload_n 0, 1) := by decide +kernel
theorem dL_ahead_279 : decode cL_ahead 279 = .ok (.iconst 1, 1) := by decide +kernel
theorem dL_ahead_280 : decode cL_ahead 280 = .ok (.iload 6, 2) := by decide +kernel
theorem dL_ahead_282 : decode cL_ahead 282 = .ok (.invokestatic 174, 3) := by decide +kernel
theorem dL_ahead_285 : decode cL_ahead 285 = .ok (.iload 9, 2) := by decide +kernel
theorem dL_ahead_287 : decode cL_ahead 287 = .ok (.if_icmp .ne 64, 3) := by decide +kernel
theorem dL_ahead_290 : decode cL_ahead 290 = .ok (.aload_n 0, 1) := by decide +kernel
theorem dL_ahead_291 : decode cL_ahead 291 = .ok (.bipush 30, 2) := by decide +kernel
theorem dL_ahead_293 : decode cL_ahead 293 = .ok (.iload 6, 2) := by decide +kernel
theorem dL_ahead_295 : decode cL_ahead 295 = .ok (.invokestatic 174, 3) := by decide +kernel
theorem dL_ahead_298 : decode cL_ahead 298 = .ok (.iconst 1, 1) := by decide +kernel
theorem dL_ahead_299 : decode cL_ahead 299 = .ok (.if_icmp .ne 52, 3) := by decide +kernel
theorem dL_ahead_302 : decode cL_ahead 302 = .ok (.aload_n 0, 1) := by decide +kernel
theorem dL_ahead_303 : decode cL_ahead 303 = .ok (.bipush 31, 2) := by decide +kernel
theorem dL_ahead_305 : decode cL_ahead 305 = .ok (.iload 6, 2) := by decide +kernel
theorem dL_ahead_307 : decode cL_ahead 307 = .ok (.invokestatic 174, 3) := by decide +kernel
theorem dL_ahead_310 : decode cL_ahead 310 = .ok (.aload_n 0, 1) := by decide +kernel
theorem dL_ahead_311 : decode cL_ahead 311 = .ok (.invokevirtual 214, 3) := by decide +kernel
theorem dL_ahead_314 : decode cL_ahead 314 = .ok (.if_icmp .ne 37, 3) := by decide +kernel
theorem dL_ahead_317 : decode cL_ahead 317 = .ok (.aload_n 0, 1) := by decide +kernel
theorem dL_ahead_318 : decode cL_ahead 318 = .ok (.bipush 32, 2) := by decide +kernel
theorem dL_ahead_320 : decode cL_ahead 320 = .ok (.iload 6, 2) := by decide +kernel
theorem dL_ahead_322 : decode cL_ahead 322 = .ok (.invokestatic 174, 3) := by decide +kernel
theorem dL_ahead_325 : decode cL_ahead 325 = .ok (.bipush (-101), 2) := by decide +kernel
theorem dL_ahead_327 : decode cL_ahead 327 = .ok (.if_icmp .ne 24, 3) := by decide +kernel
theorem dL_ahead_330 : decode cL_ahead 330 = .ok (.aload_n 0, 1) := by decide +kernel
theorem dL_ahead_331 : decode cL_ahead 331 = .ok (.invokestatic 291, 3) := by decide +kernel
theorem dL_ahead_334 : decode cL_ahead 334 = .ok (.ifCond .eq 17, 3) := by decide +kernel
theorem dL_ahead_337 : decode cL_ahead 337 = .ok (.aload_n 0, 1) := by decide +kernel
theorem dL_ahead_338 : decode cL_ahead 338 = .ok (.bipush 9, 2) := by decide +kernel
theorem dL_ahead_340 : decode cL_ahead 340 = .ok (.iconst 0, 1) := by decide +kernel
theorem dL_ahead_341 : decode cL_ahead 341 = .ok (.invokestatic 174, 3) := by decide +kernel
theorem dL_ahead_344 : decode cL_ahead 344 = .ok (.ifCond .lt 7, 3) := by decide +kernel
theorem dL_ahead_347 : decode cL_ahead 347 = .ok (.iconst 1, 1) := by decide +kernel
theorem dL_ahead_348 : decode cL_ahead 348 = .ok (.goto 4, 3) := by decide +kernel
theorem dL_ahead_351 : decode cL_ahead 351 = .ok (.iconst 0, 1) := by decide +kernel
theorem dL_ahead_352 : decode cL_ahead 352 = .ok (.istore 4, 2) := by decide +kernel
theorem dL_ahead_354 : decode cL_ahead 354 = .ok (.iinc 6 3, 3) := by decide +kernel
theorem dL_ahead_357 : decode cL_ahead 357 = .ok (.goto (-334), 3) := by decide +kernel
theorem dL_ahead_360 : decode cL_ahead 360 = .ok (.iload_n 1, 1) := by decide +kernel
theorem dL_ahead_361 : decode cL_ahead 361 = .ok (.iconst 5, 1) := by decide +kernel
theorem dL_ahead_362 : decode cL_ahead 362 = .ok (.ishr, 1) := by decide +kernel
theorem dL_ahead_363 : decode cL_ahead 363 = .ok (.sipush 255, 3) := by decide +kernel
theorem dL_ahead_366 : decode cL_ahead 366 = .ok (.iand, 1) := by decide +kernel
theorem dL_ahead_367 : decode cL_ahead 367 = .ok (.bipush 100, 2) := by decide +kernel
theorem dL_ahead_369 : decode cL_ahead 369 = .ok (.irem, 1) := by decide +kernel
theorem dL_ahead_370 : decode cL_ahead 370 = .ok (.istore 6, 2) := by decide +kernel
theorem dL_ahead_372 : decode cL_ahead 372 = .ok (.iload_n 1, 1) := by decide +kernel
theorem dL_ahead_373 : decode cL_ahead 373 = .ok (.iconst 3, 1) := by decide +kernel
theorem dL_ahead_374 : decode cL_ahead 374 = .ok (.ishr, 1) := by decide +kernel
theorem dL_ahead_375 : decode cL_ahead 375 = .ok (.iconst 3, 1) := by decide +kernel
theorem dL_ahead_376 : decode cL_ahead 376 = .ok (.iand, 1) := by decide +kernel
theorem dL_ahead_377 : decode cL_ahead 377 = .ok (.istore 7, 2) := by decide +kernel
theorem dL_ahead_379 : decode cL_ahead 379 = .ok (.aload_n 0, 1) := by decide +kernel
theorem dL_ahead_380 : decode cL_ahead 380 = .ok (.bipush 36, 2) := by decide +kernel
theorem dL_ahead_382 : decode cL_ahead 382 = .ok (.iload 6, 2) := by decide +kernel
theorem dL_ahead_384 : decode cL_ahead 384 = .ok (.invokestatic 174, 3) := by decide +kernel
theorem dL_ahead_387 : decode cL_ahead 387 = .ok (.istore 8, 2) := by decide +kernel
theorem dL_ahead_389 : decode cL_ahead 389 = .ok (.aload_n 0, 1) := by decide +kernel
theorem dL_ahead_390 : decode cL_ahead 390 = .ok (.bipush 33, 2) := by decide +kernel
theorem dL_ahead_392 : decode cL_ahead 392 = .ok (.iload 6, 2) := by decide +kernel
theorem dL_ahead_394 : decode cL_ahead 394 = .ok (.iload 7, 2) := by decide +kernel
theorem dL_ahead_396 : decode cL_ahead 396 = .ok (.invokestatic 249, 3) := by decide +kernel
theorem dL_ahead_399 : decode cL_ahead 399 = .ok (.istore 9, 2) := by decide +kernel
theorem dL_ahead_401 : decode cL_ahead 401 = .ok (.aload_n 0, 1) := by decide +kernel
theorem dL_ahead_402 : decode cL_ahead 402 = .ok (.iconst 0, 1) := by decide +kernel
theorem dL_ahead_403 : decode cL_ahead 403 = .ok (.iload 6, 2) := by decide +kernel
theorem dL_ahead_405 : decode cL_ahead 405 = .ok (.iload 7, 2) := by decide +kernel
theorem dL_ahead_407 : decode cL_ahead 407 = .ok (.iconst 5, 1) := by decide +kernel
theorem dL_ahead_408 : decode cL_ahead 408 = .ok (.iconst 0, 1) := by decide +kernel
theorem dL_ahead_409 : decode cL_ahead 409 = .ok (.iconst 0, 1) := by decide +kernel
theorem dL_ahead_410 : decode cL_ahead 410 = .ok (.invokestatic 161, 3) := by decide +kernel
theorem dL_ahead_413 : decode cL_ahead 413 = .ok (.istore 10, 2) := by decide +kernel
theorem dL_ahead_415 : decode cL_ahead 415 = .ok (.iload 9, 2) := by decide +kernel
theorem dL_ahead_417 : decode cL_ahead 417 = .ok (.ifCond .ge 10, 3) := by decide +kernel
theorem dL_ahead_420 : decode cL_ahead 420 = .ok (.iload 5, 2) := by decide +kernel
theorem dL_ahead_422 : decode cL_ahead 422 = .ok (.bipush 24, 2) := by decide +kernel
theorem dL_ahead_424 : decode cL_ahead 424 = .ok (.if_icmp .ne 25, 3) := by decide +kernel
theorem dL_ahead_427 : decode cL_ahead 427 = .ok (.iload 4, 2) := by decide +kernel
theorem dL_ahead_429 : decode cL_ahead 429 = .ok (.ifCond .eq 14, 3) := by decide +kernel
theorem dL_ahead_432 : decode cL_ahead 432 = .ok (.iload 10, 2) := by decide +kernel
theorem dL_ahead_434 : decode cL_ahead 434 = .ok (.bipush (-102), 2) := by decide +kernel
theorem dL_ahead_436 : decode cL_ahead 436 = .ok (.if_icmp .ne 7, 3) := by decide +kernel
theorem dL_ahead_439 : decode cL_ahead 439 = .ok (.iconst 1, 1) := by decide +kernel
theorem dL_ahead_440 : decode cL_ahead 440 = .ok (.goto 4, 3) := by decide +kernel
theorem dL_ahead_443 : decode cL_ahead 443 = .ok (.iconst 0, 1) := by decide +kernel
theorem dL_ahead_444 : decode cL_ahead 444 = .ok (.istore 4, 2) := by decide +kernel
theorem dL_ahead_446 : decode cL_ahead 446 = .ok (.goto 93, 3) := by decide +kernel
theorem dL_ahead_449 : decode cL_ahead 449 = .ok (.iload 4, 2) := by decide +kernel
theorem dL_ahead_451 : decode cL_ahead 451 = .ok (.ifCond .eq 85, 3) := by decide +kernel
theorem dL_ahead_454 : decode cL_ahead 454 = .ok (.iload 9, 2) := by decide +kernel
theorem dL_ahead_456 : decode cL_ahead 456 = .ok (.bipush (-101), 2) := by decide +kernel
theorem dL_ahead_458 : decode cL_ahead 458 = .ok (.if_icmp .ne 78, 3) := by decide +kernel
theorem dL_ahead_461 : decode cL_ahead 461 = .ok (.iload 10, 2) := by decide +kernel
theorem dL_ahead_463 : decode cL_ahead 463 = .ok (.iload 5, 2) := by decide +kernel
theorem dL_ahead_465 : decode cL_ahead 465 = .ok (.if_icmp .ne 71, 3) := by decide +kernel
theorem dL_ahead_468 : decode cL_ahead 468 = .ok (.aload_n 0, 1) := by decide +kernel
theorem dL_ahead_469 : decode cL_ahead 469 = .ok (.bipush 36, 2) := by decide +kernel
theorem dL_ahead_471 : decode cL_ahead 471 = .ok (.iload 6, 2) := by decide +kernel
theorem dL_ahead_473 : decode cL_ahead 473 = .ok (.invokestatic 174, 3) := by decide +kernel
theorem dL_ahead_476 : decode cL_ahead 476 = .ok (.iload 8, 2) := by decide +kernel
theorem dL_ahead_478 : decode cL_ahead 478 = .ok (.iconst 1, 1) := by decide +kernel
theorem dL_ahead_479 : decode cL_ahead 479 = .ok (.iadd, 1) := by decide +kernel
theorem dL_ahead_480 : decode cL_ahead 480 = .ok (.if_icmp .ne 56, 3) := by decide +kernel
theorem dL_ahead_483 : decode cL_ahead 483 = .ok (.aload_n 0, 1) := by decide +kernel
theorem dL_ahead_484 : decode cL_ahead 484 = .ok (.bipush 33, 2) := by decide +kernel
theorem dL_ahead_486 : decode cL_ahead 486 = .ok (.iload 6, 2) := by decide +kernel
theorem dL_ahead_488 : decode cL_ahead 488 = .ok (.iload 7, 2) := by decide +kernel
theorem dL_ahead_490 : decode cL_ahead 490 = .ok (.invokestatic 249, 3) := by decide +kernel
theorem dL_ahead_493 : decode cL_ahead 493 = .ok (.iload 5, 2) := by decide +kernel
theorem dL_ahead_495 : decode cL_ahead 495 = .ok (.if_icmp .ne 41, 3) := by decide +kernel
theorem dL_ahead_498 : decode cL_ahead 498 = .ok (.aload_n 0, 1) := by decide +kernel
theorem dL_ahead_499 : decode cL_ahead 499 = .ok (.iconst 0, 1) := by decide +kernel
theorem dL_ahead_500 : decode cL_ahead 500 = .ok (.iload 6, 2) := by decide +kernel
theorem dL_ahead_502 : decode cL_ahead 502 = .ok (.iload 7, 2) := by decide +kernel
theorem dL_ahead_504 : decode cL_ahead 504 = .ok (.iconst 5, 1) := by decide +kernel
theorem dL_ahead_505 : decode cL_ahead 505 = .ok (.iconst 0, 1) := by decide +kernel
theorem dL_ahead_506 : decode cL_ahead 506 = .ok (.iconst 0, 1) := by decide +kernel
theorem dL_ahead_507 : decode cL_ahead 507 = .ok (.invokestatic 161, 3) := by decide +kernel
theorem dL_ahead_510 : decode cL_ahead 510 = .ok (.bipush (-102), 2) := by decide +kernel
theorem dL_ahead_512 : decode cL_ahead 512 = .ok (.if_icmp .ne 24, 3) := by decide +kernel
theorem dL_ahead_515 : decode cL_ahead 515 = .ok (.aload_n 0, 1) := by decide +kernel
theorem dL_ahead_516 : decode cL_ahead 516 = .ok (.invokestatic 291, 3) := by decide +kernel
theorem dL_ahead_519 : decode cL_ahead 519 = .ok (.ifCond .eq 17, 3) := by decide +kernel
theorem dL_ahead_522 : decode cL_ahead 522 = .ok (.aload_n 0, 1) := by decide +kernel
theorem dL_ahead_523 : decode cL_ahead 523 = .ok (.bipush 9, 2) := by decide +kernel
theorem dL_ahead_525 : decode cL_ahead 525 = .ok (.iconst 0, 1) := by decide +kernel
theorem dL_ahead_526 : decode cL_ahead 526 = .ok (.invokestatic 174, 3) := by decide +kernel
theorem dL_ahead_529 : decode cL_ahead 529 = .ok (.ifCond .lt 7, 3) := by decide +kernel
theorem dL_ahead_532 : decode cL_ahead 532 = .ok (.iconst 1, 1) := by decide +kernel
theorem dL_ahead_533 : decode cL_ahead 533 = .ok (.goto 4, 3) := by decide +kernel
theorem dL_ahead_536 : decode cL_ahead 536 = .ok (.iconst 0, 1) := by decide +kernel
theorem dL_ahead_537 : decode cL_ahead 537 = .ok (.istore 4, 2) := by decide +kernel
theorem dL_ahead_539 : decode cL_ahead 539 = .ok (.iload 4, 2) := by decide +kernel
theorem dL_ahead_541 : decode cL_ahead 541 = .ok (.ifCond .eq 63, 3) := by decide +kernel
theorem dL_ahead_544 : decode cL_ahead 544 = .ok (.aload_n 0, 1) := by decide +kernel
theorem dL_ahead_545 : decode cL_ahead 545 = .ok (.iconst 0, 1) := by decide +kernel
theorem dL_ahead_546 : decode cL_ahead 546 = .ok (.bipush 100, 2) := by decide +kernel
theorem dL_ahead_548 : decode cL_ahead 548 = .ok (.iconst 0, 1) := by decide +kernel
theorem dL_ahead_549 : decode cL_ahead 549 = .ok (.iconst 5, 1) := by decide +kernel
theorem dL_ahead_550 : decode cL_ahead 550 = .ok (.iconst 0, 1) := by decide +kernel
theorem dL_ahead_551 : decode cL_ahead 551 = .ok (.iconst 0, 1) := by decide +kernel
theorem dL_ahead_552 : decode cL_ahead 552 = .ok (.invokestatic 161, 3) := by decide +kernel
theorem dL_ahead_555 : decode cL_ahead 555 = .ok (.bipush (-103), 2) := by decide +kernel
theorem dL_ahead_557 : decode cL_ahead 557 = .ok (.if_icmp .ne 47, 3) := by decide +kernel
theorem dL_ahead_560 : decode cL_ahead 560 = .ok (.aload_n 0, 1) := by decide +kernel
theorem dL_ahead_561 : decode cL_ahead 561 = .ok (.iconst 0, 1) := by decide +kernel
theorem dL_ahead_562 : decode cL_ahead 562 = .ok (.iconst 0, 1) := by decide +kernel
theorem dL_ahead_563 : decode cL_ahead 563 = .ok (.iconst 4, 1) := by decide +kernel
theorem dL_ahead_564 : decode cL_ahead 564 = .ok (.iconst 5, 1) := by decide +kernel
theorem dL_ahead_565 : decode cL_ahead 565 = .ok (.iconst 0, 1) := by decide +kernel
theorem dL_ahead_566 : decode cL_ahead 566 = .ok (.iconst 0, 1) := by decide +kernel
theorem dL_ahead_567 : decode cL_ahead 567 = .ok (.invokestatic 161, 3) := by decide +kernel
theorem dL_ahead_570 : decode cL_ahead 570 = .ok (.bipush (-103), 2) := by decide +kernel
theorem dL_ahead_572 : decode cL_ahead 572 = .ok (.if_icmp .ne 32, 3) := by decide +kernel
theorem dL_ahead_575 : decode cL_ahead 575 = .ok (.aload_n 0, 1) := by decide +kernel
theorem dL_ahead_576 : decode cL_ahead 576 = .ok (.iconst 0, 1) := by decide +kernel
theorem dL_ahead_577 : decode cL_ahead 577 = .ok (.iconst 0, 1) := by decide +kernel
theorem dL_ahead_578 : decode cL_ahead 578 = .ok (.iconst 0, 1) := by decide +kernel
theorem dL_ahead_579 : decode cL_ahead 579 = .ok (.bipush 10, 2) := by decide +kernel
theorem dL_ahead_581 : decode cL_ahead 581 = .ok (.iconst 0, 1) := by decide +kernel
theorem dL_ahead_582 : decode cL_ahead 582 = .ok (.iconst 0, 1) := by decide +kernel
theorem dL_ahead_583 : decode cL_ahead 583 = .ok (.invokestatic 161, 3) := by decide +kernel
theorem dL_ahead_586 : decode cL_ahead 586 = .ok (.bipush (-103), 2) := by decide +kernel
theorem dL_ahead_588 : decode cL_ahead 588 = .ok (.if_icmp .ne 16, 3) := by decide +kernel
theorem dL_ahead_591 : decode cL_ahead 591 = .ok (.aload_n 0, 1) := by decide +kernel
theorem dL_ahead_592 : decode cL_ahead 592 = .ok (.invokestatic 279, 3) := by decide +kernel
theorem dL_ahead_595 : decode cL_ahead 595 = .ok (.lload_n 2, 1) := by decide +kernel
theorem dL_ahead_596 : decode cL_ahead 596 = .ok (.lcmp, 1) := by decide +kernel
theorem dL_ahead_597 : decode cL_ahead 597 = .ok (.ifCond .ne 7, 3) := by decide +kernel
theorem dL_ahead_600 : decode cL_ahead 600 = .ok (.iconst 1, 1) := by decide +kernel
theorem dL_ahead_601 : decode cL_ahead 601 = .ok (.goto 4, 3) := by decide +kernel
theorem dL_ahead_604 : decode cL_ahead 604 = .ok (.iconst 0, 1) := by decide +kernel
theorem dL_ahead_605 : decode cL_ahead 605 = .ok (.ireturn, 1) := by decide +kernel
theorem dL_does_0 : decode cL_does 0 = .ok (.aload_n 0, 1) := by decide +kernel
theorem dL_does_1 : decode cL_does 1 = .ok (.invokestatic 279, 3) := by decide +kernel
theorem dL_does_4 : decode cL_does 4 = .ok (.lstore_n 3, 1) := by decide +kernel
theorem dL_does_5 : decode cL_does 5 = .ok (.iload_n 1, 1) := by decide +kernel
theorem dL_does_6 : decode cL_does 6 = .ok (.bipush 15, 2) := by decide +kernel
theorem dL_does_8 : decode cL_does 8 = .ok (.iand, 1) := by decide +kernel
theorem dL_does_9 : decode cL_does 9 = .ok (.tableswitch 256 0 14 #[75, 75, 75, 75, 107, 121, 145, 164, 188, 212, 212, 212, 212, 212, 229], 75) := by decide +kernel
theorem dL_does_84 : decode cL_does 84 = .ok (.aload_n 0, 1) := by decide +kernel
theorem dL_does_85 : decode cL_does 85 = .ok (.iconst 0, 1) := by decide +kernel
theorem dL_does_86 : decode cL_does 86 = .ok (.iload_n 2, 1) := by decide +kernel
theorem dL_does_87 : decode cL_does 87 = .ok (.bipush 127, 2) := by decide +kernel
theorem dL_does_89 : decode cL_does 89 = .ok (.iand, 1) := by decide +kernel
theorem dL_does_90 : decode cL_does 90 = .ok (.iload_n 2, 1) := by decide +kernel
theorem dL_does_91 : decode cL_does 91 = .ok (.iconst 4, 1) := by decide +kernel
theorem dL_does_92 : decode cL_does 92 = .ok (.ishr, 1) := by decide +kernel
theorem dL_does_93 : decode cL_does 93 = .ok (.iconst 3, 1) := by decide +kernel
theorem dL_does_94 : decode cL_does 94 = .ok (.iand, 1) := by decide +kernel
theorem dL_does_95 : decode cL_does 95 = .ok (.iload_n 2, 1) := by decide +kernel
theorem dL_does_96 : decode cL_does 96 = .ok (.bipush 6, 2) := by decide +kernel
theorem dL_does_98 : decode cL_does 98 = .ok (.ishr, 1) := by decide +kernel
theorem dL_does_99 : decode cL_does 99 = .ok (.sipush 255, 3) := by decide +kernel
theorem dL_does_102 : decode cL_does 102 = .ok (.iand, 1) := by decide +kernel
theorem dL_does_103 : decode cL_does 103 = .ok (.bipush 10, 2) := by decide +kernel
theorem dL_does_105 : decode cL_does 105 = .ok (.irem, 1) := by decide +kernel
theorem dL_does_106 : decode cL_does 106 = .ok (.iconst 0, 1) := by decide +kernel
theorem dL_does_107 : decode cL_does 107 = .ok (.iconst 0, 1) := by decide +kernel
theorem dL_does_108 : decode cL_does 108 = .ok (.invokestatic 161, 3) := by decide +kernel
theorem dL_does_111 : decode cL_does 111 = .ok (.istore 5, 2) := by decide +kernel
theorem dL_does_113 : decode cL_does 113 = .ok (.goto 170, 3) := by decide +kernel
theorem dL_does_116 : decode cL_does 116 = .ok (.aload_n 0, 1) := by decide +kernel
theorem dL_does_117 : decode cL_does 117 = .ok (.iconst 1, 1) := by decide +kernel
theorem dL_does_118 : decode cL_does 118 = .ok (.iload_n 2, 1) := by decide +kernel
theorem dL_does_119 : decode cL_does 119 = .ok (.bipush 7, 2) := by decide +kernel
theorem dL_does_121 : decode cL_does 121 = .ok (.iand, 1) := by decide +kernel
theorem dL_does_122 : decode cL_does 122 = .ok (.invokestatic 174, 3) := by decide +kernel
theorem dL_does_125 : decode cL_does 125 = .ok (.istore 5, 2) := by decide +kernel
theorem dL_does_127 : decode cL_does 127 = .ok (.goto 156, 3) := by decide +kernel
theorem dL_does_130 : decode cL_does 130 = .ok (.aload_n 0, 1) := by decide +kernel
theorem dL_does_131 : decode cL_does 131 = .ok (.iconst 2, 1) := by decide +kernel
theorem dL_does_132 : decode cL_does 132 = .ok (.iload_n 2, 1) := by decide +kernel
theorem dL_does_133 : decode cL_does 133 = .ok (.sipush 255, 3) := by decide +kernel
theorem dL_does_136 : decode cL_does 136 = .ok (.iand, 1) := by decide +kernel
theorem dL_does_137 : decode cL_does 137 = .ok (.bipush 10, 2) := by decide +kernel
theorem dL_does_139 : decode cL_does 139 = .ok (.irem, 1) := by decide +kernel
theorem dL_does_140 : decode cL_does 140 = .ok (.iload_n 2, 1) := by decide +kernel
theorem dL_does_141 : decode cL_does 141 = .ok (.iconst 2, 1) := by decide +kernel
theorem dL_does_142 : decode cL_does 142 = .ok (.ishr, 1) := by decide +kernel
theorem dL_does_143 : decode cL_does 143 = .ok (.bipush 127, 2) := by decide +kernel
theorem dL_does_145 : decode cL_does 145 = .ok (.iand, 1) := by decide +kernel
theorem dL_does_146 : decode cL_does 146 = .ok (.invokestatic 249, 3) := by decide +kernel
theorem dL_does_149 : decode cL_does 149 = .ok (.istore 5, 2) := by decide +kernel
theorem dL_does_151 : decode cL_does 151 = .ok (.goto 132, 3) := by decide +kernel
theorem dL_does_154 : decode cL_does 154 = .ok (.aload_n 0, 1) := by decide +kernel
theorem dL_does_155 : decode cL_does 155 = .ok (.iconst 3, 1) := by decide +kernel
theorem dL_does_156 : decode cL_does 156 = .ok (.iload_n 2, 1) := by decide +kernel
theorem dL_does_157 : decode cL_does 157 = .ok (.iconst 3, 1) := by decide +kernel
theorem dL_does_158 : decode cL_does 158 = .ok (.iand, 1) := by decide +kernel
theorem dL_does_159 : decode cL_does 159 = .ok (.iload_n 2, 1) := by decide +kernel
theorem dL_does_160 : decode cL_does 160 = .ok (.iconst 2, 1) := by decide +kernel
theorem dL_does_161 : decode cL_does 161 = .ok (.ishr, 1) := by decide +kernel
theorem dL_does_162 : decode cL_does 162 = .ok (.bipush 127, 2) := by decide +kernel
theorem dL_does_164 : decode cL_does 164 = .ok (.iand, 1) := by decide +kernel
theorem dL_does_165 : decode cL_does 165 = .ok (.invokestatic 249, 3) := by decide +kernel
theorem dL_does_168 : decode cL_does 168 = .ok (.istore 5, 2) := by decide +kernel
theorem dL_does_170 : decode cL_does 170 = .ok (.goto 113, 3) := by decide +kernel
theorem dL_does_173 : decode cL_does 173 = .ok (.aload_n 0, 1) := by decide +kernel
theorem dL_does_174 : decode cL_does 174 = .ok (.iconst 4, 1) := by decide +kernel
theorem dL_does_175 : decode cL_does 175 = .ok (.iload_n 2, 1) := by decide +kernel
theorem dL_does_176 : decode cL_does 176 = .ok (.bipush 7, 2) := by decide +kernel
theorem dL_does_178 : decode cL_does 178 = .ok (.iand, 1) := by decide +kernel
theorem dL_does_179 : decode cL_does 179 = .ok (.iload_n 2, 1) := by decide +kernel
theorem dL_does_180 : decode cL_does 180 = .ok (.iconst 3, 1) := by decide +kernel
theorem dL_does_181 : decode cL_does 181 = .ok (.ishr, 1) := by decide +kernel
theorem dL_does_182 : decode cL_does 182 = .ok (.sipush 255, 3) := by decide +kernel
theorem dL_does_185 : decode cL_does 185 = .ok (.iand, 1) := by decide +kernel
theorem dL_does_186 : decode cL_does 186 = .ok (.bipush 11, 2) := by decide +kernel
theorem dL_does_188 : decode cL_does 188 = .ok (.irem, 1) := by decide +kernel
theorem dL_does_189 : decode cL_does 189 = .ok (.invokestatic 249, 3) := by decide +kernel
theorem dL_does_192 : decode cL_does 192 = .ok (.istore 5, 2) := by decide +kernel
theorem dL_does_194 : decode cL_does 194 = .ok (.goto 89, 3) := by decide +kernel
theorem dL_does_197 : decode cL_does 197 = .ok (.aload_n 0, 1) := by decide +kernel
theorem dL_does_198 : decode cL_does 198 = .ok (.iconst 5, 1) := by decide +kernel
theorem dL_does_199 : decode cL_does 199 = .ok (.iload_n 2, 1) := by decide +kernel
theorem dL_does_200 : decode cL_does 200 = .ok (.sipush 255, 3) := by decide +kernel
theorem dL_does_203 : decode cL_does 203 = .ok (.iand, 1) := by decide +kernel
theorem dL_does_204 : decode cL_does 204 = .ok (.iconst 3, 1) := by decide +kernel
theorem dL_does_205 : decode cL_does 205 = .ok (.irem, 1) := by decide +kernel
theorem dL_does_206 : decode cL_does 206 = .ok (.iadd, 1) := by decide +kernel
theorem dL_does_207 : decode cL_does 207 = .ok (.iload_n 2, 1) := by decide +kernel
theorem dL_does_208 : decode cL_does 208 = .ok (.iconst 2, 1) := by decide +kernel
theorem dL_does_209 : decode cL_does 209 = .ok (.ishr, 1) := by decide +kernel
theorem dL_does_210 : decode cL_does 210 = .ok (.bipush 15, 2) := by decide +kernel
theorem dL_does_212 : decode cL_does 212 = .ok (.iand, 1) := by decide +kernel
theorem dL_does_213 : decode cL_does 213 = .ok (.invokestatic 174, 3) := by decide +kernel
theorem dL_does_216 : decode cL_does 216 = .ok (.istore 5, 2) := by decide +kernel
theorem dL_does_218 : decode cL_does 218 = .ok (.goto 65, 3) := by decide +kernel
theorem dL_does_221 : decode cL_does 221 = .ok (.aload_n 0, 1) := by decide +kernel
theorem dL_does_222 : decode cL_does 222 = .ok (.bipush 8, 2) := by decide +kernel
theorem dL_does_224 : decode cL_does 224 = .ok (.iconst 1, 1) := by decide +kernel
theorem dL_does_225 : decode cL_does 225 = .ok (.iload_n 2, 1) := by decide +kernel
theorem dL_does_226 : decode cL_does 226 = .ok (.bipush 7, 2) := by decide +kernel
theorem dL_does_228 : decode cL_does 228 = .ok (.iand, 1) := by decide +kernel
theorem dL_does_229 : decode cL_does 229 = .ok (.iadd, 1) := by decide +kernel
theorem dL_does_230 : decode cL_does 230 = .ok (.invokestatic 174, 3) := by decide +kernel
theorem dL_does_233 : decode cL_does 233 = .ok (.istore 5, 2) := by decide +kernel
theorem dL_does_235 : decode cL_does 235 = .ok (.goto 48, 3) := by decide +kernel
theorem dL_does_238 : decode cL_does 238 = .ok (.aload_n 0, 1) := by decide +kernel
theorem dL_does_239 : decode cL_does 239 = .ok (.iload_n 2, 1) := by decide +kernel
theorem dL_does_240 : decode cL_does 240 = .ok (.iconst 1, 1) := by decide +kernel
theorem dL_does_241 : decode cL_does 241 = .ok (.iand, 1) := by decide +kernel
theorem dL_does_242 : decode cL_does 242 = .ok (.ifCond .ne 8, 3) := by decide +kernel
theorem dL_does_245 : decode cL_does 245 = .ok (.bipush 10, 2) := by decide +kernel
theorem dL_does_247 : decode cL_does 247 = .ok (.goto 5, 3) := by decide +kernel
theorem dL_does_250 : decode cL_does 250 = .ok (.bipush 11, 2) := by decide +kernel
theorem dL_does_252 : decode cL_does 252 = .ok (.iload_n 2, 1) := by decide +kernel
theorem dL_does_253 : decode cL_does 253 = .ok (.iconst 1, 1) := by decide +kernel
theorem dL_does_254 : decode cL_does 254 = .ok (.ishr, 1) := by decide +kernel
theorem dL_does_255 : decode cL_does 255 = .ok (.iconst 1, 1) := by decide +kernel
theorem dL_does_256 : decode cL_does 256 = .ok (.iand, 1) := by decide +kernel
theorem dL_does_257 : decode cL_does 257 = .ok (.invokestatic 174, 3) := by decide +kernel
theorem dL_does_260 : decode cL_does 260 = .ok (.istore 5, 2) := by decide +kernel
theorem dL_does_262 : decode cL_does 262 = .ok (.goto 21, 3) := by decide +kernel
theorem dL_does_265 : decode cL_does 265 = .ok (.aload_n 0, 1) := by decide +kernel
theorem dL_does_266 : decode cL_does 266 = .ok (.bipush 9, 2) := by decide +kernel
theorem dL_does_268 : decode cL_does 268 = .ok (.iconst 0, 1) := by decide +kernel
theorem dL_does_269 : decode cL_does 269 = .ok (.invokestatic 174, 3) := by decide +kernel
theorem dL_does_272 : decode cL_does 272 = .ok (.bipush (-104), 2) := by decide +kernel
theorem dL_does_274 : decode cL_does 274 = .ok (.if_icmp .eq 7, 3) := by decide +kernel
theorem dL_does_277 : decode cL_does 277 = .ok (.iconst 1, 1) := by decide +kernel
theorem dL_does_278 : decode cL_does 278 = .ok (.goto 4, 3) := by decide +kernel
theorem dL_does_281 : decode cL_does 281 = .ok (.iconst 0, 1) := by decide +kernel
theorem dL_does_282 : decode cL_does 282 = .ok (.ireturn, 1) := by decide +kernel
theorem dL_does_283 : decode cL_does 283 = .ok (.iload 5, 2) := by decide +kernel
theorem dL_does_285 : decode cL_does 285 = .ok (.ifCond .ge 12, 3) := by decide +kernel
theorem dL_does_288 : decode cL_does 288 = .ok (.aload_n 0, 1) := by decide +kernel
theorem dL_does_289 : decode cL_does 289 = .ok (.invokestatic 279, 3) := by decide +kernel
theorem dL_does_292 : decode cL_does 292 = .ok (.lload_n 3, 1) := by decide +kernel
theorem dL_does_293 : decode cL_does 293 = .ok (.lcmp, 1) := by decide +kernel
theorem dL_does_294 : decode cL_does 294 = .ok (.ifCond .ne 7, 3) := by decide +kernel
theorem dL_does_297 : decode cL_does 297 = .ok (.iconst 1, 1) := by decide +kernel
theorem dL_does_298 : decode cL_does 298 = .ok (.goto 4, 3) := by decide +kernel
theorem dL_does_301 : decode cL_does 301 = .ok (.iconst 0, 1) := by decide +kernel
theorem dL_does_302 : decode cL_does 302 = .ok (.ireturn, 1) := by decide +kernel
theorem dL_law_0 : decode cL_law 0 = .ok (.bipush 6, 2) := by decide +kernel
theorem dL_law_2 : decode cL_law 2 = .ok (.newarray .int, 2) := by decide +kernel
theorem dL_law_4 : decode cL_law 4 = .ok (.astore_n 1, 1) := by decide +kernel
theorem dL_law_5 : decode cL_law 5 = .ok (.iconst 0, 1) := by decide +kernel
theorem dL_law_6 : decode cL_law 6 = .ok (.istore_n 2, 1) := by decide +kernel
theorem dL_law_7 : decode cL_law 7 = .ok (.iload_n 2, 1) := by decide +kernel
theorem dL_law_8 : decode cL_law 8 = .ok (.bipush 6, 2) := by decide +kernel
theorem dL_law_10 : decode cL_law 10 = .ok (.if_icmp .ge 25, 3) := by decide +kernel
theorem dL_law_13 : decode cL_law 13 = .ok (.iload_n 2, 1) := by decide +kernel
theorem dL_law_14 : decode cL_law 14 = .ok (.aload_n 0, 1) := by decide +kernel
theorem dL_law_15 : decode cL_law 15 = .ok (.arraylength, 1) := by decide +kernel
theorem dL_law_16 : decode cL_law 16 = .ok (.if_icmp .ge 19, 3) := by decide +kernel
theorem dL_law_19 : decode cL_law 19 = .ok (.aload_n 1, 1) := by decide +kernel
theorem dL_law_20 : decode cL_law 20 = .ok (.iload_n 2, 1) := by decide +kernel
theorem dL_law_21 : decode cL_law 21 = .ok (.aload_n 0, 1) := by decide +kernel
theorem dL_law_22 : decode cL_law 22 = .ok (.iload_n 2, 1) := by decide +kernel
theorem dL_law_23 : decode cL_law 23 = .ok (.iaload, 1) := by decide +kernel
theorem dL_law_24 : decode cL_law 24 = .ok (.ldc_w 295, 3) := by decide +kernel
theorem dL_law_27 : decode cL_law 27 = .ok (.iand, 1) := by decide +kernel
theorem dL_law_28 : decode cL_law 28 = .ok (.iastore, 1) := by decide +kernel
theorem dL_law_29 : decode cL_law 29 = .ok (.iinc 2 1, 3) := by decide +kernel
theorem dL_law_32 : decode cL_law 32 = .ok (.goto (-25), 3) := by decide +kernel
theorem dL_law_35 : decode cL_law 35 = .ok (.new 8, 3) := by decide +kernel
theorem dL_law_38 : decode cL_law 38 = .ok (.dup, 1) := by decide +kernel
theorem dL_law_39 : decode cL_law 39 = .ok (.invokespecial 296, 3) := by decide +kernel
theorem dL_law_42 : decode cL_law 42 = .ok (.astore_n 2, 1) := by decide +kernel
theorem dL_law_43 : decode cL_law 43 = .ok (.aload_n 2, 1) := by decide +kernel
theorem dL_law_44 : decode cL_law 44 = .ok (.bipush 9, 2) := by decide +kernel
theorem dL_law_46 : decode cL_law 46 = .ok (.iconst 0, 1) := by decide +kernel
theorem dL_law_47 : decode cL_law 47 = .ok (.invokestatic 174, 3) := by decide +kernel
theorem dL_law_50 : decode cL_law 50 = .ok (.bipush (-102), 2) := by decide +kernel
theorem dL_law_52 : decode cL_law 52 = .ok (.if_icmp .ne 95, 3) := by decide +kernel
theorem dL_law_55 : decode cL_law 55 = .ok (.aload_n 2, 1) := by decide +kernel
theorem dL_law_56 : decode cL_law 56 = .ok (.invokevirtual 246, 3) := by decide +kernel
theorem dL_law_59 : decode cL_law 59 = .ok (.iconst 4, 1) := by decide +kernel
theorem dL_law_60 : decode cL_law 60 = .ok (.if_icmp .ne 87, 3) := by decide +kernel
theorem dL_law_63 : decode cL_law 63 = .ok (.aload_n 2, 1) := by decide +kernel
theorem dL_law_64 : decode cL_law 64 = .ok (.invokevirtual 241, 3) := by decide +kernel
theorem dL_law_67 : decode cL_law 67 = .ok (.iconst 2, 1) := by decide +kernel
theorem dL_law_68 : decode cL_law 68 = .ok (.if_icmp .ne 79, 3) := by decide +kernel
theorem dL_law_71 : decode cL_law 71 = .ok (.aload_n 2, 1) := by decide +kernel
theorem dL_law_72 : decode cL_law 72 = .ok (.invokevirtual 236, 3) := by decide +kernel
theorem dL_law_75 : decode cL_law 75 = .ok (.iconst 3, 1) := by decide +kernel
theorem dL_law_76 : decode cL_law 76 = .ok (.if_icmp .ne 71, 3) := by decide +kernel
theorem dL_law_79 : decode cL_law 79 = .ok (.aload_n 2, 1) := by decide +kernel
theorem dL_law_80 : decode cL_law 80 = .ok (.bipush 33, 2) := by decide +kernel
theorem dL_law_82 : decode cL_law 82 = .ok (.bipush 9, 2) := by decide +kernel
theorem dL_law_84 : decode cL_law 84 = .ok (.iconst 2, 1) := by decide +kernel
theorem dL_law_85 : decode cL_law 85 = .ok (.invokestatic 249, 3) := by decide +kernel
theorem dL_law_88 : decode cL_law 88 = .ok (.iconst 2, 1) := by decide +kernel
theorem dL_law_89 : decode cL_law 89 = .ok (.if_icmp .ne 58, 3) := by decide +kernel
theorem dL_law_92 : decode cL_law 92 = .ok (.aload_n 2, 1) := by decide +kernel
theorem dL_law_93 : decode cL_law 93 = .ok (.bipush 15, 2) := by decide +kernel
theorem dL_law_95 : decode cL_law 95 = .ok (.iconst 0, 1) := by decide +kernel
theorem dL_law_96 : decode cL_law 96 = .ok (.invokestatic 174, 3) := by decide +kernel
theorem dL_law_99 : decode cL_law 99 = .ok (.bipush (-101), 2) := by decide +kernel
theorem dL_law_101 : decode cL_law 101 = .ok (.if_icmp .ne 46, 3) := by decide +kernel
theorem dL_law_104 : decode cL_law 104 = .ok (.aload_n 2, 1) := by decide +kernel
theorem dL_law_105 : decode cL_law 105 = .ok (.bipush 44, 2) := by decide +kernel
theorem dL_law_107 : decode cL_law 107 = .ok (.iconst 0, 1) := by decide +kernel
theorem dL_law_108 : decode cL_law 108 = .ok (.invokestatic 174, 3) := by decide +kernel
theorem dL_law_111 : decode cL_law 111 = .ok (.bipush (-104), 2) := by decide +kernel
theorem dL_law_113 : decode cL_law 113 = .ok (.if_icmp .ne 34, 3) := by decide +kernel
theorem dL_law_116 : decode cL_law 116 = .ok (.aload_n 2, 1) := by decide +kernel
theorem dL_law_117 : decode cL_law 117 = .ok (.bipush 11, 2) := by decide +kernel
theorem dL_law_119 : decode cL_law 119 = .ok (.iconst 0, 1) := by decide +kernel
theorem dL_law_120 : decode cL_law 120 = .ok (.invokestatic 174, 3) := by decide +kernel
theorem dL_law_123 : decode cL_law 123 = .ok (.bipush (-101), 2) := by decide +kernel
theorem dL_law_125 : decode cL_law 125 = .ok (.if_icmp .ne 22, 3) := by decide +kernel
theorem dL_law_128 : decode cL_law 128 = .ok (.aload_n 2, 1) := by decide +kernel
theorem dL_law_129 : decode cL_law 129 = .ok (.iconst 0, 1) := by decide +kernel
theorem dL_law_130 : decode cL_law 130 = .ok (.invokestatic 297, 3) := by decide +kernel
theorem dL_law_133 : decode cL_law 133 = .ok (.ifCond .eq 14, 3) := by decide +kernel
theorem dL_law_136 : decode cL_law 136 = .ok (.aload_n 2, 1) := by decide +kernel
theorem dL_law_137 : decode cL_law 137 = .ok (.invokestatic 291, 3) := by decide +kernel
theorem dL_law_140 : decode cL_law 140 = .ok (.ifCond .eq 7, 3) := by decide +kernel
theorem dL_law_143 : decode cL_law 143 = .ok (.iconst 1, 1) := by decide +kernel
theorem dL_law_144 : decode cL_law 144 = .ok (.goto 4, 3) := by decide +kernel
theorem dL_law_147 : decode cL_law 147 = .ok (.iconst 0, 1) := by decide +kernel
theorem dL_law_148 : decode cL_law 148 = .ok (.istore_n 3, 1) := by decide +kernel
theorem dL_law_149 : decode cL_law 149 = .ok (.iconst 0, 1) := by decide +kernel
theorem dL_law_150 : decode cL_law 150 = .ok (.istore 4, 2) := by decide +kernel
theorem dL_law_152 : decode cL_law 152 = .ok (.iload 4, 2) := by decide +kernel
theorem dL_law_154 : decode cL_law 154 = .ok (.iconst 1, 1) := by decide +kernel
theorem dL_law_155 : decode cL_law 155 = .ok (.iadd, 1) := by decide +kernel
theorem dL_law_156 : decode cL_law 156 = .ok (.bipush 6, 2) := by decide +kernel
theorem dL_law_158 : decode cL_law 158 = .ok (.if_icmp .ge 205, 3) := by decide +kernel
theorem dL_law_161 : decode cL_law 161 = .ok (.iload_n 3, 1) := by decide +kernel
theorem dL_law_162 : decode cL_law 162 = .ok (.ifCond .eq 201, 3) := by decide +kernel
theorem dL_law_165 : decode cL_law 165 = .ok (.iload 4, 2) := by decide +kernel
theorem dL_law_167 : decode cL_law 167 = .ok (.iconst 2, 1) := by decide +kernel
theorem dL_law_168 : decode cL_law 168 = .ok (.if_icmp .eq 62, 3) := by decide +kernel
theorem dL_law_171 : decode cL_law 171 = .ok (.aload_n 2, 1) := by decide +kernel
theorem dL_law_172 : decode cL_law 172 = .ok (.aload_n 1, 1) := by decide +kernel
theorem dL_law_173 : decode cL_law 173 = .ok (.iload 4, 2) := by decide +kernel
theorem dL_law_175 : decode cL_law 175 = .ok (.iaload, 1) := by decide +kernel
theorem dL_law_176 : decode cL_law 176 = .ok (.aload_n 1, 1) := by decide +kernel
theorem dL_law_177 : decode cL_law 177 = .ok (.iload 4, 2) := by decide +kernel
theorem dL_law_179 : decode cL_law 179 = .ok (.iconst 1, 1) := by decide +kernel
theorem dL_law_180 : decode cL_law 180 = .ok (.iadd, 1) := by decide +kernel
theorem dL_law_181 : decode cL_law 181 = .ok (.iaload, 1) := by decide +kernel
theorem dL_law_182 : decode cL_law 182 = .ok (.invokestatic 301, 3) := by decide +kernel
theorem dL_law_185 : decode cL_law 185 = .ok (.invokestatic 305, 3) := by decide +kernel
theorem dL_law_188 : decode cL_law 188 = .ok (.ifCond .eq 40, 3) := by decide +kernel
theorem dL_law_191 : decode cL_law 191 = .ok (.aload_n 2, 1) := by decide +kernel
theorem dL_law_192 : decode cL_law 192 = .ok (.bipush 12, 2) := by decide +kernel
theorem dL_law_194 : decode cL_law 194 = .ok (.iconst 0, 1) := by decide +kernel
theorem dL_law_195 : decode cL_law 195 = .ok (.invokestatic 174, 3) := by decide +kernel
theorem dL_law_198 : decode cL_law 198 = .ok (.aload_n 2, 1) := by decide +kernel
theorem dL_law_199 : decode cL_law 199 = .ok (.invokevirtual 246, 3) := by decide +kernel
theorem dL_law_202 : decode cL_law 202 = .ok (.if_icmp .ne 26, 3) := by decide +kernel
theorem dL_law_205 : decode cL_law 205 = .ok (.aload_n 2, 1) := by decide +kernel
theorem dL_law_206 : decode cL_law 206 = .ok (.invokevirtual 309, 3) := by decide +kernel
theorem dL_law_209 : decode cL_law 209 = .ok (.ifCond .ne 19, 3) := by decide +kernel
theorem dL_law_212 : decode cL_law 212 = .ok (.aload_n 2, 1) := by decide +kernel
theorem dL_law_213 : decode cL_law 213 = .ok (.bipush 9, 2) := by decide +kernel
theorem dL_law_215 : decode cL_law 215 = .ok (.iconst 0, 1) := by decide +kernel
theorem dL_law_216 : decode cL_law 216 = .ok (.invokestatic 174, 3) := by decide +kernel
theorem dL_law_219 : decode cL_law 219 = .ok (.bipush (-102), 2) := by decide +kernel
theorem dL_law_221 : decode cL_law 221 = .ok (.if_icmp .ne 7, 3) := by decide +kernel
theorem dL_law_224 : decode cL_law 224 = .ok (.iconst 1, 1) := by decide +kernel
theorem dL_law_225 : decode cL_law 225 = .ok (.goto 4, 3) := by decide +kernel
theorem dL_law_228 : decode cL_law 228 = .ok (.iconst 0, 1) := by decide +kernel
theorem dL_law_229 : decode cL_law 229 = .ok (.istore_n 3, 1) := by decide +kernel
theorem dL_law_230 : decode cL_law 230 = .ok (.iconst 0, 1) := by decide +kernel
theorem dL_law_231 : decode cL_law 231 = .ok (.istore 5, 2) := by decide +kernel
theorem dL_law_233 : decode cL_law 233 = .ok (.iload 5, 2) := by decide +kernel
theorem dL_law_235 : decode cL_law 235 = .ok (.bipush 9, 2) := by decide +kernel
theorem dL_law_237 : decode cL_law 237 = .ok (.if_icmp .ge 38, 3) := by decide +kernel
theorem dL_law_240 : decode cL_law 240 = .ok (.iload_n 3, 1) := by decide +kernel
theorem dL_law_241 : decode cL_law 241 = .ok (.ifCond .eq 34, 3) := by decide +kernel
theorem dL_law_244 : decode cL_law 244 = .ok (.aload_n 2, 1) := by decide +kernel
theorem dL_law_245 : decode cL_law 245 = .ok (.aload_n 1, 1) := by decide +kernel
theorem dL_law_246 : decode cL_law 246 = .ok (.iload 4, 2) := by decide +kernel
theorem dL_law_248 : decode cL_law 248 = .ok (.iaload, 1) := by decide +kernel
theorem dL_law_249 : decode cL_law 249 = .ok (.iconst 3, 1) := by decide +kernel
theorem dL_law_250 : decode cL_law 250 = .ok (.iload 5, 2) := by decide +kernel
theorem dL_law_252 : decode cL_law 252 = .ok (.imul, 1) := by decide +kernel
theorem dL_law_253 : decode cL_law 253 = .ok (.ishr, 1) := by decide +kernel
theorem dL_law_254 : decode cL_law 254 = .ok (.aload_n 1, 1) := by decide +kernel
theorem dL_law_255 : decode cL_law 255 = .ok (.iload 4, 2) := by decide +kernel
theorem dL_law_257 : decode cL_law 257 = .ok (.iconst 1, 1) := by decide +kernel
theorem dL_law_258 : decode cL_law 258 = .ok (.iadd, 1) := by decide +kernel
theorem dL_law_259 : decode cL_law 259 = .ok (.iaload, 1) := by decide +kernel
theorem dL_law_260 : decode cL_law 260 = .ok (.iconst 2, 1) := by decide +kernel
theorem dL_law_261 : decode cL_law 261 = .ok (.iload 5, 2) := by decide +kernel
theorem dL_law_263 : decode cL_law 263 = .ok (.imul, 1) := by decide +kernel
theorem dL_law_264 : decode cL_law 264 = .ok (.ishr, 1) := by decide +kernel
theorem dL_law_265 : decode cL_law 265 = .ok (.invokestatic 313, 3) := by decide +kernel
theorem dL_law_268 : decode cL_law 268 = .ok (.istore_n 3, 1) := by decide +kernel
theorem dL_law_269 : decode cL_law 269 = .ok (.iinc 5 1, 3) := by decide +kernel
theorem dL_law_272 : decode cL_law 272 = .ok (.goto (-39), 3) := by decide +kernel
theorem dL_law_275 : decode cL_law 275 = .ok (.iload_n 3, 1) := by decide +kernel
theorem dL_law_276 : decode cL_law 276 = .ok (.ifCond .eq 10, 3) := by decide +kernel
theorem dL_law_279 : decode cL_law 279 = .ok (.aload_n 2, 1) := by decide +kernel
theorem dL_law_280 : decode cL_law 280 = .ok (.invokestatic 279, 3) := by decide +kernel
theorem dL_law_283 : decode cL_law 283 = .ok (.goto 4, 3) := by decide +kernel
theorem dL_law_286 : decode cL_law 286 = .ok (.lconst 0, 1) := by decide +kernel
theorem dL_law_287 : decode cL_law 287 = .ok (.lstore 5, 2) := by decide +kernel
theorem dL_law_289 : decode cL_law 289 = .ok (.iload_n 3, 1) := by decide +kernel
theorem dL_law_290 : decode cL_law 290 = .ok (.ifCond .eq 65, 3) := by decide +kernel
theorem dL_law_293 : decode cL_law 293 = .ok (.aload_n 2, 1) := by decide +kernel
theorem dL_law_294 : decode cL_law 294 = .ok (.aload_n 1, 1) := by decide +kernel
theorem dL_law_295 : decode cL_law 295 = .ok (.iload 4, 2) := by decide +kernel
theorem dL_law_297 : decode cL_law 297 = .ok (.iaload, 1) := by decide +kernel
theorem dL_law_298 : decode cL_law 298 = .ok (.invokestatic 297, 3) := by decide +kernel
theorem dL_law_301 : decode cL_law 301 = .ok (.ifCond .eq 54, 3) := by decide +kernel
theorem dL_law_304 : decode cL_law 304 = .ok (.aload_n 2, 1) := by decide +kernel
theorem dL_law_305 : decode cL_law 305 = .ok (.invokestatic 291, 3) := by decide +kernel
theorem dL_law_308 : decode cL_law 308 = .ok (.ifCond .eq 47, 3) := by decide +kernel
theorem dL_law_311 : decode cL_law 311 = .ok (.aload_n 2, 1) := by decide +kernel
theorem dL_law_312 : decode cL_law 312 = .ok (.invokestatic 279, 3) := by decide +kernel
theorem dL_law_315 : decode cL_law 315 = .ok (.lload 5, 2) := by decide +kernel
theorem dL_law_317 : decode cL_law 317 = .ok (.lcmp, 1) := by decide +kernel
theorem dL_law_318 : decode cL_law 318 = .ok (.ifCond .ne 37, 3) := by decide +kernel
theorem dL_law_321 : decode cL_law 321 = .ok (.aload_n 2, 1) := by decide +kernel
theorem dL_law_322 : decode cL_law 322 = .ok (.invokestatic 317, 3) := by decide +kernel
theorem dL_law_325 : decode cL_law 325 = .ok (.ifCond .eq 30, 3) := by decide +kernel
theorem dL_law_328 : decode cL_law 328 = .ok (.aload_n 2, 1) := by decide +kernel
theorem dL_law_329 : decode cL_law 329 = .ok (.aload_n 1, 1) := by decide +kernel
theorem dL_law_330 : decode cL_law 330 = .ok (.iload 4, 2) := by decide +kernel
theorem dL_law_332 : decode cL_law 332 = .ok (.iconst 1, 1) := by decide +kernel
theorem dL_law_333 : decode cL_law 333 = .ok (.iadd, 1) := by decide +kernel
theorem dL_law_334 : decode cL_law 334 = .ok (.iaload, 1) := by decide +kernel
theorem dL_law_335 : decode cL_law 335 = .ok (.invokestatic 319, 3) := by decide +kernel
theorem dL_law_338 : decode cL_law 338 = .ok (.ifCond .eq 17, 3) := by decide +kernel
theorem dL_law_341 : decode cL_law 341 = .ok (.aload_n 2, 1) := by decide +kernel
theorem dL_law_342 : decode cL_law 342 = .ok (.invokestatic 279, 3) := by decide +kernel
theorem dL_law_345 : decode cL_law 345 = .ok (.lload 5, 2) := by decide +kernel
theorem dL_law_347 : decode cL_law 347 = .ok (.lcmp, 1) := by decide +kernel
theorem dL_law_348 : decode cL_law 348 = .ok (.ifCond .ne 7, 3) := by decide +kernel
theorem dL_law_351 : decode cL_law 351 = .ok (.iconst 1, 1) := by decide +kernel
theorem dL_law_352 : decode cL_law 352 = .ok (.goto 4, 3) := by decide +kernel
theorem dL_law_355 : decode cL_law 355 = .ok (.iconst 0, 1) := by decide +kernel
theorem dL_law_356 : decode cL_law 356 = .ok (.istore_n 3, 1) := by decide +kernel
theorem dL_law_357 : decode cL_law 357 = .ok (.iinc 4 2, 3) := by decide +kernel
theorem dL_law_360 : decode cL_law 360 = .ok (.goto (-208), 3) := by decide +kernel
theorem dL_law_363 : decode cL_law 363 = .ok (.iload_n 3, 1) := by decide +kernel
theorem dL_law_364 : decode cL_law 364 = .ok (.ireturn, 1) := by decide +kernel
