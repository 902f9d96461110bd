theorem dL_moon_0 : decode cL_moon 0 = .ok (.aload_n 0, 1) := by decide +kernel
theorem dL_moon_1 : decode cL_moon 1 = .ok (.invokevirtual 214, 3) := by decide +kernel
theorem dL_moon_4 : decode cL_moon 4 = .ok (.istore_n 2, 1) := by decide +kernel
theorem dL_moon_5 : decode cL_moon 5 = .ok (.aload_n 0, 1) := by decide +kernel
theorem dL_moon_6 : decode cL_moon 6 = .ok (.bipush 16, 2) := by decide +kernel
theorem dL_moon_8 : decode cL_moon 8 = .ok (.iconst (-1), 1) := by decide +kernel
theorem dL_moon_9 : decode cL_moon 9 = .ok (.invokestatic 174, 3) := by decide +kernel
theorem dL_moon_12 : decode cL_moon 12 = .ok (.bipush (-103), 2) := by decide +kernel
theorem dL_moon_14 : decode cL_moon 14 = .ok (.if_icmp .ne 46, 3) := by decide +kernel
theorem dL_moon_17 : decode cL_moon 17 = .ok (.aload_n 0, 1) := by decide +kernel
theorem dL_moon_18 : decode cL_moon 18 = .ok (.bipush 19, 2) := by decide +kernel
theorem dL_moon_20 : decode cL_moon 20 = .ok (.sipush 2001, 3) := by decide +kernel
theorem dL_moon_23 : decode cL_moon 23 = .ok (.invokestatic 174, 3) := by decide +kernel
theorem dL_moon_26 : decode cL_moon 26 = .ok (.bipush (-103), 2) := by decide +kernel
theorem dL_moon_28 : decode cL_moon 28 = .ok (.if_icmp .ne 32, 3) := by decide +kernel
theorem dL_moon_31 : decode cL_moon 31 = .ok (.aload_n 0, 1) := by decide +kernel
theorem dL_moon_32 : decode cL_moon 32 = .ok (.bipush 20, 2) := by decide +kernel
theorem dL_moon_34 : decode cL_moon 34 = .ok (.iconst 4, 1) := by decide +kernel
theorem dL_moon_35 : decode cL_moon 35 = .ok (.iconst 0, 1) := by decide +kernel
theorem dL_moon_36 : decode cL_moon 36 = .ok (.invokestatic 249, 3) := by decide +kernel
theorem dL_moon_39 : decode cL_moon 39 = .ok (.bipush (-103), 2) := by decide +kernel
theorem dL_moon_41 : decode cL_moon 41 = .ok (.if_icmp .ne 19, 3) := by decide +kernel
theorem dL_moon_44 : decode cL_moon 44 = .ok (.aload_n 0, 1) := by decide +kernel
theorem dL_moon_45 : decode cL_moon 45 = .ok (.bipush 21, 2) := by decide +kernel
theorem dL_moon_47 : decode cL_moon 47 = .ok (.iconst (-1), 1) := by decide +kernel
theorem dL_moon_48 : decode cL_moon 48 = .ok (.invokestatic 174, 3) := by decide +kernel
theorem dL_moon_51 : decode cL_moon 51 = .ok (.bipush (-103), 2) := by decide +kernel
theorem dL_moon_53 : decode cL_moon 53 = .ok (.if_icmp .ne 7, 3) := by decide +kernel
theorem dL_moon_56 : decode cL_moon 56 = .ok (.iconst 1, 1) := by decide +kernel
theorem dL_moon_57 : decode cL_moon 57 = .ok (.goto 4, 3) := by decide +kernel
theorem dL_moon_60 : decode cL_moon 60 = .ok (.iconst 0, 1) := by decide +kernel
theorem dL_moon_61 : decode cL_moon 61 = .ok (.istore_n 3, 1) := by decide +kernel
theorem dL_moon_62 : decode cL_moon 62 = .ok (.iconst 0, 1) := by decide +kernel
theorem dL_moon_63 : decode cL_moon 63 = .ok (.istore 4, 2) := by decide +kernel
theorem dL_moon_65 : decode cL_moon 65 = .ok (.iload 4, 2) := by decide +kernel
theorem dL_moon_67 : decode cL_moon 67 = .ok (.bipush 30, 2) := by decide +kernel
theorem dL_moon_69 : decode cL_moon 69 = .ok (.if_icmp .ge 352, 3) := by decide +kernel
theorem dL_moon_72 : decode cL_moon 72 = .ok (.iload_n 3, 1) := by decide +kernel
theorem dL_moon_73 : decode cL_moon 73 = .ok (.ifCond .eq 348, 3) := by decide +kernel
theorem dL_moon_76 : decode cL_moon 76 = .ok (.iload 4, 2) := by decide +kernel
theorem dL_moon_78 : decode cL_moon 78 = .ok (.iconst 3, 1) := by decide +kernel
theorem dL_moon_79 : decode cL_moon 79 = .ok (.if_icmp .ge 19, 3) := by decide +kernel
theorem dL_moon_82 : decode cL_moon 82 = .ok (.iload_n 1, 1) := by decide +kernel
theorem dL_moon_83 : decode cL_moon 83 = .ok (.iconst 3, 1) := by decide +kernel
theorem dL_moon_84 : decode cL_moon 84 = .ok (.iload 4, 2) := by decide +kernel
theorem dL_moon_86 : decode cL_moon 86 = .ok (.imul, 1) := by decide +kernel
theorem dL_moon_87 : decode cL_moon 87 = .ok (.ishr, 1) := by decide +kernel
theorem dL_moon_88 : decode cL_moon 88 = .ok (.ldc 252, 2) := by decide +kernel
theorem dL_moon_90 : decode cL_moon 90 = .ok (.iand, 1) := by decide +kernel
theorem dL_moon_91 : decode cL_moon 91 = .ok (.sipush 1900, 3) := by decide +kernel
theorem dL_moon_94 : decode cL_moon 94 = .ok (.irem, 1) := by decide +kernel
theorem dL_moon_95 : decode cL_moon 95 = .ok (.goto 7, 3) := by decide +kernel
theorem dL_moon_98 : decode cL_moon 98 = .ok (.iload_n 2, 1) := by decide +kernel
theorem dL_moon_99 : decode cL_moon 99 = .ok (.iload 4, 2) := by decide +kernel
theorem dL_moon_101 : decode cL_moon 101 = .ok (.iadd, 1) := by decide +kernel
theorem dL_moon_102 : decode cL_moon 102 = .ok (.istore 5, 2) := by decide +kernel
theorem dL_moon_104 : decode cL_moon 104 = .ok (.iload 5, 2) := by decide +kernel
theorem dL_moon_106 : decode cL_moon 106 = .ok (.bipush 28, 2) := by decide +kernel
theorem dL_moon_108 : decode cL_moon 108 = .ok (.irem, 1) := by decide +kernel
theorem dL_moon_109 : decode cL_moon 109 = .ok (.istore 6, 2) := by decide +kernel
theorem dL_moon_111 : decode cL_moon 111 = .ok (.aload_n 0, 1) := by decide +kernel
theorem dL_moon_112 : decode cL_moon 112 = .ok (.bipush 16, 2) := by decide +kernel
theorem dL_moon_114 : decode cL_moon 114 = .ok (.iload 5, 2) := by decide +kernel
theorem dL_moon_116 : decode cL_moon 116 = .ok (.invokestatic 174, 3) := by decide +kernel
theorem dL_moon_119 : decode cL_moon 119 = .ok (.istore 7, 2) := by decide +kernel
theorem dL_moon_121 : decode cL_moon 121 = .ok (.aload_n 0, 1) := by decide +kernel
theorem dL_moon_122 : decode cL_moon 122 = .ok (.bipush 17, 2) := by decide +kernel
theorem dL_moon_124 : decode cL_moon 124 = .ok (.iload 5, 2) := by decide +kernel
theorem dL_moon_126 : decode cL_moon 126 = .ok (.invokestatic 174, 3) := by decide +kernel
theorem dL_moon_129 : decode cL_moon 129 = .ok (.istore 8, 2) := by decide +kernel
theorem dL_moon_131 : decode cL_moon 131 = .ok (.aload_n 0, 1) := by decide +kernel
theorem dL_moon_132 : decode cL_moon 132 = .ok (.bipush 18, 2) := by decide +kernel
theorem dL_moon_134 : decode cL_moon 134 = .ok (.iload 5, 2) := by decide +kernel
theorem dL_moon_136 : decode cL_moon 136 = .ok (.invokestatic 174, 3) := by decide +kernel
theorem dL_moon_139 : decode cL_moon 139 = .ok (.istore 9, 2) := by decide +kernel
theorem dL_moon_141 : decode cL_moon 141 = .ok (.aload_n 0, 1) := by decide +kernel
theorem dL_moon_142 : decode cL_moon 142 = .ok (.bipush 19, 2) := by decide +kernel
theorem dL_moon_144 : decode cL_moon 144 = .ok (.iload 5, 2) := by decide +kernel
theorem dL_moon_146 : decode cL_moon 146 = .ok (.invokestatic 174, 3) := by decide +kernel
theorem dL_moon_149 : decode cL_moon 149 = .ok (.istore 10, 2) := by decide +kernel
theorem dL_moon_151 : decode cL_moon 151 = .ok (.iload 7, 2) := by decide +kernel
theorem dL_moon_153 : decode cL_moon 153 = .ok (.iload 6, 2) := by decide +kernel
theorem dL_moon_155 : decode cL_moon 155 = .ok (.bipush 14, 2) := by decide +kernel
theorem dL_moon_157 : decode cL_moon 157 = .ok (.if_icmp .gt 8, 3) := by decide +kernel
theorem dL_moon_160 : decode cL_moon 160 = .ok (.iload 6, 2) := by decide +kernel
theorem dL_moon_162 : decode cL_moon 162 = .ok (.goto 8, 3) := by decide +kernel
theorem dL_moon_165 : decode cL_moon 165 = .ok (.bipush 28, 2) := by decide +kernel
theorem dL_moon_167 : decode cL_moon 167 = .ok (.iload 6, 2) := by decide +kernel
theorem dL_moon_169 : decode cL_moon 169 = .ok (.isub, 1) := by decide +kernel
theorem dL_moon_170 : decode cL_moon 170 = .ok (.if_icmp .ne 126, 3) := by decide +kernel
theorem dL_moon_173 : decode cL_moon 173 = .ok (.iload 8, 2) := by decide +kernel
theorem dL_moon_175 : decode cL_moon 175 = .ok (.iload 6, 2) := by decide +kernel
theorem dL_moon_177 : decode cL_moon 177 = .ok (.bipush 14, 2) := by decide +kernel
theorem dL_moon_179 : decode cL_moon 179 = .ok (.irem, 1) := by decide +kernel
theorem dL_moon_180 : decode cL_moon 180 = .ok (.bipush 7, 2) := by decide +kernel
theorem dL_moon_182 : decode cL_moon 182 = .ok (.if_icmp .gt 14, 3) := by decide +kernel
theorem dL_moon_185 : decode cL_moon 185 = .ok (.bipush 7, 2) := by decide +kernel
theorem dL_moon_187 : decode cL_moon 187 = .ok (.iload 6, 2) := by decide +kernel
theorem dL_moon_189 : decode cL_moon 189 = .ok (.bipush 14, 2) := by decide +kernel
theorem dL_moon_191 : decode cL_moon 191 = .ok (.irem, 1) := by decide +kernel
theorem dL_moon_192 : decode cL_moon 192 = .ok (.isub, 1) := by decide +kernel
theorem dL_moon_193 : decode cL_moon 193 = .ok (.goto 11, 3) := by decide +kernel
theorem dL_moon_196 : decode cL_moon 196 = .ok (.iload 6, 2) := by decide +kernel
theorem dL_moon_198 : decode cL_moon 198 = .ok (.bipush 14, 2) := by decide +kernel
theorem dL_moon_200 : decode cL_moon 200 = .ok (.irem, 1) := by decide +kernel
theorem dL_moon_201 : decode cL_moon 201 = .ok (.bipush 7, 2) := by decide +kernel
theorem dL_moon_203 : decode cL_moon 203 = .ok (.isub, 1) := by decide +kernel
theorem dL_moon_204 : decode cL_moon 204 = .ok (.if_icmp .ne 92, 3) := by decide +kernel
theorem dL_moon_207 : decode cL_moon 207 = .ok (.aload_n 0, 1) := by decide +kernel
theorem dL_moon_208 : decode cL_moon 208 = .ok (.bipush 16, 2) := by decide +kernel
theorem dL_moon_210 : decode cL_moon 210 = .ok (.iload 5, 2) := by decide +kernel
theorem dL_moon_212 : decode cL_moon 212 = .ok (.bipush 28, 2) := by decide +kernel
theorem dL_moon_214 : decode cL_moon 214 = .ok (.iadd, 1) := by decide +kernel
theorem dL_moon_215 : decode cL_moon 215 = .ok (.invokestatic 174, 3) := by decide +kernel
theorem dL_moon_218 : decode cL_moon 218 = .ok (.iload 7, 2) := by decide +kernel
theorem dL_moon_220 : decode cL_moon 220 = .ok (.if_icmp .ne 76, 3) := by decide +kernel
theorem dL_moon_223 : decode cL_moon 223 = .ok (.aload_n 0, 1) := by decide +kernel
theorem dL_moon_224 : decode cL_moon 224 = .ok (.bipush 17, 2) := by decide +kernel
theorem dL_moon_226 : decode cL_moon 226 = .ok (.iload 5, 2) := by decide +kernel
theorem dL_moon_228 : decode cL_moon 228 = .ok (.bipush 14, 2) := by decide +kernel
theorem dL_moon_230 : decode cL_moon 230 = .ok (.iadd, 1) := by decide +kernel
theorem dL_moon_231 : decode cL_moon 231 = .ok (.invokestatic 174, 3) := by decide +kernel
theorem dL_moon_234 : decode cL_moon 234 = .ok (.iload 8, 2) := by decide +kernel
theorem dL_moon_236 : decode cL_moon 236 = .ok (.if_icmp .ne 60, 3) := by decide +kernel
theorem dL_moon_239 : decode cL_moon 239 = .ok (.iload 9, 2) := by decide +kernel
theorem dL_moon_241 : decode cL_moon 241 = .ok (.ifCond .lt 55, 3) := by decide +kernel
theorem dL_moon_244 : decode cL_moon 244 = .ok (.iload 9, 2) := by decide +kernel
theorem dL_moon_246 : decode cL_moon 246 = .ok (.bipush 10, 2) := by decide +kernel
theorem dL_moon_248 : decode cL_moon 248 = .ok (.if_icmp .ge 48, 3) := by decide +kernel
theorem dL_moon_251 : decode cL_moon 251 = .ok (.aload_n 0, 1) := by decide +kernel
theorem dL_moon_252 : decode cL_moon 252 = .ok (.bipush 18, 2) := by decide +kernel
theorem dL_moon_254 : decode cL_moon 254 = .ok (.iload 5, 2) := by decide +kernel
theorem dL_moon_256 : decode cL_moon 256 = .ok (.aload_n 0, 1) := by decide +kernel
theorem dL_moon_257 : decode cL_moon 257 = .ok (.invokevirtual 236, 3) := by decide +kernel
theorem dL_moon_260 : decode cL_moon 260 = .ok (.iadd, 1) := by decide +kernel
theorem dL_moon_261 : decode cL_moon 261 = .ok (.invokestatic 174, 3) := by decide +kernel
theorem dL_moon_264 : decode cL_moon 264 = .ok (.iload 9, 2) := by decide +kernel
theorem dL_moon_266 : decode cL_moon 266 = .ok (.if_icmp .ne 30, 3) := by decide +kernel
theorem dL_moon_269 : decode cL_moon 269 = .ok (.iload 10, 2) := by decide +kernel
theorem dL_moon_271 : decode cL_moon 271 = .ok (.iload 7, 2) := by decide +kernel
theorem dL_moon_273 : decode cL_moon 273 = .ok (.bipush 10, 2) := by decide +kernel
theorem dL_moon_275 : decode cL_moon 275 = .ok (.iload 9, 2) := by decide +kernel
theorem dL_moon_277 : decode cL_moon 277 = .ok (.isub, 1) := by decide +kernel
theorem dL_moon_278 : decode cL_moon 278 = .ok (.imul, 1) := by decide +kernel
theorem dL_moon_279 : decode cL_moon 279 = .ok (.bipush 10, 2) := by decide +kernel
theorem dL_moon_281 : decode cL_moon 281 = .ok (.idiv, 1) := by decide +kernel
theorem dL_moon_282 : decode cL_moon 282 = .ok (.if_icmp .ne 14, 3) := by decide +kernel
theorem dL_moon_285 : decode cL_moon 285 = .ok (.iload 10, 2) := by decide +kernel
theorem dL_moon_287 : decode cL_moon 287 = .ok (.iload 7, 2) := by decide +kernel
theorem dL_moon_289 : decode cL_moon 289 = .ok (.if_icmp .gt 7, 3) := by decide +kernel
theorem dL_moon_292 : decode cL_moon 292 = .ok (.iconst 1, 1) := by decide +kernel
theorem dL_moon_293 : decode cL_moon 293 = .ok (.goto 4, 3) := by decide +kernel
theorem dL_moon_296 : decode cL_moon 296 = .ok (.iconst 0, 1) := by decide +kernel
theorem dL_moon_297 : decode cL_moon 297 = .ok (.istore_n 3, 1) := by decide +kernel
theorem dL_moon_298 : decode cL_moon 298 = .ok (.iload_n 3, 1) := by decide +kernel
theorem dL_moon_299 : decode cL_moon 299 = .ok (.ifCond .eq 114, 3) := by decide +kernel
theorem dL_moon_302 : decode cL_moon 302 = .ok (.aload_n 0, 1) := by decide +kernel
theorem dL_moon_303 : decode cL_moon 303 = .ok (.bipush 20, 2) := by decide +kernel
theorem dL_moon_305 : decode cL_moon 305 = .ok (.iconst 0, 1) := by decide +kernel
theorem dL_moon_306 : decode cL_moon 306 = .ok (.iload 5, 2) := by decide +kernel
theorem dL_moon_308 : decode cL_moon 308 = .ok (.invokestatic 249, 3) := by decide +kernel
theorem dL_moon_311 : decode cL_moon 311 = .ok (.iload 10, 2) := by decide +kernel
theorem dL_moon_313 : decode cL_moon 313 = .ok (.aload_n 0, 1) := by decide +kernel
theorem dL_moon_314 : decode cL_moon 314 = .ok (.invokevirtual 222, 3) := by decide +kernel
theorem dL_moon_317 : decode cL_moon 317 = .ok (.if_icmp .lt 7, 3) := by decide +kernel
theorem dL_moon_320 : decode cL_moon 320 = .ok (.iconst 1, 1) := by decide +kernel
theorem dL_moon_321 : decode cL_moon 321 = .ok (.goto 4, 3) := by decide +kernel
theorem dL_moon_324 : decode cL_moon 324 = .ok (.iconst 0, 1) := by decide +kernel
theorem dL_moon_325 : decode cL_moon 325 = .ok (.if_icmp .ne 88, 3) := by decide +kernel
theorem dL_moon_328 : decode cL_moon 328 = .ok (.aload_n 0, 1) := by decide +kernel
theorem dL_moon_329 : decode cL_moon 329 = .ok (.bipush 20, 2) := by decide +kernel
theorem dL_moon_331 : decode cL_moon 331 = .ok (.iconst 1, 1) := by decide +kernel
theorem dL_moon_332 : decode cL_moon 332 = .ok (.iload 5, 2) := by decide +kernel
theorem dL_moon_334 : decode cL_moon 334 = .ok (.invokestatic 249, 3) := by decide +kernel
theorem dL_moon_337 : decode cL_moon 337 = .ok (.iload 10, 2) := by decide +kernel
theorem dL_moon_339 : decode cL_moon 339 = .ok (.aload_n 0, 1) := by decide +kernel
theorem dL_moon_340 : decode cL_moon 340 = .ok (.invokevirtual 225, 3) := by decide +kernel
theorem dL_moon_343 : decode cL_moon 343 = .ok (.if_icmp .gt 7, 3) := by decide +kernel
theorem dL_moon_346 : decode cL_moon 346 = .ok (.iconst 1, 1) := by decide +kernel
theorem dL_moon_347 : decode cL_moon 347 = .ok (.goto 4, 3) := by decide +kernel
theorem dL_moon_350 : decode cL_moon 350 = .ok (.iconst 0, 1) := by decide +kernel
theorem dL_moon_351 : decode cL_moon 351 = .ok (.if_icmp .ne 62, 3) := by decide +kernel
theorem dL_moon_354 : decode cL_moon 354 = .ok (.aload_n 0, 1) := by decide +kernel
theorem dL_moon_355 : decode cL_moon 355 = .ok (.bipush 20, 2) := by decide +kernel
theorem dL_moon_357 : decode cL_moon 357 = .ok (.iconst 2, 1) := by decide +kernel
theorem dL_moon_358 : decode cL_moon 358 = .ok (.iload 5, 2) := by decide +kernel
theorem dL_moon_360 : decode cL_moon 360 = .ok (.invokestatic 249, 3) := by decide +kernel
theorem dL_moon_363 : decode cL_moon 363 = .ok (.iload 8, 2) := by decide +kernel
theorem dL_moon_365 : decode cL_moon 365 = .ok (.aload_n 0, 1) := by decide +kernel
theorem dL_moon_366 : decode cL_moon 366 = .ok (.invokevirtual 228, 3) := by decide +kernel
theorem dL_moon_369 : decode cL_moon 369 = .ok (.if_icmp .lt 7, 3) := by decide +kernel
theorem dL_moon_372 : decode cL_moon 372 = .ok (.iconst 1, 1) := by decide +kernel
theorem dL_moon_373 : decode cL_moon 373 = .ok (.goto 4, 3) := by decide +kernel
theorem dL_moon_376 : decode cL_moon 376 = .ok (.iconst 0, 1) := by decide +kernel
theorem dL_moon_377 : decode cL_moon 377 = .ok (.if_icmp .ne 36, 3) := by decide +kernel
theorem dL_moon_380 : decode cL_moon 380 = .ok (.aload_n 0, 1) := by decide +kernel
theorem dL_moon_381 : decode cL_moon 381 = .ok (.bipush 20, 2) := by decide +kernel
theorem dL_moon_383 : decode cL_moon 383 = .ok (.iconst 3, 1) := by decide +kernel
theorem dL_moon_384 : decode cL_moon 384 = .ok (.iload 5, 2) := by decide +kernel
theorem dL_moon_386 : decode cL_moon 386 = .ok (.invokestatic 249, 3) := by decide +kernel
theorem dL_moon_389 : decode cL_moon 389 = .ok (.iload 7, 2) := by decide +kernel
theorem dL_moon_391 : decode cL_moon 391 = .ok (.iconst 4, 1) := by decide +kernel
theorem dL_moon_392 : decode cL_moon 392 = .ok (.if_icmp .lt 13, 3) := by decide +kernel
theorem dL_moon_395 : decode cL_moon 395 = .ok (.iload 9, 2) := by decide +kernel
theorem dL_moon_397 : decode cL_moon 397 = .ok (.iconst 2, 1) := by decide +kernel
theorem dL_moon_398 : decode cL_moon 398 = .ok (.if_icmp .gt 7, 3) := by decide +kernel
theorem dL_moon_401 : decode cL_moon 401 = .ok (.iconst 1, 1) := by decide +kernel
theorem dL_moon_402 : decode cL_moon 402 = .ok (.goto 4, 3) := by decide +kernel
theorem dL_moon_405 : decode cL_moon 405 = .ok (.iconst 0, 1) := by decide +kernel
theorem dL_moon_406 : decode cL_moon 406 = .ok (.if_icmp .ne 7, 3) := by decide +kernel
theorem dL_moon_409 : decode cL_moon 409 = .ok (.iconst 1, 1) := by decide +kernel
theorem dL_moon_410 : decode cL_moon 410 = .ok (.goto 4, 3) := by decide +kernel
theorem dL_moon_413 : decode cL_moon 413 = .ok (.iconst 0, 1) := by decide +kernel
theorem dL_moon_414 : decode cL_moon 414 = .ok (.istore_n 3, 1) := by decide +kernel
theorem dL_moon_415 : decode cL_moon 415 = .ok (.iinc 4 1, 3) := by decide +kernel
theorem dL_moon_418 : decode cL_moon 418 = .ok (.goto (-353), 3) := by decide +kernel
theorem dL_moon_421 : decode cL_moon 421 = .ok (.iconst 0, 1) := by decide +kernel
theorem dL_moon_422 : decode cL_moon 422 = .ok (.istore 4, 2) := by decide +kernel
theorem dL_moon_424 : decode cL_moon 424 = .ok (.iconst 0, 1) := by decide +kernel
theorem dL_moon_425 : decode cL_moon 425 = .ok (.istore 5, 2) := by decide +kernel
theorem dL_moon_427 : decode cL_moon 427 = .ok (.iload 5, 2) := by decide +kernel
theorem dL_moon_429 : decode cL_moon 429 = .ok (.iconst 4, 1) := by decide +kernel
theorem dL_moon_430 : decode cL_moon 430 = .ok (.if_icmp .ge 148, 3) := by decide +kernel
theorem dL_moon_433 : decode cL_moon 433 = .ok (.iload_n 3, 1) := by decide +kernel
theorem dL_moon_434 : decode cL_moon 434 = .ok (.ifCond .eq 144, 3) := by decide +kernel
theorem dL_moon_437 : decode cL_moon 437 = .ok (.iconst 0, 1) := by decide +kernel
theorem dL_moon_438 : decode cL_moon 438 = .ok (.istore 6, 2) := by decide +kernel
theorem dL_moon_440 : decode cL_moon 440 = .ok (.bipush (-101), 2) := by decide +kernel
theorem dL_moon_442 : decode cL_moon 442 = .ok (.istore 7, 2) := by decide +kernel
theorem dL_moon_444 : decode cL_moon 444 = .ok (.iload_n 2, 1) := by decide +kernel
theorem dL_moon_445 : decode cL_moon 445 = .ok (.istore 8, 2) := by decide +kernel
theorem dL_moon_447 : decode cL_moon 447 = .ok (.iload 8, 2) := by decide +kernel
theorem dL_moon_449 : decode cL_moon 449 = .ok (.iload_n 2, 1) := by decide +kernel
theorem dL_moon_450 : decode cL_moon 450 = .ok (.sipush 280, 3) := by decide +kernel
theorem dL_moon_453 : decode cL_moon 453 = .ok (.iadd, 1) := by decide +kernel
theorem dL_moon_454 : decode cL_moon 454 = .ok (.if_icmp .ge 69, 3) := by decide +kernel
theorem dL_moon_457 : decode cL_moon 457 = .ok (.aload_n 0, 1) := by decide +kernel
theorem dL_moon_458 : decode cL_moon 458 = .ok (.bipush 20, 2) := by decide +kernel
theorem dL_moon_460 : decode cL_moon 460 = .ok (.iload 5, 2) := by decide +kernel
theorem dL_moon_462 : decode cL_moon 462 = .ok (.iload 8, 2) := by decide +kernel
theorem dL_moon_464 : decode cL_moon 464 = .ok (.invokestatic 249, 3) := by decide +kernel
theorem dL_moon_467 : decode cL_moon 467 = .ok (.istore 9, 2) := by decide +kernel
theorem dL_moon_469 : decode cL_moon 469 = .ok (.iload 8, 2) := by decide +kernel
theorem dL_moon_471 : decode cL_moon 471 = .ok (.iload_n 2, 1) := by decide +kernel
theorem dL_moon_472 : decode cL_moon 472 = .ok (.bipush 28, 2) := by decide +kernel
theorem dL_moon_474 : decode cL_moon 474 = .ok (.iadd, 1) := by decide +kernel
theorem dL_moon_475 : decode cL_moon 475 = .ok (.if_icmp .ge 10, 3) := by decide +kernel
theorem dL_moon_478 : decode cL_moon 478 = .ok (.iload 6, 2) := by decide +kernel
theorem dL_moon_480 : decode cL_moon 480 = .ok (.iload 9, 2) := by decide +kernel
theorem dL_moon_482 : decode cL_moon 482 = .ok (.iadd, 1) := by decide +kernel
theorem dL_moon_483 : decode cL_moon 483 = .ok (.istore 6, 2) := by decide +kernel
theorem dL_moon_485 : decode cL_moon 485 = .ok (.iload 9, 2) := by decide +kernel
theorem dL_moon_487 : decode cL_moon 487 = .ok (.iconst 1, 1) := by decide +kernel
theorem dL_moon_488 : decode cL_moon 488 = .ok (.if_icmp .ne 12, 3) := by decide +kernel
theorem dL_moon_491 : decode cL_moon 491 = .ok (.iload 7, 2) := by decide +kernel
theorem dL_moon_493 : decode cL_moon 493 = .ok (.ifCond .ge 7, 3) := by decide +kernel
theorem dL_moon_496 : decode cL_moon 496 = .ok (.iload 8, 2) := by decide +kernel
theorem dL_moon_498 : decode cL_moon 498 = .ok (.istore 7, 2) := by decide +kernel
theorem dL_moon_500 : decode cL_moon 500 = .ok (.iload 7, 2) := by decide +kernel
theorem dL_moon_502 : decode cL_moon 502 = .ok (.ifCond .lt 15, 3) := by decide +kernel
theorem dL_moon_505 : decode cL_moon 505 = .ok (.iload 8, 2) := by decide +kernel
theorem dL_moon_507 : decode cL_moon 507 = .ok (.iload_n 2, 1) := by decide +kernel
theorem dL_moon_508 : decode cL_moon 508 = .ok (.bipush 28, 2) := by decide +kernel
theorem dL_moon_510 : decode cL_moon 510 = .ok (.iadd, 1) := by decide +kernel
theorem dL_moon_511 : decode cL_moon 511 = .ok (.if_icmp .lt 6, 3) := by decide +kernel
theorem dL_moon_514 : decode cL_moon 514 = .ok (.goto 9, 3) := by decide +kernel
theorem dL_moon_517 : decode cL_moon 517 = .ok (.iinc 8 1, 3) := by decide +kernel
theorem dL_moon_520 : decode cL_moon 520 = .ok (.goto (-73), 3) := by decide +kernel
theorem dL_moon_523 : decode cL_moon 523 = .ok (.aload_n 0, 1) := by decide +kernel
theorem dL_moon_524 : decode cL_moon 524 = .ok (.bipush 22, 2) := by decide +kernel
theorem dL_moon_526 : decode cL_moon 526 = .ok (.iload 5, 2) := by decide +kernel
theorem dL_moon_528 : decode cL_moon 528 = .ok (.invokestatic 174, 3) := by decide +kernel
theorem dL_moon_531 : decode cL_moon 531 = .ok (.iload 6, 2) := by decide +kernel
theorem dL_moon_533 : decode cL_moon 533 = .ok (.if_icmp .ne 20, 3) := by decide +kernel
theorem dL_moon_536 : decode cL_moon 536 = .ok (.aload_n 0, 1) := by decide +kernel
theorem dL_moon_537 : decode cL_moon 537 = .ok (.bipush 21, 2) := by decide +kernel
theorem dL_moon_539 : decode cL_moon 539 = .ok (.iload 5, 2) := by decide +kernel
theorem dL_moon_541 : decode cL_moon 541 = .ok (.invokestatic 174, 3) := by decide +kernel
theorem dL_moon_544 : decode cL_moon 544 = .ok (.iload 7, 2) := by decide +kernel
theorem dL_moon_546 : decode cL_moon 546 = .ok (.if_icmp .ne 7, 3) := by decide +kernel
theorem dL_moon_549 : decode cL_moon 549 = .ok (.iconst 1, 1) := by decide +kernel
theorem dL_moon_550 : decode cL_moon 550 = .ok (.goto 4, 3) := by decide +kernel
theorem dL_moon_553 : decode cL_moon 553 = .ok (.iconst 0, 1) := by decide +kernel
theorem dL_moon_554 : decode cL_moon 554 = .ok (.istore_n 3, 1) := by decide +kernel
theorem dL_moon_555 : decode cL_moon 555 = .ok (.iload 6, 2) := by decide +kernel
theorem dL_moon_557 : decode cL_moon 557 = .ok (.aload_n 0, 1) := by decide +kernel
theorem dL_moon_558 : decode cL_moon 558 = .ok (.bipush 22, 2) := by decide +kernel
theorem dL_moon_560 : decode cL_moon 560 = .ok (.iload 4, 2) := by decide +kernel
theorem dL_moon_562 : decode cL_moon 562 = .ok (.invokestatic 174, 3) := by decide +kernel
theorem dL_moon_565 : decode cL_moon 565 = .ok (.if_icmp .le 7, 3) := by decide +kernel
theorem dL_moon_568 : decode cL_moon 568 = .ok (.iload 5, 2) := by decide +kernel
theorem dL_moon_570 : decode cL_moon 570 = .ok (.istore 4, 2) := by decide +kernel
theorem dL_moon_572 : decode cL_moon 572 = .ok (.iinc 5 1, 3) := by decide +kernel
theorem dL_moon_575 : decode cL_moon 575 = .ok (.goto (-148), 3) := by decide +kernel
theorem dL_moon_578 : decode cL_moon 578 = .ok (.bipush 6, 2) := by decide +kernel
theorem dL_moon_580 : decode cL_moon 580 = .ok (.aload_n 0, 1) := by decide +kernel
theorem dL_moon_581 : decode cL_moon 581 = .ok (.bipush 19, 2) := by decide +kernel
theorem dL_moon_583 : decode cL_moon 583 = .ok (.iload_n 2, 1) := by decide +kernel
theorem dL_moon_584 : decode cL_moon 584 = .ok (.invokestatic 174, 3) := by decide +kernel
theorem dL_moon_587 : decode cL_moon 587 = .ok (.iconst 3, 1) := by decide +kernel
theorem dL_moon_588 : decode cL_moon 588 = .ok (.idiv, 1) := by decide +kernel
theorem dL_moon_589 : decode cL_moon 589 = .ok (.isub, 1) := by decide +kernel
theorem dL_moon_590 : decode cL_moon 590 = .ok (.istore 5, 2) := by decide +kernel
theorem dL_moon_592 : decode cL_moon 592 = .ok (.iload_n 3, 1) := by decide +kernel
theorem dL_moon_593 : decode cL_moon 593 = .ok (.ifCond .eq 25, 3) := by decide +kernel
theorem dL_moon_596 : decode cL_moon 596 = .ok (.aload_n 0, 1) := by decide +kernel
theorem dL_moon_597 : decode cL_moon 597 = .ok (.invokevirtual 253, 3) := by decide +kernel
theorem dL_moon_600 : decode cL_moon 600 = .ok (.iload 4, 2) := by decide +kernel
theorem dL_moon_602 : decode cL_moon 602 = .ok (.if_icmp .ne 16, 3) := by decide +kernel
theorem dL_moon_605 : decode cL_moon 605 = .ok (.aload_n 0, 1) := by decide +kernel
theorem dL_moon_606 : decode cL_moon 606 = .ok (.invokevirtual 256, 3) := by decide +kernel
theorem dL_moon_609 : decode cL_moon 609 = .ok (.iload 5, 2) := by decide +kernel
theorem dL_moon_611 : decode cL_moon 611 = .ok (.if_icmp .ne 7, 3) := by decide +kernel
theorem dL_moon_614 : decode cL_moon 614 = .ok (.iconst 1, 1) := by decide +kernel
theorem dL_moon_615 : decode cL_moon 615 = .ok (.goto 4, 3) := by decide +kernel
theorem dL_moon_618 : decode cL_moon 618 = .ok (.iconst 0, 1) := by decide +kernel
theorem dL_moon_619 : decode cL_moon 619 = .ok (.ireturn, 1) := by decide +kernel
theorem dL_books_0 : decode cL_books 0 = .ok (.aload_n 0, 1) := by decide +kernel
theorem dL_books_1 : decode cL_books 1 = .ok (.invokevirtual 246, 3) := by decide +kernel
theorem dL_books_4 : decode cL_books 4 = .ok (.istore_n 1, 1) := by decide +kernel
theorem dL_books_5 : decode cL_books 5 = .ok (.aload_n 0, 1) := by decide +kernel
theorem dL_books_6 : decode cL_books 6 = .ok (.invokevirtual 241, 3) := by decide +kernel
theorem dL_books_9 : decode cL_books 9 = .ok (.istore_n 2, 1) := by decide +kernel
theorem dL_books_10 : decode cL_books 10 = .ok (.iconst 4, 1) := by decide +kernel
theorem dL_books_11 : decode cL_books 11 = .ok (.newarray .int, 2) := by decide +kernel
theorem dL_books_13 : decode cL_books 13 = .ok (.astore_n 3, 1) := by decide +kernel
theorem dL_books_14 : decode cL_books 14 = .ok (.iconst 5, 1) := by decide +kernel
theorem dL_books_15 : decode cL_books 15 = .ok (.newarray .int, 2) := by decide +kernel
theorem dL_books_17 : decode cL_books 17 = .ok (.astore 4, 2) := by decide +kernel
theorem dL_books_19 : decode cL_books 19 = .ok (.iconst 0, 1) := by decide +kernel
theorem dL_books_20 : decode cL_books 20 = .ok (.istore 5, 2) := by decide +kernel
theorem dL_books_22 : decode cL_books 22 = .ok (.iconst 0, 1) := by decide +kernel
theorem dL_books_23 : decode cL_books 23 = .ok (.istore 6, 2) := by decide +kernel
theorem dL_books_25 : decode cL_books 25 = .ok (.bipush (-101), 2) := by decide +kernel
theorem dL_books_27 : decode cL_books 27 = .ok (.istore 7, 2) := by decide +kernel
theorem dL_books_29 : decode cL_books 29 = .ok (.bipush (-101), 2) := by decide +kernel
theorem dL_books_31 : decode cL_books 31 = .ok (.istore 8, 2) := by decide +kernel
theorem dL_books_33 : decode cL_books 33 = .ok (.iload_n 1, 1) := by decide +kernel
theorem dL_books_34 : decode cL_books 34 = .ok (.bipush 24, 2) := by decide +kernel
theorem dL_books_36 : decode cL_books 36 = .ok (.if_icmp .gt 61, 3) := by decide +kernel
theorem dL_books_39 : decode cL_books 39 = .ok (.iload_n 2, 1) := by decide +kernel
theorem dL_books_40 : decode cL_books 40 = .ok (.iconst 5, 1) := by decide +kernel
theorem dL_books_41 : decode cL_books 41 = .ok (.if_icmp .gt 56, 3) := by decide +kernel
theorem dL_books_44 : decode cL_books 44 = .ok (.aload_n 0, 1) := by decide +kernel
theorem dL_books_45 : decode cL_books 45 = .ok (.bipush 25, 2) := by decide +kernel
theorem dL_books_47 : decode cL_books 47 = .ok (.iload_n 1, 1) := by decide +kernel
theorem dL_books_48 : decode cL_books 48 = .ok (.invokestatic 174, 3) := by decide +kernel
theorem dL_books_51 : decode cL_books 51 = .ok (.bipush (-104), 2) := by decide +kernel
theorem dL_books_53 : decode cL_books 53 = .ok (.if_icmp .ne 44, 3) := by decide +kernel
theorem dL_books_56 : decode cL_books 56 = .ok (.aload_n 0, 1) := by decide +kernel
theorem dL_books_57 : decode cL_books 57 = .ok (.bipush 39, 2) := by decide +kernel
theorem dL_books_59 : decode cL_books 59 = .ok (.iload_n 2, 1) := by decide +kernel
theorem dL_books_60 : decode cL_books 60 = .ok (.invokestatic 174, 3) := by decide +kernel
theorem dL_books_63 : decode cL_books 63 = .ok (.bipush (-104), 2) := by decide +kernel
theorem dL_books_65 : decode cL_books 65 = .ok (.if_icmp .ne 32, 3) := by decide +kernel
theorem dL_books_68 : decode cL_books 68 = .ok (.aload_n 0, 1) := by decide +kernel
theorem dL_books_69 : decode cL_books 69 = .ok (.bipush 41, 2) := by decide +kernel
theorem dL_books_71 : decode cL_books 71 = .ok (.iload_n 1, 1) := by decide +kernel
theorem dL_books_72 : decode cL_books 72 = .ok (.invokestatic 174, 3) := by decide +kernel
theorem dL_books_75 : decode cL_books 75 = .ok (.bipush (-104), 2) := by decide +kernel
theorem dL_books_77 : decode cL_books 77 = .ok (.if_icmp .ne 20, 3) := by decide +kernel
theorem dL_books_80 : decode cL_books 80 = .ok (.aload_n 0, 1) := by decide +kernel
theorem dL_books_81 : decode cL_books 81 = .ok (.bipush 36, 2) := by decide +kernel
theorem dL_books_83 : decode cL_books 83 = .ok (.bipush 100, 2) := by decide +kernel
theorem dL_books_85 : decode cL_books 85 = .ok (.invokestatic 174, 3) := by decide +kernel
theorem dL_books_88 : decode cL_books 88 = .ok (.bipush (-103), 2) := by decide +kernel
theorem dL_books_90 : decode cL_books 90 = .ok (.if_icmp .ne 7, 3) := by decide +kernel
theorem dL_books_93 : decode cL_books 93 = .ok (.iconst 1, 1) := by decide +kernel
theorem dL_books_94 : decode cL_books 94 = .ok (.goto 4, 3) := by decide +kernel
theorem dL_books_97 : decode cL_books 97 = .ok (.iconst 0, 1) := by decide +kernel
theorem dL_books_98 : decode cL_books 98 = .ok (.istore 9, 2) := by decide +kernel
theorem dL_books_100 : decode cL_books 100 = .ok (.iconst 0, 1) := by decide +kernel
theorem dL_books_101 : decode cL_books 101 = .ok (.istore 10, 2) := by decide +kernel
theorem dL_books_103 : decode cL_books 103 = .ok (.iload 10, 2) := by decide +kernel
theorem dL_books_105 : decode cL_books 105 = .ok (.iload_n 1, 1) := by decide +kernel
theorem dL_books_106 : decode cL_books 106 = .ok (.if_icmp .ge 396, 3) := by decide +kernel
theorem dL_books_109 : decode cL_books 109 = .ok (.iload 9, 2) := by decide +kernel
theorem dL_books_111 : decode cL_books 111 = .ok (.ifCond .eq 391, 3) := by decide +kernel
theorem dL_books_114 : decode cL_books 114 = .ok (.aload_n 0, 1) := by decide +kernel
theorem dL_books_115 : decode cL_books 115 = .ok (.bipush 27, 2) := by decide +kernel
theorem dL_books_117 : decode cL_books 117 = .ok (.iload 10, 2) := by decide +kernel
theorem dL_books_119 : decode cL_books 119 = .ok (.invokestatic 174, 3) := by decide +kernel
theorem dL_books_122 : decode cL_books 122 = .ok (.istore 11, 2) := by decide +kernel
theorem dL_books_124 : decode cL_books 124 = .ok (.aload_n 0, 1) := by decide +kernel
theorem dL_books_125 : decode cL_books 125 = .ok (.bipush 28, 2) := by decide +kernel
theorem dL_books_127 : decode cL_books 127 = .ok (.iload 10, 2) := by decide +kernel
theorem dL_books_129 : decode cL_books 129 = .ok (.invokestatic 174, 3) := by decide +kernel
theorem dL_books_132 : decode cL_books 132 = .ok (.istore 12, 2) := by decide +kernel
theorem dL_books_134 : decode cL_books 134 = .ok (.aload_n 0, 1) := by decide +kernel
theorem dL_books_135 : decode cL_books 135 = .ok (.bipush 29, 2) := by decide +kernel
theorem dL_books_137 : decode cL_books 137 = .ok (.iload 10, 2) := by decide +kernel
theorem dL_books_139 : decode cL_books 139 = .ok (.invokestatic 174, 3) := by decide +kernel
theorem dL_books_142 : decode cL_books 142 = .ok (.istore 13, 2) := by decide +kernel
theorem dL_books_144 : decode cL_books 144 = .ok (.aload_n 0, 1) := by decide +kernel
theorem dL_books_145 : decode cL_books 145 = .ok (.bipush 30, 2) := by decide +kernel
theorem dL_books_147 : decode cL_books 147 = .ok (.iload 10, 2) := by decide +kernel
theorem dL_books_149 : decode cL_books 149 = .ok (.invokestatic 174, 3) := by decide +kernel
theorem dL_books_152 : decode cL_books 152 = .ok (.istore 14, 2) := by decide +kernel
theorem dL_books_154 : decode cL_books 154 = .ok (.aload_n 0, 1) := by decide +kernel
theorem dL_books_155 : decode cL_books 155 = .ok (.bipush 26, 2) := by decide +kernel
theorem dL_books_157 : decode cL_books 157 = .ok (.iload 10, 2) := by decide +kernel
theorem dL_books_159 : decode cL_books 159 = .ok (.invokestatic 174, 3) := by decide +kernel
theorem dL_books_162 : decode cL_books 162 = .ok (.istore 15, 2) := by decide +kernel
theorem dL_books_164 : decode cL_books 164 = .ok (.aload_n 0, 1) := by decide +kernel
theorem dL_books_165 : decode cL_books 165 = .ok (.bipush 31, 2) := by decide +kernel
theorem dL_books_167 : decode cL_books 167 = .ok (.iload 10, 2) := by decide +kernel
theorem dL_books_169 : decode cL_books 169 = .ok (.invokestatic 174, 3) := by decide +kernel
theorem dL_books_172 : decode cL_books 172 = .ok (.istore 16, 2) := by decide +kernel
theorem dL_books_174 : decode cL_books 174 = .ok (.aload_n 0, 1) := by decide +kernel
theorem dL_books_175 : decode cL_books 175 = .ok (.bipush 32, 2) := by decide +kernel
theorem dL_books_177 : decode cL_books 177 = .ok (.iload 10, 2) := by decide +kernel
theorem dL_books_179 : decode cL_books 179 = .ok (.invokestatic 174, 3) := by decide +kernel
theorem dL_books_182 : decode cL_books 182 = .ok (.istore 17, 2) := by decide +kernel
theorem dL_books_184 : decode cL_books 184 = .ok (.aload_n 0, 1) := by decide +kernel
theorem dL_books_185 : decode cL_books 185 = .ok (.bipush 25, 2) := by decide +kernel
theorem dL_books_187 : decode cL_books 187 = .ok (.iload 10, 2) := by decide +kernel
theorem dL_books_189 : decode cL_books 189 = .ok (.invokestatic 174, 3) := by decide +kernel
theorem dL_books_192 : decode cL_books 192 = .ok (.istore 18, 2) := by decide +kernel
theorem dL_books_194 : decode cL_books 194 = .ok (.iload 11, 2) := by decide +kernel
theorem dL_books_196 : decode cL_books 196 = .ok (.iload 12, 2) := by decide +kernel
theorem dL_books_198 : decode cL_books 198 = .ok (.iadd, 1) := by decide +kernel
theorem dL_books_199 : decode cL_books 199 = .ok (.iload 13, 2) := by decide +kernel
theorem dL_books_201 : decode cL_books 201 = .ok (.iadd, 1) := by decide +kernel
theorem dL_books_202 : decode cL_books 202 = .ok (.iload 14, 2) := by decide +kernel
theorem dL_books_204 : decode cL_books 204 = .ok (.iadd, 1) := by decide +kernel
theorem dL_books_205 : decode cL_books 205 = .ok (.iconst 1, 1) := by decide +kernel
theorem dL_books_206 : decode cL_books 206 = .ok (.if_icmp .ne 185, 3) := by decide +kernel
theorem dL_books_209 : decode cL_books 209 = .ok (.iload 15, 2) := by decide +kernel
theorem dL_books_211 : decode cL_books 211 = .ok (.aload_n 0, 1) := by decide +kernel
theorem dL_books_212 : decode cL_books 212 = .ok (.invokevirtual 214, 3) := by decide +kernel
theorem dL_books_215 : decode cL_books 215 = .ok (.if_icmp .gt 176, 3) := by decide +kernel
theorem dL_books_218 : decode cL_books 218 = .ok (.iload 18, 2) := by decide +kernel
theorem dL_books_220 : decode cL_books 220 = .ok (.ifCond .le 171, 3) := by decide +kernel
theorem dL_books_223 : decode cL_books 223 = .ok (.iload 18, 2) := by decide +kernel
theorem dL_books_225 : decode cL_books 225 = .ok (.bipush 10, 2) := by decide +kernel
theorem dL_books_227 : decode cL_books 227 = .ok (.if_icmp .ge 164, 3) := by decide +kernel
theorem dL_books_230 : decode cL_books 230 = .ok (.iload 11, 2) := by decide +kernel
theorem dL_books_232 : decode cL_books 232 = .ok (.iconst 1, 1) := by decide +kernel
theorem dL_books_233 : decode cL_books 233 = .ok (.if_icmp .ne 25, 3) := by decide +kernel
theorem dL_books_236 : decode cL_books 236 = .ok (.iload 16, 2) := by decide +kernel
theorem dL_books_238 : decode cL_books 238 = .ok (.bipush (-101), 2) := by decide +kernel
theorem dL_books_240 : decode cL_books 240 = .ok (.if_icmp .ne 151, 3) := by decide +kernel
theorem dL_books_243 : decode cL_books 243 = .ok (.aload_n 0, 1) := by decide +kernel
theorem dL_books_244 : decode cL_books 244 = .ok (.invokevirtual 214, 3) := by decide +kernel
theorem dL_books_247 : decode cL_books 247 = .ok (.iload 15, 2) := by decide +kernel
theorem dL_books_249 : decode cL_books 249 = .ok (.isub, 1) := by decide +kernel
theorem dL_books_250 : decode cL_books 250 = .ok (.bipush 56, 2) := by decide +kernel
theorem dL_books_252 : decode cL_books 252 = .ok (.if_icmp .ge 139, 3) := by decide +kernel
theorem dL_books_255 : decode cL_books 255 = .ok (.goto 29, 3) := by decide +kernel
theorem dL_books_258 : decode cL_books 258 = .ok (.iload 16, 2) := by decide +kernel
theorem dL_books_260 : decode cL_books 260 = .ok (.iload 15, 2) := by decide +kernel
theorem dL_books_262 : decode cL_books 262 = .ok (.if_icmp .lt 129, 3) := by decide +kernel
theorem dL_books_265 : decode cL_books 265 = .ok (.iload 16, 2) := by decide +kernel
theorem dL_books_267 : decode cL_books 267 = .ok (.aload_n 0, 1) := by decide +kernel
theorem dL_books_268 : decode cL_books 268 = .ok (.invokevirtual 214, 3) := by decide +kernel
theorem dL_books_271 : decode cL_books 271 = .ok (.if_icmp .gt 120, 3) := by decide +kernel
theorem dL_books_274 : decode cL_books 274 = .ok (.iload 16, 2) := by decide +kernel
theorem dL_books_276 : decode cL_books 276 = .ok (.iload 15, 2) := by decide +kernel
theorem dL_books_278 : decode cL_books 278 = .ok (.isub, 1) := by decide +kernel
theorem dL_books_279 : decode cL_books 279 = .ok (.bipush 56, 2) := by decide +kernel
theorem dL_books_281 : decode cL_books 281 = .ok (.if_icmp .gt 110, 3) := by decide +kernel
theorem dL_books_284 : decode cL_books 284 = .ok (.iload 17, 2) := by decide +kernel
theorem dL_books_286 : decode cL_books 286 = .ok (.bipush (-101), 2) := by decide +kernel
theorem dL_books_288 : decode cL_books 288 = .ok (.if_icmp .ne 7, 3) := by decide +kernel
theorem dL_books_291 : decode cL_books 291 = .ok (.iconst 1, 1) := by decide +kernel
theorem dL_books_292 : decode cL_books 292 = .ok (.goto 4, 3) := by decide +kernel
theorem dL_books_295 : decode cL_books 295 = .ok (.iconst 0, 1) := by decide +kernel
theorem dL_books_296 : decode cL_books 296 = .ok (.iload 11, 2) := by decide +kernel
theorem dL_books_298 : decode cL_books 298 = .ok (.iload 14, 2) := by decide +kernel
theorem dL_books_300 : decode cL_books 300 = .ok (.iadd, 1) := by decide +kernel
theorem dL_books_301 : decode cL_books 301 = .ok (.iconst 1, 1) := by decide +kernel
theorem dL_books_302 : decode cL_books 302 = .ok (.if_icmp .ne 7, 3) := by decide +kernel
theorem dL_books_305 : decode cL_books 305 = .ok (.iconst 1, 1) := by decide +kernel
theorem dL_books_306 : decode cL_books 306 = .ok (.goto 4, 3) := by decide +kernel
theorem dL_books_309 : decode cL_books 309 = .ok (.iconst 0, 1) := by decide +kernel
theorem dL_books_310 : decode cL_books 310 = .ok (.if_icmp .ne 81, 3) := by decide +kernel
theorem dL_books_313 : decode cL_books 313 = .ok (.iload 13, 2) := by decide +kernel
theorem dL_books_315 : decode cL_books 315 = .ok (.ifCond .eq 13, 3) := by decide +kernel
theorem dL_books_318 : decode cL_books 318 = .ok (.iload 16, 2) := by decide +kernel
theorem dL_books_320 : decode cL_books 320 = .ok (.iload 15, 2) := by decide +kernel
theorem dL_books_322 : decode cL_books 322 = .ok (.isub, 1) := by decide +kernel
theorem dL_books_323 : decode cL_books 323 = .ok (.bipush 14, 2) := by decide +kernel
theorem dL_books_325 : decode cL_books 325 = .ok (.if_icmp .lt 66, 3) := by decide +kernel
theorem dL_books_328 : decode cL_books 328 = .ok (.aload_n 0, 1) := by decide +kernel
theorem dL_books_329 : decode cL_books 329 = .ok (.bipush 33, 2) := by decide +kernel
theorem dL_books_331 : decode cL_books 331 = .ok (.aload_n 0, 1) := by decide +kernel
theorem dL_books_332 : decode cL_books 332 = .ok (.bipush 23, 2) := by decide +kernel
theorem dL_books_334 : decode cL_books 334 = .ok (.iload 10, 2) := by decide +kernel
theorem dL_books_336 : decode cL_books 336 = .ok (.invokestatic 174, 3) := by decide +kernel
theorem dL_books_339 : decode cL_books 339 = .ok (.aload_n 0, 1) := by decide +kernel
theorem dL_books_340 : decode cL_books 340 = .ok (.bipush 24, 2) := by decide +kernel
theorem dL_books_342 : decode cL_books 342 = .ok (.iload 10, 2) := by decide +kernel
theorem dL_books_344 : decode cL_books 344 = .ok (.invokestatic 174, 3) := by decide +kernel
theorem dL_books_347 : decode cL_books 347 = .ok (.invokestatic 249, 3) := by decide +kernel
theorem dL_books_350 : decode cL_books 350 = .ok (.bipush (-104), 2) := by decide +kernel
theorem dL_books_352 : decode cL_books 352 = .ok (.if_icmp .eq 39, 3) := by decide +kernel
theorem dL_books_355 : decode cL_books 355 = .ok (.iload 11, 2) := by decide +kernel
theorem dL_books_357 : decode cL_books 357 = .ok (.ifCond .eq 30, 3) := by decide +kernel
theorem dL_books_360 : decode cL_books 360 = .ok (.aload_n 0, 1) := by decide +kernel
theorem dL_books_361 : decode cL_books 361 = .ok (.bipush 33, 2) := by decide +kernel
theorem dL_books_363 : decode cL_books 363 = .ok (.aload_n 0, 1) := by decide +kernel
theorem dL_books_364 : decode cL_books 364 = .ok (.bipush 23, 2) := by decide +kernel
theorem dL_books_366 : decode cL_books 366 = .ok (.iload 10, 2) := by decide +kernel
theorem dL_books_368 : decode cL_books 368 = .ok (.invokestatic 174, 3) := by decide +kernel
theorem dL_books_371 : decode cL_books 371 = .ok (.aload_n 0, 1) := by decide +kernel
theorem dL_books_372 : decode cL_books 372 = .ok (.bipush 24, 2) := by decide +kernel
theorem dL_books_374 : decode cL_books 374 = .ok (.iload 10, 2) := by decide +kernel
theorem dL_books_376 : decode cL_books 376 = .ok (.invokestatic 174, 3) := by decide +kernel
theorem dL_books_379 : decode cL_books 379 = .ok (.invokestatic 249, 3) := by decide +kernel
theorem dL_books_382 : decode cL_books 382 = .ok (.iload 10, 2) := by decide +kernel
theorem dL_books_384 : decode cL_books 384 = .ok (.if_icmp .ne 7, 3) := by decide +kernel
theorem dL_books_387 : decode cL_books 387 = .ok (.iconst 1, 1) := by decide +kernel
theorem dL_books_388 : decode cL_books 388 = .ok (.goto 4, 3) := by decide +kernel
theorem dL_books_391 : decode cL_books 391 = .ok (.iconst 0, 1) := by decide +kernel
theorem dL_books_392 : decode cL_books 392 = .ok (.istore 9, 2) := by decide +kernel
theorem dL_books_394 : decode cL_books 394 = .ok (.aload_n 3, 1) := by decide +kernel
theorem dL_books_395 : decode cL_books 395 = .ok (.iload 12, 2) := by decide +kernel
theorem dL_books_397 : decode cL_books 397 = .ok (.iconst 2, 1) := by decide +kernel
theorem dL_books_398 : decode cL_books 398 = .ok (.iload 13, 2) := by decide +kernel
theorem dL_books_400 : decode cL_books 400 = .ok (.imul, 1) := by decide +kernel
theorem dL_books_401 : decode cL_books 401 = .ok (.iadd, 1) := by decide +kernel
theorem dL_books_402 : decode cL_books 402 = .ok (.iconst 3, 1) := by decide +kernel
theorem dL_books_403 : decode cL_books 403 = .ok (.iload 14, 2) := by decide +kernel
theorem dL_books_405 : decode cL_books 405 = .ok (.imul, 1) := by decide +kernel
theorem dL_books_406 : decode cL_books 406 = .ok (.iadd, 1) := by decide +kernel
theorem dL_books_407 : decode cL_books 407 = .ok (.dup2, 1) := by decide +kernel
theorem dL_books_408 : decode cL_books 408 = .ok (.iaload, 1) := by decide +kernel
theorem dL_books_409 : decode cL_books 409 = .ok (.iconst 1, 1) := by decide +kernel
theorem dL_books_410 : decode cL_books 410 = .ok (.iadd, 1) := by decide +kernel
theorem dL_books_411 : decode cL_books 411 = .ok (.iastore, 1) := by decide +kernel
theorem dL_books_412 : decode cL_books 412 = .ok (.iload 12, 2) := by decide +kernel
theorem dL_books_414 : decode cL_books 414 = .ok (.iconst 1, 1) := by decide +kernel
theorem dL_books_415 : decode cL_books 415 = .ok (.if_icmp .ne 29, 3) := by decide +kernel
theorem dL_books_418 : decode cL_books 418 = .ok (.aload 4, 2) := by decide +kernel
theorem dL_books_420 : decode cL_books 420 = .ok (.iload 17, 2) := by decide +kernel
theorem dL_books_422 : decode cL_books 422 = .ok (.dup2, 1) := by decide +kernel
theorem dL_books_423 : decode cL_books 423 = .ok (.iaload, 1) := by decide +kernel
theorem dL_books_424 : decode cL_books 424 = .ok (.iconst 1, 1) := by decide +kernel
theorem dL_books_425 : decode cL_books 425 = .ok (.iadd, 1) := by decide +kernel
theorem dL_books_426 : decode cL_books 426 = .ok (.iastore, 1) := by decide +kernel
theorem dL_books_427 : decode cL_books 427 = .ok (.iload 5, 2) := by decide +kernel
theorem dL_books_429 : decode cL_books 429 = .ok (.iload 18, 2) := by decide +kernel
theorem dL_books_431 : decode cL_books 431 = .ok (.iadd, 1) := by decide +kernel
theorem dL_books_432 : decode cL_books 432 = .ok (.istore 5, 2) := by decide +kernel
theorem dL_books_434 : decode cL_books 434 = .ok (.iload 6, 2) := by decide +kernel
theorem dL_books_436 : decode cL_books 436 = .ok (.iload 16, 2) := by decide +kernel
theorem dL_books_438 : decode cL_books 438 = .ok (.iload 15, 2) := by decide +kernel
theorem dL_books_440 : decode cL_books 440 = .ok (.isub, 1) := by decide +kernel
theorem dL_books_441 : decode cL_books 441 = .ok (.iadd, 1) := by decide +kernel
theorem dL_books_442 : decode cL_books 442 = .ok (.istore 6, 2) := by decide +kernel
theorem dL_books_444 : decode cL_books 444 = .ok (.iload 11, 2) := by decide +kernel
theorem dL_books_446 : decode cL_books 446 = .ok (.ifCond .ne 6, 3) := by decide +kernel
theorem dL_books_449 : decode cL_books 449 = .ok (.goto 47, 3) := by decide +kernel
theorem dL_books_452 : decode cL_books 452 = .ok (.iload 7, 2) := by decide +kernel
theorem dL_books_454 : decode cL_books 454 = .ok (.ifCond .lt 16, 3) := by decide +kernel
theorem dL_books_457 : decode cL_books 457 = .ok (.iload 15, 2) := by decide +kernel
theorem dL_books_459 : decode cL_books 459 = .ok (.aload_n 0, 1) := by decide +kernel
theorem dL_books_460 : decode cL_books 460 = .ok (.bipush 26, 2) := by decide +kernel
theorem dL_books_462 : decode cL_books 462 = .ok (.iload 7, 2) := by decide +kernel
theorem dL_books_464 : decode cL_books 464 = .ok (.invokestatic 174, 3) := by decide +kernel
theorem dL_books_467 : decode cL_books 467 = .ok (.if_icmp .ge 7, 3) := by decide +kernel
theorem dL_books_470 : decode cL_books 470 = .ok (.iload 10, 2) := by decide +kernel
theorem dL_books_472 : decode cL_books 472 = .ok (.istore 7, 2) := by decide +kernel
theorem dL_books_474 : decode cL_books 474 = .ok (.iload 8, 2) := by decide +kernel
theorem dL_books_476 : decode cL_books 476 = .ok (.ifCond .lt 16, 3) := by decide +kernel
theorem dL_books_479 : decode cL_books 479 = .ok (.iload 18, 2) := by decide +kernel
theorem dL_books_481 : decode cL_books 481 = .ok (.aload_n 0, 1) := by decide +kernel
theorem dL_books_482 : decode cL_books 482 = .ok (.bipush 25, 2) := by decide +kernel
theorem dL_books_484 : decode cL_books 484 = .ok (.iload 8, 2) := by decide +kernel
theorem dL_books_486 : decode cL_books 486 = .ok (.invokestatic 174, 3) := by decide +kernel
theorem dL_books_489 : decode cL_books 489 = .ok (.if_icmp .le 7, 3) := by decide +kernel
theorem dL_books_492 : decode cL_books 492 = .ok (.iload 10, 2) := by decide +kernel
theorem dL_books_494 : decode cL_books 494 = .ok (.istore 8, 2) := by decide +kernel
theorem dL_books_496 : decode cL_books 496 = .ok (.iinc 10 1, 3) := by decide +kernel
theorem dL_books_499 : decode cL_books 499 = .ok (.goto (-396), 3) := by decide +kernel
theorem dL_books_502 : decode cL_books 502 = .ok (.bipush (-101), 2) := by decide +kernel
theorem dL_books_504 : decode cL_books 504 = .ok (.istore 10, 2) := by decide +kernel
theorem dL_books_506 : decode cL_books 506 = .ok (.iconst 0, 1) := by decide +kernel
theorem dL_books_507 : decode cL_books 507 = .ok (.istore 11, 2) := by decide +kernel
theorem dL_books_509 : decode cL_books 509 = .ok (.iload 11, 2) := by decide +kernel
theorem dL_books_511 : decode cL_books 511 = .ok (.iload_n 2, 1) := by decide +kernel
theorem dL_books_512 : decode cL_books 512 = .ok (.if_icmp .ge 89, 3) := by decide +kernel
theorem dL_books_515 : decode cL_books 515 = .ok (.iload 9, 2) := by decide +kernel
theorem dL_books_517 : decode cL_books 517 = .ok (.ifCond .eq 84, 3) := by decide +kernel
theorem dL_books_520 : decode cL_books 520 = .ok (.aload_n 0, 1) := by decide +kernel
theorem dL_books_521 : decode cL_books 521 = .ok (.bipush 39, 2) := by decide +kernel
theorem dL_books_523 : decode cL_books 523 = .ok (.iload 11, 2) := by decide +kernel
theorem dL_books_525 : decode cL_books 525 = .ok (.invokestatic 174, 3) := by decide +kernel
theorem dL_books_528 : decode cL_books 528 = .ok (.ifCond .lt 36, 3) := by decide +kernel
theorem dL_books_531 : decode cL_books 531 = .ok (.aload_n 0, 1) := by decide +kernel
theorem dL_books_532 : decode cL_books 532 = .ok (.bipush 39, 2) := by decide +kernel
theorem dL_books_534 : decode cL_books 534 = .ok (.iload 11, 2) := by decide +kernel
theorem dL_books_536 : decode cL_books 536 = .ok (.invokestatic 174, 3) := by decide +kernel
theorem dL_books_539 : decode cL_books 539 = .ok (.bipush 100, 2) := by decide +kernel
theorem dL_books_541 : decode cL_books 541 = .ok (.if_icmp .ge 23, 3) := by decide +kernel
theorem dL_books_544 : decode cL_books 544 = .ok (.aload_n 0, 1) := by decide +kernel
theorem dL_books_545 : decode cL_books 545 = .ok (.bipush 40, 2) := by decide +kernel
theorem dL_books_547 : decode cL_books 547 = .ok (.iload 11, 2) := by decide +kernel
theorem dL_books_549 : decode cL_books 549 = .ok (.invokestatic 174, 3) := by decide +kernel
theorem dL_books_552 : decode cL_books 552 = .ok (.aload 4, 2) := by decide +kernel
theorem dL_books_554 : decode cL_books 554 = .ok (.iload 11, 2) := by decide +kernel
theorem dL_books_556 : decode cL_books 556 = .ok (.iaload, 1) := by decide +kernel
theorem dL_books_557 : decode cL_books 557 = .ok (.if_icmp .ne 7, 3) := by decide +kernel
theorem dL_books_560 : decode cL_books 560 = .ok (.iconst 1, 1) := by decide +kernel
theorem dL_books_561 : decode cL_books 561 = .ok (.goto 4, 3) := by decide +kernel
theorem dL_books_564 : decode cL_books 564 = .ok (.iconst 0, 1) := by decide +kernel
theorem dL_books_565 : decode cL_books 565 = .ok (.istore 9, 2) := by decide +kernel
theorem dL_books_567 : decode cL_books 567 = .ok (.iload 10, 2) := by decide +kernel
theorem dL_books_569 : decode cL_books 569 = .ok (.ifCond .lt 22, 3) := by decide +kernel
theorem dL_books_572 : decode cL_books 572 = .ok (.aload_n 0, 1) := by decide +kernel
theorem dL_books_573 : decode cL_books 573 = .ok (.bipush 39, 2) := by decide +kernel
theorem dL_books_575 : decode cL_books 575 = .ok (.iload 11, 2) := by decide +kernel
theorem dL_books_577 : decode cL_books 577 = .ok (.invokestatic 174, 3) := by decide +kernel
theorem dL_books_580 : decode cL_books 580 = .ok (.aload_n 0, 1) := by decide +kernel
theorem dL_books_581 : decode cL_books 581 = .ok (.bipush 39, 2) := by decide +kernel
theorem dL_books_583 : decode cL_books 583 = .ok (.iload 10, 2) := by decide +kernel
theorem dL_books_585 : decode cL_books 585 = .ok (.invokestatic 174, 3) := by decide +kernel
theorem dL_books_588 : decode cL_books 588 = .ok (.if_icmp .ge 7, 3) := by decide +kernel
theorem dL_books_591 : decode cL_books 591 = .ok (.iload 11, 2) := by decide +kernel
theorem dL_books_593 : decode cL_books 593 = .ok (.istore 10, 2) := by decide +kernel
theorem dL_books_595 : decode cL_books 595 = .ok (.iinc 11 1, 3) := by decide +kernel
theorem dL_books_598 : decode cL_books 598 = .ok (.goto (-89), 3) := by decide +kernel
theorem dL_books_601 : decode cL_books 601 = .ok (.iload_n 1, 1) := by decide +kernel
theorem dL_books_602 : decode cL_books 602 = .ok (.aload_n 3, 1) := by decide +kernel
theorem dL_books_603 : decode cL_books 603 = .ok (.iconst 0, 1) := by decide +kernel
theorem dL_books_604 : decode cL_books 604 = .ok (.iaload, 1) := by decide +kernel
theorem dL_books_605 : decode cL_books 605 = .ok (.isub, 1) := by decide +kernel
theorem dL_books_606 : decode cL_books 606 = .ok (.istore 11, 2) := by decide +kernel
theorem dL_books_608 : decode cL_books 608 = .ok (.iload 9, 2) := by decide +kernel
theorem dL_books_610 : decode cL_books 610 = .ok (.ifCond .eq 143, 3) := by decide +kernel
theorem dL_books_613 : decode cL_books 613 = .ok (.aload_n 0, 1) := by decide +kernel
theorem dL_books_614 : decode cL_books 614 = .ok (.invokevirtual 259, 3) := by decide +kernel
theorem dL_books_617 : decode cL_books 617 = .ok (.aload_n 3, 1) := by decide +kernel
theorem dL_books_618 : decode cL_books 618 = .ok (.iconst 0, 1) := by decide +kernel
theorem dL_books_619 : decode cL_books 619 = .ok (.iaload, 1) := by decide +kernel
theorem dL_books_620 : decode cL_books 620 = .ok (.if_icmp .ne 133, 3) := by decide +kernel
theorem dL_books_623 : decode cL_books 623 = .ok (.aload_n 0, 1) := by decide +kernel
theorem dL_books_624 : decode cL_books 624 = .ok (.invokevirtual 262, 3) := by decide +kernel
theorem dL_books_627 : decode cL_books 627 = .ok (.aload_n 3, 1) := by decide +kernel
theorem dL_books_628 : decode cL_books 628 = .ok (.iconst 1, 1) := by decide +kernel
theorem dL_books_629 : decode cL_books 629 = .ok (.iaload, 1) := by decide +kernel
theorem dL_books_630 : decode cL_books 630 = .ok (.if_icmp .ne 123, 3) := by decide +kernel
theorem dL_books_633 : decode cL_books 633 = .ok (.aload_n 0, 1) := by decide +kernel
theorem dL_books_634 : decode cL_books 634 = .ok (.invokevirtual 265, 3) := by decide +kernel
theorem dL_books_637 : decode cL_books 637 = .ok (.aload_n 3, 1) := by decide +kernel
theorem dL_books_638 : decode cL_books 638 = .ok (.iconst 2, 1) := by decide +kernel
theorem dL_books_639 : decode cL_books 639 = .ok (.iaload, 1) := by decide +kernel
theorem dL_books_640 : decode cL_books 640 = .ok (.if_icmp .ne 113, 3) := by decide +kernel
theorem dL_books_643 : decode cL_books 643 = .ok (.aload_n 0, 1) := by decide +kernel
theorem dL_books_644 : decode cL_books 644 = .ok (.invokevirtual 268, 3) := by decide +kernel
theorem dL_books_647 : decode cL_books 647 = .ok (.aload_n 3, 1) := by decide +kernel
theorem dL_books_648 : decode cL_books 648 = .ok (.iconst 3, 1) := by decide +kernel
theorem dL_books_649 : decode cL_books 649 = .ok (.iaload, 1) := by decide +kernel
theorem dL_books_650 : decode cL_books 650 = .ok (.if_icmp .ne 103, 3) := by decide +kernel
theorem dL_books_653 : decode cL_books 653 = .ok (.aload_n 0, 1) := by decide +kernel
theorem dL_books_654 : decode cL_books 654 = .ok (.invokevirtual 233, 3) := by decide +kernel
theorem dL_books_657 : decode cL_books 657 = .ok (.iload 5, 2) := by decide +kernel
theorem dL_books_659 : decode cL_books 659 = .ok (.if_icmp .ne 94, 3) := by decide +kernel
theorem dL_books_662 : decode cL_books 662 = .ok (.aload_n 0, 1) := by decide +kernel
theorem dL_books_663 : decode cL_books 663 = .ok (.bipush 34, 2) := by decide +kernel
theorem dL_books_665 : decode cL_books 665 = .ok (.iconst 0, 1) := by decide +kernel
theorem dL_books_666 : decode cL_books 666 = .ok (.invokestatic 174, 3) := by decide +kernel
theorem dL_books_669 : decode cL_books 669 = .ok (.iload 7, 2) := by decide +kernel
theorem dL_books_671 : decode cL_books 671 = .ok (.if_icmp .ne 82, 3) := by decide +kernel
theorem dL_books_674 : decode cL_books 674 = .ok (.aload_n 0, 1) := by decide +kernel
theorem dL_books_675 : decode cL_books 675 = .ok (.bipush 35, 2) := by decide +kernel
theorem dL_books_677 : decode cL_books 677 = .ok (.iconst 0, 1) := by decide +kernel
theorem dL_books_678 : decode cL_books 678 = .ok (.invokestatic 174, 3) := by decide +kernel
theorem dL_books_681 : decode cL_books 681 = .ok (.iload 8, 2) := by decide +kernel
theorem dL_books_683 : decode cL_books 683 = .ok (.if_icmp .ne 70, 3) := by decide +kernel
theorem dL_books_686 : decode cL_books 686 = .ok (.aload_n 0, 1) := by decide +kernel
theorem dL_books_687 : decode cL_books 687 = .ok (.bipush 37, 2) := by decide +kernel
theorem dL_books_689 : decode cL_books 689 = .ok (.iconst 0, 1) := by decide +kernel
theorem dL_books_690 : decode cL_books 690 = .ok (.invokestatic 174, 3) := by decide +kernel
theorem dL_books_693 : decode cL_books 693 = .ok (.iload 10, 2) := by decide +kernel
theorem dL_books_695 : decode cL_books 695 = .ok (.if_icmp .ne 58, 3) := by decide +kernel
theorem dL_books_698 : decode cL_books 698 = .ok (.aload_n 0, 1) := by decide +kernel
theorem dL_books_699 : decode cL_books 699 = .ok (.invokevirtual 271, 3) := by decide +kernel
theorem dL_books_702 : decode cL_books 702 = .ok (.aload_n 3, 1) := by decide +kernel
theorem dL_books_703 : decode cL_books 703 = .ok (.iconst 1, 1) := by decide +kernel
theorem dL_books_704 : decode cL_books 704 = .ok (.iaload, 1) := by decide +kernel
theorem dL_books_705 : decode cL_books 705 = .ok (.ifCond .ne 7, 3) := by decide +kernel
theorem dL_books_708 : decode cL_books 708 = .ok (.dconst 0, 1) := by decide +kernel
theorem dL_books_709 : decode cL_books 709 = .ok (.goto 11, 3) := by decide +kernel
theorem dL_books_712 : decode cL_books 712 = .ok (.iload 6, 2) := by decide +kernel
theorem dL_books_714 : decode cL_books 714 = .ok (.i2d, 1) := by decide +kernel
theorem dL_books_715 : decode cL_books 715 = .ok (.aload_n 3, 1) := by decide +kernel
theorem dL_books_716 : decode cL_books 716 = .ok (.iconst 1, 1) := by decide +kernel
theorem dL_books_717 : decode cL_books 717 = .ok (.iaload, 1) := by decide +kernel
theorem dL_books_718 : decode cL_books 718 = .ok (.i2d, 1) := by decide +kernel
theorem dL_books_719 : decode cL_books 719 = .ok (.ddiv, 1) := by decide +kernel
theorem dL_books_720 : decode cL_books 720 = .ok (.dcmp .l, 1) := by decide +kernel
theorem dL_books_721 : decode cL_books 721 = .ok (.ifCond .ne 32, 3) := by decide +kernel
theorem dL_books_724 : decode cL_books 724 = .ok (.aload_n 0, 1) := by decide +kernel
theorem dL_books_725 : decode cL_books 725 = .ok (.invokevirtual 275, 3) := by decide +kernel
theorem dL_books_728 : decode cL_books 728 = .ok (.iload 11, 2) := by decide +kernel
theorem dL_books_730 : decode cL_books 730 = .ok (.ifCond .ne 7, 3) := by decide +kernel
theorem dL_books_733 : decode cL_books 733 = .ok (.fconst 0, 1) := by decide +kernel
theorem dL_books_734 : decode cL_books 734 = .ok (.goto 11, 3) := by decide +kernel
theorem dL_books_737 : decode cL_books 737 = .ok (.aload_n 3, 1) := by decide +kernel
theorem dL_books_738 : decode cL_books 738 = .ok (.iconst 1, 1) := by decide +kernel
theorem dL_books_739 : decode cL_books 739 = .ok (.iaload, 1) := by decide +kernel
theorem dL_books_740 : decode cL_books 740 = .ok (.i2f, 1) := by decide +kernel
theorem dL_books_741 : decode cL_books 741 = .ok (.iload 11, 2) := by decide +kernel
theorem dL_books_743 : decode cL_books 743 = .ok (.i2f, 1) := by decide +kernel
theorem dL_books_744 : decode cL_books 744 = .ok (.fdiv, 1) := by decide +kernel
theorem dL_books_745 : decode cL_books 745 = .ok (.fcmp .l, 1) := by decide +kernel
theorem dL_books_746 : decode cL_books 746 = .ok (.ifCond .ne 7, 3) := by decide +kernel
theorem dL_books_749 : decode cL_books 749 = .ok (.iconst 1, 1) := by decide +kernel
theorem dL_books_750 : decode cL_books 750 = .ok (.goto 4, 3) := by decide +kernel
theorem dL_books_753 : decode cL_books 753 = .ok (.iconst 0, 1) := by decide +kernel
theorem dL_books_754 : decode cL_books 754 = .ok (.ireturn, 1) := by decide +kernel
