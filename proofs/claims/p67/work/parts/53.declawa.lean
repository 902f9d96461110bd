theorem dL_call_0 : decode cL_call 0 = .ok (.iload_n 1, 1) := by decide +kernel
theorem dL_call_1 : decode cL_call 1 = .ok (.tableswitch 512 0 43 #[191, 200, 206, 213, 220, 227, 233, 239, 245, 251, 256, 262, 268, 273, 286, 292, 297, 303, 309, 315, 321, 336, 342, 348, 354, 360, 366, 372, 386, 400, 414, 428, 434, 440, 447, 452, 457, 463, 468, 474, 480, 486, 492, 506], 191) := by decide +kernel
theorem dL_call_192 : decode cL_call 192 = .ok (.aload_n 0, 1) := by decide +kernel
theorem dL_call_193 : decode cL_call 193 = .ok (.iload_n 2, 1) := by decide +kernel
theorem dL_call_194 : decode cL_call 194 = .ok (.iload_n 3, 1) := by decide +kernel
theorem dL_call_195 : decode cL_call 195 = .ok (.iload 4, 2) := by decide +kernel
theorem dL_call_197 : decode cL_call 197 = .ok (.invokevirtual 7, 3) := by decide +kernel
theorem dL_call_200 : decode cL_call 200 = .ok (.ireturn, 1) := by decide +kernel
theorem dL_call_201 : decode cL_call 201 = .ok (.aload_n 0, 1) := by decide +kernel
theorem dL_call_202 : decode cL_call 202 = .ok (.iload_n 2, 1) := by decide +kernel
theorem dL_call_203 : decode cL_call 203 = .ok (.invokevirtual 13, 3) := by decide +kernel
theorem dL_call_206 : decode cL_call 206 = .ok (.ireturn, 1) := by decide +kernel
theorem dL_call_207 : decode cL_call 207 = .ok (.aload_n 0, 1) := by decide +kernel
theorem dL_call_208 : decode cL_call 208 = .ok (.iload_n 2, 1) := by decide +kernel
theorem dL_call_209 : decode cL_call 209 = .ok (.iload_n 3, 1) := by decide +kernel
theorem dL_call_210 : decode cL_call 210 = .ok (.invokevirtual 17, 3) := by decide +kernel
theorem dL_call_213 : decode cL_call 213 = .ok (.ireturn, 1) := by decide +kernel
theorem dL_call_214 : decode cL_call 214 = .ok (.aload_n 0, 1) := by decide +kernel
theorem dL_call_215 : decode cL_call 215 = .ok (.iload_n 2, 1) := by decide +kernel
theorem dL_call_216 : decode cL_call 216 = .ok (.iload_n 3, 1) := by decide +kernel
theorem dL_call_217 : decode cL_call 217 = .ok (.invokevirtual 21, 3) := by decide +kernel
theorem dL_call_220 : decode cL_call 220 = .ok (.ireturn, 1) := by decide +kernel
theorem dL_call_221 : decode cL_call 221 = .ok (.aload_n 0, 1) := by decide +kernel
theorem dL_call_222 : decode cL_call 222 = .ok (.iload_n 2, 1) := by decide +kernel
theorem dL_call_223 : decode cL_call 223 = .ok (.iload_n 3, 1) := by decide +kernel
theorem dL_call_224 : decode cL_call 224 = .ok (.invokevirtual 24, 3) := by decide +kernel
theorem dL_call_227 : decode cL_call 227 = .ok (.ireturn, 1) := by decide +kernel
theorem dL_call_228 : decode cL_call 228 = .ok (.aload_n 0, 1) := by decide +kernel
theorem dL_call_229 : decode cL_call 229 = .ok (.iload_n 2, 1) := by decide +kernel
theorem dL_call_230 : decode cL_call 230 = .ok (.invokevirtual 27, 3) := by decide +kernel
theorem dL_call_233 : decode cL_call 233 = .ok (.ireturn, 1) := by decide +kernel
theorem dL_call_234 : decode cL_call 234 = .ok (.aload_n 0, 1) := by decide +kernel
theorem dL_call_235 : decode cL_call 235 = .ok (.iload_n 2, 1) := by decide +kernel
theorem dL_call_236 : decode cL_call 236 = .ok (.invokevirtual 30, 3) := by decide +kernel
theorem dL_call_239 : decode cL_call 239 = .ok (.ireturn, 1) := by decide +kernel
theorem dL_call_240 : decode cL_call 240 = .ok (.aload_n 0, 1) := by decide +kernel
theorem dL_call_241 : decode cL_call 241 = .ok (.iload_n 2, 1) := by decide +kernel
theorem dL_call_242 : decode cL_call 242 = .ok (.invokevirtual 33, 3) := by decide +kernel
theorem dL_call_245 : decode cL_call 245 = .ok (.ireturn, 1) := by decide +kernel
theorem dL_call_246 : decode cL_call 246 = .ok (.aload_n 0, 1) := by decide +kernel
theorem dL_call_247 : decode cL_call 247 = .ok (.iload_n 2, 1) := by decide +kernel
theorem dL_call_248 : decode cL_call 248 = .ok (.invokevirtual 36, 3) := by decide +kernel
theorem dL_call_251 : decode cL_call 251 = .ok (.ireturn, 1) := by decide +kernel
theorem dL_call_252 : decode cL_call 252 = .ok (.aload_n 0, 1) := by decide +kernel
theorem dL_call_253 : decode cL_call 253 = .ok (.invokevirtual 39, 3) := by decide +kernel
theorem dL_call_256 : decode cL_call 256 = .ok (.ireturn, 1) := by decide +kernel
theorem dL_call_257 : decode cL_call 257 = .ok (.aload_n 0, 1) := by decide +kernel
theorem dL_call_258 : decode cL_call 258 = .ok (.iload_n 2, 1) := by decide +kernel
theorem dL_call_259 : decode cL_call 259 = .ok (.invokevirtual 43, 3) := by decide +kernel
theorem dL_call_262 : decode cL_call 262 = .ok (.ireturn, 1) := by decide +kernel
theorem dL_call_263 : decode cL_call 263 = .ok (.aload_n 0, 1) := by decide +kernel
theorem dL_call_264 : decode cL_call 264 = .ok (.iload_n 2, 1) := by decide +kernel
theorem dL_call_265 : decode cL_call 265 = .ok (.invokevirtual 46, 3) := by decide +kernel
theorem dL_call_268 : decode cL_call 268 = .ok (.ireturn, 1) := by decide +kernel
theorem dL_call_269 : decode cL_call 269 = .ok (.aload_n 0, 1) := by decide +kernel
theorem dL_call_270 : decode cL_call 270 = .ok (.invokevirtual 49, 3) := by decide +kernel
theorem dL_call_273 : decode cL_call 273 = .ok (.ireturn, 1) := by decide +kernel
theorem dL_call_274 : decode cL_call 274 = .ok (.aload_n 0, 1) := by decide +kernel
theorem dL_call_275 : decode cL_call 275 = .ok (.iload_n 2, 1) := by decide +kernel
theorem dL_call_276 : decode cL_call 276 = .ok (.iload_n 3, 1) := by decide +kernel
theorem dL_call_277 : decode cL_call 277 = .ok (.iload 4, 2) := by decide +kernel
theorem dL_call_279 : decode cL_call 279 = .ok (.iload 5, 2) := by decide +kernel
theorem dL_call_281 : decode cL_call 281 = .ok (.iload 6, 2) := by decide +kernel
theorem dL_call_283 : decode cL_call 283 = .ok (.invokevirtual 52, 3) := by decide +kernel
theorem dL_call_286 : decode cL_call 286 = .ok (.ireturn, 1) := by decide +kernel
theorem dL_call_287 : decode cL_call 287 = .ok (.aload_n 0, 1) := by decide +kernel
theorem dL_call_288 : decode cL_call 288 = .ok (.iload_n 2, 1) := by decide +kernel
theorem dL_call_289 : decode cL_call 289 = .ok (.invokevirtual 56, 3) := by decide +kernel
theorem dL_call_292 : decode cL_call 292 = .ok (.ireturn, 1) := by decide +kernel
theorem dL_call_293 : decode cL_call 293 = .ok (.aload_n 0, 1) := by decide +kernel
theorem dL_call_294 : decode cL_call 294 = .ok (.invokevirtual 59, 3) := by decide +kernel
theorem dL_call_297 : decode cL_call 297 = .ok (.ireturn, 1) := by decide +kernel
theorem dL_call_298 : decode cL_call 298 = .ok (.aload_n 0, 1) := by decide +kernel
theorem dL_call_299 : decode cL_call 299 = .ok (.iload_n 2, 1) := by decide +kernel
theorem dL_call_300 : decode cL_call 300 = .ok (.invokevirtual 62, 3) := by decide +kernel
theorem dL_call_303 : decode cL_call 303 = .ok (.ireturn, 1) := by decide +kernel
theorem dL_call_304 : decode cL_call 304 = .ok (.aload_n 0, 1) := by decide +kernel
theorem dL_call_305 : decode cL_call 305 = .ok (.iload_n 2, 1) := by decide +kernel
theorem dL_call_306 : decode cL_call 306 = .ok (.invokevirtual 65, 3) := by decide +kernel
theorem dL_call_309 : decode cL_call 309 = .ok (.ireturn, 1) := by decide +kernel
theorem dL_call_310 : decode cL_call 310 = .ok (.aload_n 0, 1) := by decide +kernel
theorem dL_call_311 : decode cL_call 311 = .ok (.iload_n 2, 1) := by decide +kernel
theorem dL_call_312 : decode cL_call 312 = .ok (.invokevirtual 68, 3) := by decide +kernel
theorem dL_call_315 : decode cL_call 315 = .ok (.ireturn, 1) := by decide +kernel
theorem dL_call_316 : decode cL_call 316 = .ok (.aload_n 0, 1) := by decide +kernel
theorem dL_call_317 : decode cL_call 317 = .ok (.iload_n 2, 1) := by decide +kernel
theorem dL_call_318 : decode cL_call 318 = .ok (.invokevirtual 71, 3) := by decide +kernel
theorem dL_call_321 : decode cL_call 321 = .ok (.ireturn, 1) := by decide +kernel
theorem dL_call_322 : decode cL_call 322 = .ok (.aload_n 0, 1) := by decide +kernel
theorem dL_call_323 : decode cL_call 323 = .ok (.iload_n 2, 1) := by decide +kernel
theorem dL_call_324 : decode cL_call 324 = .ok (.iload_n 3, 1) := by decide +kernel
theorem dL_call_325 : decode cL_call 325 = .ok (.invokevirtual 74, 3) := by decide +kernel
theorem dL_call_328 : decode cL_call 328 = .ok (.ifCond .eq 7, 3) := by decide +kernel
theorem dL_call_331 : decode cL_call 331 = .ok (.iconst 1, 1) := by decide +kernel
theorem dL_call_332 : decode cL_call 332 = .ok (.goto 4, 3) := by decide +kernel
theorem dL_call_335 : decode cL_call 335 = .ok (.iconst 0, 1) := by decide +kernel
theorem dL_call_336 : decode cL_call 336 = .ok (.ireturn, 1) := by decide +kernel
theorem dL_call_337 : decode cL_call 337 = .ok (.aload_n 0, 1) := by decide +kernel
theorem dL_call_338 : decode cL_call 338 = .ok (.iload_n 2, 1) := by decide +kernel
theorem dL_call_339 : decode cL_call 339 = .ok (.invokevirtual 78, 3) := by decide +kernel
theorem dL_call_342 : decode cL_call 342 = .ok (.ireturn, 1) := by decide +kernel
theorem dL_call_343 : decode cL_call 343 = .ok (.aload_n 0, 1) := by decide +kernel
theorem dL_call_344 : decode cL_call 344 = .ok (.iload_n 2, 1) := by decide +kernel
theorem dL_call_345 : decode cL_call 345 = .ok (.invokevirtual 81, 3) := by decide +kernel
theorem dL_call_348 : decode cL_call 348 = .ok (.ireturn, 1) := by decide +kernel
theorem dL_call_349 : decode cL_call 349 = .ok (.aload_n 0, 1) := by decide +kernel
theorem dL_call_350 : decode cL_call 350 = .ok (.iload_n 2, 1) := by decide +kernel
theorem dL_call_351 : decode cL_call 351 = .ok (.invokevirtual 84, 3) := by decide +kernel
theorem dL_call_354 : decode cL_call 354 = .ok (.ireturn, 1) := by decide +kernel
theorem dL_call_355 : decode cL_call 355 = .ok (.aload_n 0, 1) := by decide +kernel
theorem dL_call_356 : decode cL_call 356 = .ok (.iload_n 2, 1) := by decide +kernel
theorem dL_call_357 : decode cL_call 357 = .ok (.invokevirtual 87, 3) := by decide +kernel
theorem dL_call_360 : decode cL_call 360 = .ok (.ireturn, 1) := by decide +kernel
theorem dL_call_361 : decode cL_call 361 = .ok (.aload_n 0, 1) := by decide +kernel
theorem dL_call_362 : decode cL_call 362 = .ok (.iload_n 2, 1) := by decide +kernel
theorem dL_call_363 : decode cL_call 363 = .ok (.invokevirtual 90, 3) := by decide +kernel
theorem dL_call_366 : decode cL_call 366 = .ok (.ireturn, 1) := by decide +kernel
theorem dL_call_367 : decode cL_call 367 = .ok (.aload_n 0, 1) := by decide +kernel
theorem dL_call_368 : decode cL_call 368 = .ok (.iload_n 2, 1) := by decide +kernel
theorem dL_call_369 : decode cL_call 369 = .ok (.invokevirtual 93, 3) := by decide +kernel
theorem dL_call_372 : decode cL_call 372 = .ok (.ireturn, 1) := by decide +kernel
theorem dL_call_373 : decode cL_call 373 = .ok (.aload_n 0, 1) := by decide +kernel
theorem dL_call_374 : decode cL_call 374 = .ok (.iload_n 2, 1) := by decide +kernel
theorem dL_call_375 : decode cL_call 375 = .ok (.invokevirtual 96, 3) := by decide +kernel
theorem dL_call_378 : decode cL_call 378 = .ok (.ifCond .eq 7, 3) := by decide +kernel
theorem dL_call_381 : decode cL_call 381 = .ok (.iconst 1, 1) := by decide +kernel
theorem dL_call_382 : decode cL_call 382 = .ok (.goto 4, 3) := by decide +kernel
theorem dL_call_385 : decode cL_call 385 = .ok (.iconst 0, 1) := by decide +kernel
theorem dL_call_386 : decode cL_call 386 = .ok (.ireturn, 1) := by decide +kernel
theorem dL_call_387 : decode cL_call 387 = .ok (.aload_n 0, 1) := by decide +kernel
theorem dL_call_388 : decode cL_call 388 = .ok (.iload_n 2, 1) := by decide +kernel
theorem dL_call_389 : decode cL_call 389 = .ok (.invokevirtual 100, 3) := by decide +kernel
theorem dL_call_392 : decode cL_call 392 = .ok (.ifCond .eq 7, 3) := by decide +kernel
theorem dL_call_395 : decode cL_call 395 = .ok (.iconst 1, 1) := by decide +kernel
theorem dL_call_396 : decode cL_call 396 = .ok (.goto 4, 3) := by decide +kernel
theorem dL_call_399 : decode cL_call 399 = .ok (.iconst 0, 1) := by decide +kernel
theorem dL_call_400 : decode cL_call 400 = .ok (.ireturn, 1) := by decide +kernel
theorem dL_call_401 : decode cL_call 401 = .ok (.aload_n 0, 1) := by decide +kernel
theorem dL_call_402 : decode cL_call 402 = .ok (.iload_n 2, 1) := by decide +kernel
theorem dL_call_403 : decode cL_call 403 = .ok (.invokevirtual 103, 3) := by decide +kernel
theorem dL_call_406 : decode cL_call 406 = .ok (.ifCond .eq 7, 3) := by decide +kernel
theorem dL_call_409 : decode cL_call 409 = .ok (.iconst 1, 1) := by decide +kernel
theorem dL_call_410 : decode cL_call 410 = .ok (.goto 4, 3) := by decide +kernel
theorem dL_call_413 : decode cL_call 413 = .ok (.iconst 0, 1) := by decide +kernel
theorem dL_call_414 : decode cL_call 414 = .ok (.ireturn, 1) := by decide +kernel
theorem dL_call_415 : decode cL_call 415 = .ok (.aload_n 0, 1) := by decide +kernel
theorem dL_call_416 : decode cL_call 416 = .ok (.iload_n 2, 1) := by decide +kernel
theorem dL_call_417 : decode cL_call 417 = .ok (.invokevirtual 106, 3) := by decide +kernel
theorem dL_call_420 : decode cL_call 420 = .ok (.ifCond .eq 7, 3) := by decide +kernel
theorem dL_call_423 : decode cL_call 423 = .ok (.iconst 1, 1) := by decide +kernel
theorem dL_call_424 : decode cL_call 424 = .ok (.goto 4, 3) := by decide +kernel
theorem dL_call_427 : decode cL_call 427 = .ok (.iconst 0, 1) := by decide +kernel
theorem dL_call_428 : decode cL_call 428 = .ok (.ireturn, 1) := by decide +kernel
theorem dL_call_429 : decode cL_call 429 = .ok (.aload_n 0, 1) := by decide +kernel
theorem dL_call_430 : decode cL_call 430 = .ok (.iload_n 2, 1) := by decide +kernel
theorem dL_call_431 : decode cL_call 431 = .ok (.invokevirtual 109, 3) := by decide +kernel
theorem dL_call_434 : decode cL_call 434 = .ok (.ireturn, 1) := by decide +kernel
theorem dL_call_435 : decode cL_call 435 = .ok (.aload_n 0, 1) := by decide +kernel
theorem dL_call_436 : decode cL_call 436 = .ok (.iload_n 2, 1) := by decide +kernel
theorem dL_call_437 : decode cL_call 437 = .ok (.invokevirtual 112, 3) := by decide +kernel
theorem dL_call_440 : decode cL_call 440 = .ok (.ireturn, 1) := by decide +kernel
theorem dL_call_441 : decode cL_call 441 = .ok (.aload_n 0, 1) := by decide +kernel
theorem dL_call_442 : decode cL_call 442 = .ok (.iload_n 2, 1) := by decide +kernel
theorem dL_call_443 : decode cL_call 443 = .ok (.iload_n 3, 1) := by decide +kernel
theorem dL_call_444 : decode cL_call 444 = .ok (.invokevirtual 115, 3) := by decide +kernel
theorem dL_call_447 : decode cL_call 447 = .ok (.ireturn, 1) := by decide +kernel
theorem dL_call_448 : decode cL_call 448 = .ok (.aload_n 0, 1) := by decide +kernel
theorem dL_call_449 : decode cL_call 449 = .ok (.invokevirtual 118, 3) := by decide +kernel
theorem dL_call_452 : decode cL_call 452 = .ok (.ireturn, 1) := by decide +kernel
theorem dL_call_453 : decode cL_call 453 = .ok (.aload_n 0, 1) := by decide +kernel
theorem dL_call_454 : decode cL_call 454 = .ok (.invokevirtual 121, 3) := by decide +kernel
theorem dL_call_457 : decode cL_call 457 = .ok (.ireturn, 1) := by decide +kernel
theorem dL_call_458 : decode cL_call 458 = .ok (.aload_n 0, 1) := by decide +kernel
theorem dL_call_459 : decode cL_call 459 = .ok (.iload_n 2, 1) := by decide +kernel
theorem dL_call_460 : decode cL_call 460 = .ok (.invokevirtual 124, 3) := by decide +kernel
theorem dL_call_463 : decode cL_call 463 = .ok (.ireturn, 1) := by decide +kernel
theorem dL_call_464 : decode cL_call 464 = .ok (.aload_n 0, 1) := by decide +kernel
theorem dL_call_465 : decode cL_call 465 = .ok (.invokevirtual 127, 3) := by decide +kernel
theorem dL_call_468 : decode cL_call 468 = .ok (.ireturn, 1) := by decide +kernel
theorem dL_call_469 : decode cL_call 469 = .ok (.aload_n 0, 1) := by decide +kernel
theorem dL_call_470 : decode cL_call 470 = .ok (.iload_n 2, 1) := by decide +kernel
theorem dL_call_471 : decode cL_call 471 = .ok (.invokevirtual 130, 3) := by decide +kernel
theorem dL_call_474 : decode cL_call 474 = .ok (.ireturn, 1) := by decide +kernel
theorem dL_call_475 : decode cL_call 475 = .ok (.aload_n 0, 1) := by decide +kernel
theorem dL_call_476 : decode cL_call 476 = .ok (.iload_n 2, 1) := by decide +kernel
theorem dL_call_477 : decode cL_call 477 = .ok (.invokevirtual 133, 3) := by decide +kernel
theorem dL_call_480 : decode cL_call 480 = .ok (.ireturn, 1) := by decide +kernel
theorem dL_call_481 : decode cL_call 481 = .ok (.aload_n 0, 1) := by decide +kernel
theorem dL_call_482 : decode cL_call 482 = .ok (.iload_n 2, 1) := by decide +kernel
theorem dL_call_483 : decode cL_call 483 = .ok (.invokevirtual 136, 3) := by decide +kernel
theorem dL_call_486 : decode cL_call 486 = .ok (.ireturn, 1) := by decide +kernel
theorem dL_call_487 : decode cL_call 487 = .ok (.aload_n 0, 1) := by decide +kernel
theorem dL_call_488 : decode cL_call 488 = .ok (.iload_n 2, 1) := by decide +kernel
theorem dL_call_489 : decode cL_call 489 = .ok (.invokevirtual 139, 3) := by decide +kernel
theorem dL_call_492 : decode cL_call 492 = .ok (.ireturn, 1) := by decide +kernel
theorem dL_call_493 : decode cL_call 493 = .ok (.aload_n 0, 1) := by decide +kernel
theorem dL_call_494 : decode cL_call 494 = .ok (.iload_n 2, 1) := by decide +kernel
theorem dL_call_495 : decode cL_call 495 = .ok (.invokevirtual 142, 3) := by decide +kernel
theorem dL_call_498 : decode cL_call 498 = .ok (.ifCond .eq 7, 3) := by decide +kernel
theorem dL_call_501 : decode cL_call 501 = .ok (.iconst 1, 1) := by decide +kernel
theorem dL_call_502 : decode cL_call 502 = .ok (.goto 4, 3) := by decide +kernel
theorem dL_call_505 : decode cL_call 505 = .ok (.iconst 0, 1) := by decide +kernel
theorem dL_call_506 : decode cL_call 506 = .ok (.ireturn, 1) := by decide +kernel
theorem dL_call_507 : decode cL_call 507 = .ok (.aload_n 0, 1) := by decide +kernel
theorem dL_call_508 : decode cL_call 508 = .ok (.iload_n 2, 1) := by decide +kernel
theorem dL_call_509 : decode cL_call 509 = .ok (.invokevirtual 145, 3) := by decide +kernel
theorem dL_call_512 : decode cL_call 512 = .ok (.ireturn, 1) := by decide +kernel
theorem dL_call_513 : decode cL_call 513 = .ok (.aload_n 0, 1) := by decide +kernel
theorem dL_call_514 : decode cL_call 514 = .ok (.iload_n 2, 1) := by decide +kernel
theorem dL_call_515 : decode cL_call 515 = .ok (.invokevirtual 148, 3) := by decide +kernel
theorem dL_call_518 : decode cL_call 518 = .ok (.ireturn, 1) := by decide +kernel
theorem dL_call_519 : decode cL_call 519 = .ok (.astore 7, 2) := by decide +kernel
theorem dL_call_521 : decode cL_call 521 = .ok (.bipush (-101), 2) := by decide +kernel
theorem dL_call_523 : decode cL_call 523 = .ok (.ireturn, 1) := by decide +kernel
theorem dL_call_524 : decode cL_call 524 = .ok (.astore 7, 2) := by decide +kernel
theorem dL_call_526 : decode cL_call 526 = .ok (.bipush (-102), 2) := by decide +kernel
theorem dL_call_528 : decode cL_call 528 = .ok (.ireturn, 1) := by decide +kernel
theorem dL_call_529 : decode cL_call 529 = .ok (.astore 7, 2) := by decide +kernel
theorem dL_call_531 : decode cL_call 531 = .ok (.bipush (-103), 2) := by decide +kernel
theorem dL_call_533 : decode cL_call 533 = .ok (.ireturn, 1) := by decide +kernel
theorem dL_call_534 : decode cL_call 534 = .ok (.astore 7, 2) := by decide +kernel
theorem dL_call_536 : decode cL_call 536 = .ok (.bipush (-104), 2) := by decide +kernel
theorem dL_call_538 : decode cL_call 538 = .ok (.ireturn, 1) := by decide +kernel
theorem dL_call__0 : decode cL_call_ 0 = .ok (.aload_n 0, 1) := by decide +kernel
theorem dL_call__1 : decode cL_call_ 1 = .ok (.iload_n 1, 1) := by decide +kernel
theorem dL_call__2 : decode cL_call_ 2 = .ok (.iload_n 2, 1) := by decide +kernel
theorem dL_call__3 : decode cL_call_ 3 = .ok (.iload_n 3, 1) := by decide +kernel
theorem dL_call__4 : decode cL_call_ 4 = .ok (.iconst 0, 1) := by decide +kernel
theorem dL_call__5 : decode cL_call_ 5 = .ok (.iconst 0, 1) := by decide +kernel
theorem dL_call__6 : decode cL_call_ 6 = .ok (.iconst 0, 1) := by decide +kernel
theorem dL_call__7 : decode cL_call_ 7 = .ok (.invokestatic 161, 3) := by decide +kernel
theorem dL_call__10 : decode cL_call_ 10 = .ok (.ireturn, 1) := by decide +kernel
theorem dL_call___0 : decode cL_call__ 0 = .ok (.aload_n 0, 1) := by decide +kernel
theorem dL_call___1 : decode cL_call__ 1 = .ok (.iload_n 1, 1) := by decide +kernel
theorem dL_call___2 : decode cL_call__ 2 = .ok (.iload_n 2, 1) := by decide +kernel
theorem dL_call___3 : decode cL_call__ 3 = .ok (.iconst 0, 1) := by decide +kernel
theorem dL_call___4 : decode cL_call__ 4 = .ok (.iconst 0, 1) := by decide +kernel
theorem dL_call___5 : decode cL_call__ 5 = .ok (.iconst 0, 1) := by decide +kernel
theorem dL_call___6 : decode cL_call__ 6 = .ok (.iconst 0, 1) := by decide +kernel
theorem dL_call___7 : decode cL_call__ 7 = .ok (.invokestatic 161, 3) := by decide +kernel
theorem dL_call___10 : decode cL_call__ 10 = .ok (.ireturn, 1) := by decide +kernel
theorem dL_feeds_0 : decode cL_feeds 0 = .ok (.iconst 0, 1) := by decide +kernel
theorem dL_feeds_1 : decode cL_feeds 1 = .ok (.istore_n 2, 1) := by decide +kernel
theorem dL_feeds_2 : decode cL_feeds 2 = .ok (.iload_n 2, 1) := by decide +kernel
theorem dL_feeds_3 : decode cL_feeds 3 = .ok (.aload_n 1, 1) := by decide +kernel
theorem dL_feeds_4 : decode cL_feeds 4 = .ok (.invokevirtual 165, 3) := by decide +kernel
theorem dL_feeds_7 : decode cL_feeds 7 = .ok (.if_icmp .ge 103, 3) := by decide +kernel
theorem dL_feeds_10 : decode cL_feeds 10 = .ok (.iconst 5, 1) := by decide +kernel
theorem dL_feeds_11 : decode cL_feeds 11 = .ok (.newarray .int, 2) := by decide +kernel
theorem dL_feeds_13 : decode cL_feeds 13 = .ok (.astore_n 3, 1) := by decide +kernel
theorem dL_feeds_14 : decode cL_feeds 14 = .ok (.iconst 0, 1) := by decide +kernel
theorem dL_feeds_15 : decode cL_feeds 15 = .ok (.istore 4, 2) := by decide +kernel
theorem dL_feeds_17 : decode cL_feeds 17 = .ok (.iload 4, 2) := by decide +kernel
theorem dL_feeds_19 : decode cL_feeds 19 = .ok (.bipush 20, 2) := by decide +kernel
theorem dL_feeds_21 : decode cL_feeds 21 = .ok (.if_icmp .ge 53, 3) := by decide +kernel
theorem dL_feeds_24 : decode cL_feeds 24 = .ok (.aload_n 3, 1) := by decide +kernel
theorem dL_feeds_25 : decode cL_feeds 25 = .ok (.iload 4, 2) := by decide +kernel
theorem dL_feeds_27 : decode cL_feeds 27 = .ok (.iconst 4, 1) := by decide +kernel
theorem dL_feeds_28 : decode cL_feeds 28 = .ok (.idiv, 1) := by decide +kernel
theorem dL_feeds_29 : decode cL_feeds 29 = .ok (.dup2, 1) := by decide +kernel
theorem dL_feeds_30 : decode cL_feeds 30 = .ok (.iaload, 1) := by decide +kernel
theorem dL_feeds_31 : decode cL_feeds 31 = .ok (.iload_n 2, 1) := by decide +kernel
theorem dL_feeds_32 : decode cL_feeds 32 = .ok (.iload 4, 2) := by decide +kernel
theorem dL_feeds_34 : decode cL_feeds 34 = .ok (.iadd, 1) := by decide +kernel
theorem dL_feeds_35 : decode cL_feeds 35 = .ok (.aload_n 1, 1) := by decide +kernel
theorem dL_feeds_36 : decode cL_feeds 36 = .ok (.invokevirtual 165, 3) := by decide +kernel
theorem dL_feeds_39 : decode cL_feeds 39 = .ok (.if_icmp .ge 14, 3) := by decide +kernel
theorem dL_feeds_42 : decode cL_feeds 42 = .ok (.aload_n 1, 1) := by decide +kernel
theorem dL_feeds_43 : decode cL_feeds 43 = .ok (.iload_n 2, 1) := by decide +kernel
theorem dL_feeds_44 : decode cL_feeds 44 = .ok (.iload 4, 2) := by decide +kernel
theorem dL_feeds_46 : decode cL_feeds 46 = .ok (.iadd, 1) := by decide +kernel
theorem dL_feeds_47 : decode cL_feeds 47 = .ok (.invokevirtual 170, 3) := by decide +kernel
theorem dL_feeds_50 : decode cL_feeds 50 = .ok (.goto 5, 3) := by decide +kernel
theorem dL_feeds_53 : decode cL_feeds 53 = .ok (.bipush 32, 2) := by decide +kernel
theorem dL_feeds_55 : decode cL_feeds 55 = .ok (.bipush 24, 2) := by decide +kernel
theorem dL_feeds_57 : decode cL_feeds 57 = .ok (.bipush 8, 2) := by decide +kernel
theorem dL_feeds_59 : decode cL_feeds 59 = .ok (.iload 4, 2) := by decide +kernel
theorem dL_feeds_61 : decode cL_feeds 61 = .ok (.iconst 4, 1) := by decide +kernel
theorem dL_feeds_62 : decode cL_feeds 62 = .ok (.irem, 1) := by decide +kernel
theorem dL_feeds_63 : decode cL_feeds 63 = .ok (.imul, 1) := by decide +kernel
theorem dL_feeds_64 : decode cL_feeds 64 = .ok (.isub, 1) := by decide +kernel
theorem dL_feeds_65 : decode cL_feeds 65 = .ok (.ishl, 1) := by decide +kernel
theorem dL_feeds_66 : decode cL_feeds 66 = .ok (.ior, 1) := by decide +kernel
theorem dL_feeds_67 : decode cL_feeds 67 = .ok (.iastore, 1) := by decide +kernel
theorem dL_feeds_68 : decode cL_feeds 68 = .ok (.iinc 4 1, 3) := by decide +kernel
theorem dL_feeds_71 : decode cL_feeds 71 = .ok (.goto (-54), 3) := by decide +kernel
theorem dL_feeds_74 : decode cL_feeds 74 = .ok (.aload_n 0, 1) := by decide +kernel
theorem dL_feeds_75 : decode cL_feeds 75 = .ok (.bipush 13, 2) := by decide +kernel
theorem dL_feeds_77 : decode cL_feeds 77 = .ok (.aload_n 3, 1) := by decide +kernel
theorem dL_feeds_78 : decode cL_feeds 78 = .ok (.iconst 0, 1) := by decide +kernel
theorem dL_feeds_79 : decode cL_feeds 79 = .ok (.iaload, 1) := by decide +kernel
theorem dL_feeds_80 : decode cL_feeds 80 = .ok (.aload_n 3, 1) := by decide +kernel
theorem dL_feeds_81 : decode cL_feeds 81 = .ok (.iconst 1, 1) := by decide +kernel
theorem dL_feeds_82 : decode cL_feeds 82 = .ok (.iaload, 1) := by decide +kernel
theorem dL_feeds_83 : decode cL_feeds 83 = .ok (.aload_n 3, 1) := by decide +kernel
theorem dL_feeds_84 : decode cL_feeds 84 = .ok (.iconst 2, 1) := by decide +kernel
theorem dL_feeds_85 : decode cL_feeds 85 = .ok (.iaload, 1) := by decide +kernel
theorem dL_feeds_86 : decode cL_feeds 86 = .ok (.aload_n 3, 1) := by decide +kernel
theorem dL_feeds_87 : decode cL_feeds 87 = .ok (.iconst 3, 1) := by decide +kernel
theorem dL_feeds_88 : decode cL_feeds 88 = .ok (.iaload, 1) := by decide +kernel
theorem dL_feeds_89 : decode cL_feeds 89 = .ok (.aload_n 3, 1) := by decide +kernel
theorem dL_feeds_90 : decode cL_feeds 90 = .ok (.iconst 4, 1) := by decide +kernel
theorem dL_feeds_91 : decode cL_feeds 91 = .ok (.iaload, 1) := by decide +kernel
theorem dL_feeds_92 : decode cL_feeds 92 = .ok (.invokestatic 161, 3) := by decide +kernel
theorem dL_feeds_95 : decode cL_feeds 95 = .ok (.iload_n 2, 1) := by decide +kernel
theorem dL_feeds_96 : decode cL_feeds 96 = .ok (.bipush 20, 2) := by decide +kernel
theorem dL_feeds_98 : decode cL_feeds 98 = .ok (.iadd, 1) := by decide +kernel
theorem dL_feeds_99 : decode cL_feeds 99 = .ok (.if_icmp .eq 5, 3) := by decide +kernel
theorem dL_feeds_102 : decode cL_feeds 102 = .ok (.iconst 0, 1) := by decide +kernel
theorem dL_feeds_103 : decode cL_feeds 103 = .ok (.ireturn, 1) := by decide +kernel
theorem dL_feeds_104 : decode cL_feeds 104 = .ok (.iinc 2 20, 3) := by decide +kernel
theorem dL_feeds_107 : decode cL_feeds 107 = .ok (.goto (-105), 3) := by decide +kernel
theorem dL_feeds_110 : decode cL_feeds 110 = .ok (.aload_n 0, 1) := by decide +kernel
theorem dL_feeds_111 : decode cL_feeds 111 = .ok (.bipush 14, 2) := by decide +kernel
theorem dL_feeds_113 : decode cL_feeds 113 = .ok (.aload_n 1, 1) := by decide +kernel
theorem dL_feeds_114 : decode cL_feeds 114 = .ok (.invokevirtual 165, 3) := by decide +kernel
theorem dL_feeds_117 : decode cL_feeds 117 = .ok (.invokestatic 174, 3) := by decide +kernel
theorem dL_feeds_120 : decode cL_feeds 120 = .ok (.aload_n 1, 1) := by decide +kernel
theorem dL_feeds_121 : decode cL_feeds 121 = .ok (.invokevirtual 165, 3) := by decide +kernel
theorem dL_feeds_124 : decode cL_feeds 124 = .ok (.if_icmp .ne 7, 3) := by decide +kernel
theorem dL_feeds_127 : decode cL_feeds 127 = .ok (.iconst 1, 1) := by decide +kernel
theorem dL_feeds_128 : decode cL_feeds 128 = .ok (.goto 4, 3) := by decide +kernel
theorem dL_feeds_131 : decode cL_feeds 131 = .ok (.iconst 0, 1) := by decide +kernel
theorem dL_feeds_132 : decode cL_feeds 132 = .ok (.ireturn, 1) := by decide +kernel
theorem dL_window_0 : decode cL_window 0 = .ok (.new 177, 3) := by decide +kernel
theorem dL_window_3 : decode cL_window 3 = .ok (.dup, 1) := by decide +kernel
theorem dL_window_4 : decode cL_window 4 = .ok (.ldc 179, 2) := by decide +kernel
theorem dL_window_6 : decode cL_window 6 = .ok (.invokespecial 181, 3) := by decide +kernel
theorem dL_window_9 : decode cL_window 9 = .ok (.iconst 1, 1) := by decide +kernel
theorem dL_window_10 : decode cL_window 10 = .ok (.iload_n 0, 1) := by decide +kernel
theorem dL_window_11 : decode cL_window 11 = .ok (.sipush 255, 3) := by decide +kernel
theorem dL_window_14 : decode cL_window 14 = .ok (.iand, 1) := by decide +kernel
theorem dL_window_15 : decode cL_window 15 = .ok (.bipush 14, 2) := by decide +kernel
theorem dL_window_17 : decode cL_window 17 = .ok (.irem, 1) := by decide +kernel
theorem dL_window_18 : decode cL_window 18 = .ok (.iadd, 1) := by decide +kernel
theorem dL_window_19 : decode cL_window 19 = .ok (.invokevirtual 184, 3) := by decide +kernel
theorem dL_window_22 : decode cL_window 22 = .ok (.bipush 32, 2) := by decide +kernel
theorem dL_window_24 : decode cL_window 24 = .ok (.invokevirtual 187, 3) := by decide +kernel
theorem dL_window_27 : decode cL_window 27 = .ok (.iload_n 0, 1) := by decide +kernel
theorem dL_window_28 : decode cL_window 28 = .ok (.iconst 3, 1) := by decide +kernel
theorem dL_window_29 : decode cL_window 29 = .ok (.ishr, 1) := by decide +kernel
theorem dL_window_30 : decode cL_window 30 = .ok (.sipush 255, 3) := by decide +kernel
theorem dL_window_33 : decode cL_window 33 = .ok (.iand, 1) := by decide +kernel
theorem dL_window_34 : decode cL_window 34 = .ok (.bipush 14, 2) := by decide +kernel
theorem dL_window_36 : decode cL_window 36 = .ok (.irem, 1) := by decide +kernel
theorem dL_window_37 : decode cL_window 37 = .ok (.invokevirtual 184, 3) := by decide +kernel
theorem dL_window_40 : decode cL_window 40 = .ok (.bipush 32, 2) := by decide +kernel
theorem dL_window_42 : decode cL_window 42 = .ok (.invokevirtual 187, 3) := by decide +kernel
theorem dL_window_45 : decode cL_window 45 = .ok (.iload_n 0, 1) := by decide +kernel
theorem dL_window_46 : decode cL_window 46 = .ok (.bipush 6, 2) := by decide +kernel
theorem dL_window_48 : decode cL_window 48 = .ok (.ishr, 1) := by decide +kernel
theorem dL_window_49 : decode cL_window 49 = .ok (.bipush 7, 2) := by decide +kernel
theorem dL_window_51 : decode cL_window 51 = .ok (.iand, 1) := by decide +kernel
theorem dL_window_52 : decode cL_window 52 = .ok (.invokevirtual 184, 3) := by decide +kernel
theorem dL_window_55 : decode cL_window 55 = .ok (.ldc 190, 2) := by decide +kernel
theorem dL_window_57 : decode cL_window 57 = .ok (.invokevirtual 192, 3) := by decide +kernel
theorem dL_window_60 : decode cL_window 60 = .ok (.astore_n 2, 1) := by decide +kernel
theorem dL_window_61 : decode cL_window 61 = .ok (.iload_n 1, 1) := by decide +kernel
theorem dL_window_62 : decode cL_window 62 = .ok (.istore_n 3, 1) := by decide +kernel
theorem dL_window_63 : decode cL_window 63 = .ok (.iconst 0, 1) := by decide +kernel
theorem dL_window_64 : decode cL_window 64 = .ok (.istore 4, 2) := by decide +kernel
theorem dL_window_66 : decode cL_window 66 = .ok (.iload 4, 2) := by decide +kernel
theorem dL_window_68 : decode cL_window 68 = .ok (.iconst 1, 1) := by decide +kernel
theorem dL_window_69 : decode cL_window 69 = .ok (.iload_n 0, 1) := by decide +kernel
theorem dL_window_70 : decode cL_window 70 = .ok (.bipush 9, 2) := by decide +kernel
theorem dL_window_72 : decode cL_window 72 = .ok (.ishr, 1) := by decide +kernel
theorem dL_window_73 : decode cL_window 73 = .ok (.bipush 7, 2) := by decide +kernel
theorem dL_window_75 : decode cL_window 75 = .ok (.iand, 1) := by decide +kernel
theorem dL_window_76 : decode cL_window 76 = .ok (.iadd, 1) := by decide +kernel
theorem dL_window_77 : decode cL_window 77 = .ok (.if_icmp .ge 39, 3) := by decide +kernel
theorem dL_window_80 : decode cL_window 80 = .ok (.iload_n 3, 1) := by decide +kernel
theorem dL_window_81 : decode cL_window 81 = .ok (.ldc 195, 2) := by decide +kernel
theorem dL_window_83 : decode cL_window 83 = .ok (.imul, 1) := by decide +kernel
theorem dL_window_84 : decode cL_window 84 = .ok (.sipush 12345, 3) := by decide +kernel
theorem dL_window_87 : decode cL_window 87 = .ok (.iadd, 1) := by decide +kernel
theorem dL_window_88 : decode cL_window 88 = .ok (.istore_n 3, 1) := by decide +kernel
theorem dL_window_89 : decode cL_window 89 = .ok (.aload_n 2, 1) := by decide +kernel
theorem dL_window_90 : decode cL_window 90 = .ok (.bipush 32, 2) := by decide +kernel
theorem dL_window_92 : decode cL_window 92 = .ok (.invokevirtual 187, 3) := by decide +kernel
theorem dL_window_95 : decode cL_window 95 = .ok (.iload_n 3, 1) := by decide +kernel
theorem dL_window_96 : decode cL_window 96 = .ok (.bipush 8, 2) := by decide +kernel
theorem dL_window_98 : decode cL_window 98 = .ok (.ishr, 1) := by decide +kernel
theorem dL_window_99 : decode cL_window 99 = .ok (.sipush 255, 3) := by decide +kernel
theorem dL_window_102 : decode cL_window 102 = .ok (.iand, 1) := by decide +kernel
theorem dL_window_103 : decode cL_window 103 = .ok (.bipush 10, 2) := by decide +kernel
theorem dL_window_105 : decode cL_window 105 = .ok (.irem, 1) := by decide +kernel
theorem dL_window_106 : decode cL_window 106 = .ok (.invokevirtual 184, 3) := by decide +kernel
theorem dL_window_109 : decode cL_window 109 = .ok (.pop, 1) := by decide +kernel
theorem dL_window_110 : decode cL_window 110 = .ok (.iinc 4 1, 3) := by decide +kernel
theorem dL_window_113 : decode cL_window 113 = .ok (.goto (-47), 3) := by decide +kernel
theorem dL_window_116 : decode cL_window 116 = .ok (.aload_n 2, 1) := by decide +kernel
theorem dL_window_117 : decode cL_window 117 = .ok (.bipush 59, 2) := by decide +kernel
theorem dL_window_119 : decode cL_window 119 = .ok (.invokevirtual 187, 3) := by decide +kernel
theorem dL_window_122 : decode cL_window 122 = .ok (.pop, 1) := by decide +kernel
theorem dL_window_123 : decode cL_window 123 = .ok (.iconst 0, 1) := by decide +kernel
theorem dL_window_124 : decode cL_window 124 = .ok (.istore 4, 2) := by decide +kernel
theorem dL_window_126 : decode cL_window 126 = .ok (.iload 4, 2) := by decide +kernel
theorem dL_window_128 : decode cL_window 128 = .ok (.iload_n 0, 1) := by decide +kernel
theorem dL_window_129 : decode cL_window 129 = .ok (.bipush 12, 2) := by decide +kernel
theorem dL_window_131 : decode cL_window 131 = .ok (.ishr, 1) := by decide +kernel
theorem dL_window_132 : decode cL_window 132 = .ok (.iconst 3, 1) := by decide +kernel
theorem dL_window_133 : decode cL_window 133 = .ok (.iand, 1) := by decide +kernel
theorem dL_window_134 : decode cL_window 134 = .ok (.if_icmp .ge 65, 3) := by decide +kernel
theorem dL_window_137 : decode cL_window 137 = .ok (.iload_n 3, 1) := by decide +kernel
theorem dL_window_138 : decode cL_window 138 = .ok (.ldc 195, 2) := by decide +kernel
theorem dL_window_140 : decode cL_window 140 = .ok (.imul, 1) := by decide +kernel
theorem dL_window_141 : decode cL_window 141 = .ok (.sipush 12345, 3) := by decide +kernel
theorem dL_window_144 : decode cL_window 144 = .ok (.iadd, 1) := by decide +kernel
theorem dL_window_145 : decode cL_window 145 = .ok (.istore_n 3, 1) := by decide +kernel
theorem dL_window_146 : decode cL_window 146 = .ok (.aload_n 2, 1) := by decide +kernel
theorem dL_window_147 : decode cL_window 147 = .ok (.ldc 196, 2) := by decide +kernel
theorem dL_window_149 : decode cL_window 149 = .ok (.invokevirtual 192, 3) := by decide +kernel
theorem dL_window_152 : decode cL_window 152 = .ok (.iconst 1, 1) := by decide +kernel
theorem dL_window_153 : decode cL_window 153 = .ok (.iload_n 3, 1) := by decide +kernel
theorem dL_window_154 : decode cL_window 154 = .ok (.bipush 8, 2) := by decide +kernel
theorem dL_window_156 : decode cL_window 156 = .ok (.ishr, 1) := by decide +kernel
theorem dL_window_157 : decode cL_window 157 = .ok (.sipush 255, 3) := by decide +kernel
theorem dL_window_160 : decode cL_window 160 = .ok (.iand, 1) := by decide +kernel
theorem dL_window_161 : decode cL_window 161 = .ok (.bipush 9, 2) := by decide +kernel
theorem dL_window_163 : decode cL_window 163 = .ok (.irem, 1) := by decide +kernel
theorem dL_window_164 : decode cL_window 164 = .ok (.iadd, 1) := by decide +kernel
theorem dL_window_165 : decode cL_window 165 = .ok (.invokevirtual 184, 3) := by decide +kernel
theorem dL_window_168 : decode cL_window 168 = .ok (.bipush 32, 2) := by decide +kernel
theorem dL_window_170 : decode cL_window 170 = .ok (.invokevirtual 187, 3) := by decide +kernel
theorem dL_window_173 : decode cL_window 173 = .ok (.iload_n 3, 1) := by decide +kernel
theorem dL_window_174 : decode cL_window 174 = .ok (.bipush 12, 2) := by decide +kernel
theorem dL_window_176 : decode cL_window 176 = .ok (.ishr, 1) := by decide +kernel
theorem dL_window_177 : decode cL_window 177 = .ok (.sipush 255, 3) := by decide +kernel
theorem dL_window_180 : decode cL_window 180 = .ok (.iand, 1) := by decide +kernel
theorem dL_window_181 : decode cL_window 181 = .ok (.bipush 100, 2) := by decide +kernel
theorem dL_window_183 : decode cL_window 183 = .ok (.irem, 1) := by decide +kernel
theorem dL_window_184 : decode cL_window 184 = .ok (.invokevirtual 184, 3) := by decide +kernel
theorem dL_window_187 : decode cL_window 187 = .ok (.bipush 59, 2) := by decide +kernel
theorem dL_window_189 : decode cL_window 189 = .ok (.invokevirtual 187, 3) := by decide +kernel
theorem dL_window_192 : decode cL_window 192 = .ok (.pop, 1) := by decide +kernel
theorem dL_window_193 : decode cL_window 193 = .ok (.iinc 4 1, 3) := by decide +kernel
theorem dL_window_196 : decode cL_window 196 = .ok (.goto (-70), 3) := by decide +kernel
theorem dL_window_199 : decode cL_window 199 = .ok (.iconst 4, 1) := by decide +kernel
theorem dL_window_200 : decode cL_window 200 = .ok (.anewarray 166, 3) := by decide +kernel
theorem dL_window_203 : decode cL_window 203 = .ok (.dup, 1) := by decide +kernel
theorem dL_window_204 : decode cL_window 204 = .ok (.iconst 0, 1) := by decide +kernel
theorem dL_window_205 : decode cL_window 205 = .ok (.ldc 198, 2) := by decide +kernel
theorem dL_window_207 : decode cL_window 207 = .ok (.aastore, 1) := by decide +kernel
theorem dL_window_208 : decode cL_window 208 = .ok (.dup, 1) := by decide +kernel
theorem dL_window_209 : decode cL_window 209 = .ok (.iconst 1, 1) := by decide +kernel
theorem dL_window_210 : decode cL_window 210 = .ok (.ldc 200, 2) := by decide +kernel
theorem dL_window_212 : decode cL_window 212 = .ok (.aastore, 1) := by decide +kernel
theorem dL_window_213 : decode cL_window 213 = .ok (.dup, 1) := by decide +kernel
theorem dL_window_214 : decode cL_window 214 = .ok (.iconst 2, 1) := by decide +kernel
theorem dL_window_215 : decode cL_window 215 = .ok (.ldc 202, 2) := by decide +kernel
theorem dL_window_217 : decode cL_window 217 = .ok (.aastore, 1) := by decide +kernel
theorem dL_window_218 : decode cL_window 218 = .ok (.dup, 1) := by decide +kernel
theorem dL_window_219 : decode cL_window 219 = .ok (.iconst 3, 1) := by decide +kernel
theorem dL_window_220 : decode cL_window 220 = .ok (.ldc 204, 2) := by decide +kernel
theorem dL_window_222 : decode cL_window 222 = .ok (.aastore, 1) := by decide +kernel
theorem dL_window_223 : decode cL_window 223 = .ok (.astore 4, 2) := by decide +kernel
theorem dL_window_225 : decode cL_window 225 = .ok (.iconst 0, 1) := by decide +kernel
theorem dL_window_226 : decode cL_window 226 = .ok (.istore 5, 2) := by decide +kernel
theorem dL_window_228 : decode cL_window 228 = .ok (.iload 5, 2) := by decide +kernel
theorem dL_window_230 : decode cL_window 230 = .ok (.iload_n 0, 1) := by decide +kernel
theorem dL_window_231 : decode cL_window 231 = .ok (.bipush 14, 2) := by decide +kernel
theorem dL_window_233 : decode cL_window 233 = .ok (.ishr, 1) := by decide +kernel
theorem dL_window_234 : decode cL_window 234 = .ok (.bipush 15, 2) := by decide +kernel
theorem dL_window_236 : decode cL_window 236 = .ok (.iand, 1) := by decide +kernel
theorem dL_window_237 : decode cL_window 237 = .ok (.if_icmp .ge 82, 3) := by decide +kernel
theorem dL_window_240 : decode cL_window 240 = .ok (.iload_n 3, 1) := by decide +kernel
theorem dL_window_241 : decode cL_window 241 = .ok (.ldc 195, 2) := by decide +kernel
theorem dL_window_243 : decode cL_window 243 = .ok (.imul, 1) := by decide +kernel
theorem dL_window_244 : decode cL_window 244 = .ok (.sipush 12345, 3) := by decide +kernel
theorem dL_window_247 : decode cL_window 247 = .ok (.iadd, 1) := by decide +kernel
theorem dL_window_248 : decode cL_window 248 = .ok (.istore_n 3, 1) := by decide +kernel
theorem dL_window_249 : decode cL_window 249 = .ok (.aload_n 2, 1) := by decide +kernel
theorem dL_window_250 : decode cL_window 250 = .ok (.ldc 206, 2) := by decide +kernel
theorem dL_window_252 : decode cL_window 252 = .ok (.invokevirtual 192, 3) := by decide +kernel
theorem dL_window_255 : decode cL_window 255 = .ok (.iconst 5, 1) := by decide +kernel
theorem dL_window_256 : decode cL_window 256 = .ok (.iload 5, 2) := by decide +kernel
theorem dL_window_258 : decode cL_window 258 = .ok (.imul, 1) := by decide +kernel
theorem dL_window_259 : decode cL_window 259 = .ok (.iload_n 3, 1) := by decide +kernel
theorem dL_window_260 : decode cL_window 260 = .ok (.bipush 8, 2) := by decide +kernel
theorem dL_window_262 : decode cL_window 262 = .ok (.ishr, 1) := by decide +kernel
theorem dL_window_263 : decode cL_window 263 = .ok (.iconst 3, 1) := by decide +kernel
theorem dL_window_264 : decode cL_window 264 = .ok (.iand, 1) := by decide +kernel
theorem dL_window_265 : decode cL_window 265 = .ok (.iadd, 1) := by decide +kernel
theorem dL_window_266 : decode cL_window 266 = .ok (.invokevirtual 184, 3) := by decide +kernel
theorem dL_window_269 : decode cL_window 269 = .ok (.bipush 32, 2) := by decide +kernel
theorem dL_window_271 : decode cL_window 271 = .ok (.invokevirtual 187, 3) := by decide +kernel
theorem dL_window_274 : decode cL_window 274 = .ok (.aload 4, 2) := by decide +kernel
theorem dL_window_276 : decode cL_window 276 = .ok (.iload_n 3, 1) := by decide +kernel
theorem dL_window_277 : decode cL_window 277 = .ok (.bipush 11, 2) := by decide +kernel
theorem dL_window_279 : decode cL_window 279 = .ok (.ishr, 1) := by decide +kernel
theorem dL_window_280 : decode cL_window 280 = .ok (.iconst 3, 1) := by decide +kernel
theorem dL_window_281 : decode cL_window 281 = .ok (.iand, 1) := by decide +kernel
theorem dL_window_282 : decode cL_window 282 = .ok (.aaload, 1) := by decide +kernel
theorem dL_window_283 : decode cL_window 283 = .ok (.invokevirtual 192, 3) := by decide +kernel
theorem dL_window_286 : decode cL_window 286 = .ok (.bipush 32, 2) := by decide +kernel
theorem dL_window_288 : decode cL_window 288 = .ok (.invokevirtual 187, 3) := by decide +kernel
theorem dL_window_291 : decode cL_window 291 = .ok (.iconst 1, 1) := by decide +kernel
theorem dL_window_292 : decode cL_window 292 = .ok (.iload_n 3, 1) := by decide +kernel
theorem dL_window_293 : decode cL_window 293 = .ok (.bipush 13, 2) := by decide +kernel
theorem dL_window_295 : decode cL_window 295 = .ok (.ishr, 1) := by decide +kernel
theorem dL_window_296 : decode cL_window 296 = .ok (.sipush 255, 3) := by decide +kernel
theorem dL_window_299 : decode cL_window 299 = .ok (.iand, 1) := by decide +kernel
theorem dL_window_300 : decode cL_window 300 = .ok (.bipush 9, 2) := by decide +kernel
theorem dL_window_302 : decode cL_window 302 = .ok (.irem, 1) := by decide +kernel
theorem dL_window_303 : decode cL_window 303 = .ok (.iadd, 1) := by decide +kernel
theorem dL_window_304 : decode cL_window 304 = .ok (.invokevirtual 184, 3) := by decide +kernel
theorem dL_window_307 : decode cL_window 307 = .ok (.bipush 59, 2) := by decide +kernel
theorem dL_window_309 : decode cL_window 309 = .ok (.invokevirtual 187, 3) := by decide +kernel
theorem dL_window_312 : decode cL_window 312 = .ok (.pop, 1) := by decide +kernel
theorem dL_window_313 : decode cL_window 313 = .ok (.iinc 5 1, 3) := by decide +kernel
theorem dL_window_316 : decode cL_window 316 = .ok (.goto (-88), 3) := by decide +kernel
theorem dL_window_319 : decode cL_window 319 = .ok (.aload_n 2, 1) := by decide +kernel
theorem dL_window_320 : decode cL_window 320 = .ok (.invokevirtual 208, 3) := by decide +kernel
theorem dL_window_323 : decode cL_window 323 = .ok (.areturn, 1) := by decide +kernel
theorem dL_state_0 : decode cL_state 0 = .ok (.ldc2_w 212, 3) := by decide +kernel
theorem dL_state_3 : decode cL_state 3 = .ok (.aload_n 0, 1) := by decide +kernel
theorem dL_state_4 : decode cL_state 4 = .ok (.invokevirtual 214, 3) := by decide +kernel
theorem dL_state_7 : decode cL_state 7 = .ok (.i2l, 1) := by decide +kernel
theorem dL_state_8 : decode cL_state 8 = .ok (.lmul, 1) := by decide +kernel
theorem dL_state_9 : decode cL_state 9 = .ok (.aload_n 0, 1) := by decide +kernel
theorem dL_state_10 : decode cL_state 10 = .ok (.invokevirtual 217, 3) := by decide +kernel
theorem dL_state_13 : decode cL_state 13 = .ok (.i2l, 1) := by decide +kernel
theorem dL_state_14 : decode cL_state 14 = .ok (.ladd, 1) := by decide +kernel
theorem dL_state_15 : decode cL_state 15 = .ok (.lstore_n 1, 1) := by decide +kernel
theorem dL_state_16 : decode cL_state 16 = .ok (.lload_n 1, 1) := by decide +kernel
theorem dL_state_17 : decode cL_state 17 = .ok (.ldc2_w 220, 3) := by decide +kernel
theorem dL_state_20 : decode cL_state 20 = .ok (.lmul, 1) := by decide +kernel
theorem dL_state_21 : decode cL_state 21 = .ok (.aload_n 0, 1) := by decide +kernel
theorem dL_state_22 : decode cL_state 22 = .ok (.invokevirtual 222, 3) := by decide +kernel
theorem dL_state_25 : decode cL_state 25 = .ok (.i2l, 1) := by decide +kernel
theorem dL_state_26 : decode cL_state 26 = .ok (.ladd, 1) := by decide +kernel
theorem dL_state_27 : decode cL_state 27 = .ok (.lstore_n 1, 1) := by decide +kernel
theorem dL_state_28 : decode cL_state 28 = .ok (.lload_n 1, 1) := by decide +kernel
theorem dL_state_29 : decode cL_state 29 = .ok (.ldc2_w 220, 3) := by decide +kernel
theorem dL_state_32 : decode cL_state 32 = .ok (.lmul, 1) := by decide +kernel
theorem dL_state_33 : decode cL_state 33 = .ok (.aload_n 0, 1) := by decide +kernel
theorem dL_state_34 : decode cL_state 34 = .ok (.invokevirtual 225, 3) := by decide +kernel
theorem dL_state_37 : decode cL_state 37 = .ok (.i2l, 1) := by decide +kernel
theorem dL_state_38 : decode cL_state 38 = .ok (.ladd, 1) := by decide +kernel
theorem dL_state_39 : decode cL_state 39 = .ok (.lstore_n 1, 1) := by decide +kernel
theorem dL_state_40 : decode cL_state 40 = .ok (.lload_n 1, 1) := by decide +kernel
theorem dL_state_41 : decode cL_state 41 = .ok (.ldc2_w 220, 3) := by decide +kernel
theorem dL_state_44 : decode cL_state 44 = .ok (.lmul, 1) := by decide +kernel
theorem dL_state_45 : decode cL_state 45 = .ok (.aload_n 0, 1) := by decide +kernel
theorem dL_state_46 : decode cL_state 46 = .ok (.invokevirtual 228, 3) := by decide +kernel
theorem dL_state_49 : decode cL_state 49 = .ok (.i2l, 1) := by decide +kernel
theorem dL_state_50 : decode cL_state 50 = .ok (.ladd, 1) := by decide +kernel
theorem dL_state_51 : decode cL_state 51 = .ok (.lstore_n 1, 1) := by decide +kernel
theorem dL_state_52 : decode cL_state 52 = .ok (.lload_n 1, 1) := by decide +kernel
theorem dL_state_53 : decode cL_state 53 = .ok (.ldc2_w 231, 3) := by decide +kernel
theorem dL_state_56 : decode cL_state 56 = .ok (.lmul, 1) := by decide +kernel
theorem dL_state_57 : decode cL_state 57 = .ok (.aload_n 0, 1) := by decide +kernel
theorem dL_state_58 : decode cL_state 58 = .ok (.invokevirtual 233, 3) := by decide +kernel
theorem dL_state_61 : decode cL_state 61 = .ok (.i2l, 1) := by decide +kernel
theorem dL_state_62 : decode cL_state 62 = .ok (.ladd, 1) := by decide +kernel
theorem dL_state_63 : decode cL_state 63 = .ok (.lstore_n 1, 1) := by decide +kernel
theorem dL_state_64 : decode cL_state 64 = .ok (.iconst 0, 1) := by decide +kernel
theorem dL_state_65 : decode cL_state 65 = .ok (.istore_n 3, 1) := by decide +kernel
theorem dL_state_66 : decode cL_state 66 = .ok (.iload_n 3, 1) := by decide +kernel
theorem dL_state_67 : decode cL_state 67 = .ok (.aload_n 0, 1) := by decide +kernel
theorem dL_state_68 : decode cL_state 68 = .ok (.invokevirtual 236, 3) := by decide +kernel
theorem dL_state_71 : decode cL_state 71 = .ok (.if_icmp .ge 24, 3) := by decide +kernel
theorem dL_state_74 : decode cL_state 74 = .ok (.lload_n 1, 1) := by decide +kernel
theorem dL_state_75 : decode cL_state 75 = .ok (.ldc2_w 239, 3) := by decide +kernel
theorem dL_state_78 : decode cL_state 78 = .ok (.lmul, 1) := by decide +kernel
theorem dL_state_79 : decode cL_state 79 = .ok (.aload_n 0, 1) := by decide +kernel
theorem dL_state_80 : decode cL_state 80 = .ok (.bipush 18, 2) := by decide +kernel
theorem dL_state_82 : decode cL_state 82 = .ok (.iload_n 3, 1) := by decide +kernel
theorem dL_state_83 : decode cL_state 83 = .ok (.invokestatic 174, 3) := by decide +kernel
theorem dL_state_86 : decode cL_state 86 = .ok (.i2l, 1) := by decide +kernel
theorem dL_state_87 : decode cL_state 87 = .ok (.ladd, 1) := by decide +kernel
theorem dL_state_88 : decode cL_state 88 = .ok (.lstore_n 1, 1) := by decide +kernel
theorem dL_state_89 : decode cL_state 89 = .ok (.iinc 3 1, 3) := by decide +kernel
theorem dL_state_92 : decode cL_state 92 = .ok (.goto (-26), 3) := by decide +kernel
theorem dL_state_95 : decode cL_state 95 = .ok (.iconst 0, 1) := by decide +kernel
theorem dL_state_96 : decode cL_state 96 = .ok (.istore_n 3, 1) := by decide +kernel
theorem dL_state_97 : decode cL_state 97 = .ok (.iload_n 3, 1) := by decide +kernel
theorem dL_state_98 : decode cL_state 98 = .ok (.aload_n 0, 1) := by decide +kernel
theorem dL_state_99 : decode cL_state 99 = .ok (.invokevirtual 241, 3) := by decide +kernel
theorem dL_state_102 : decode cL_state 102 = .ok (.if_icmp .ge 41, 3) := by decide +kernel
theorem dL_state_105 : decode cL_state 105 = .ok (.bipush 38, 2) := by decide +kernel
theorem dL_state_107 : decode cL_state 107 = .ok (.istore 4, 2) := by decide +kernel
theorem dL_state_109 : decode cL_state 109 = .ok (.iload 4, 2) := by decide +kernel
theorem dL_state_111 : decode cL_state 111 = .ok (.bipush 41, 2) := by decide +kernel
theorem dL_state_113 : decode cL_state 113 = .ok (.if_icmp .ge 24, 3) := by decide +kernel
theorem dL_state_116 : decode cL_state 116 = .ok (.lload_n 1, 1) := by decide +kernel
theorem dL_state_117 : decode cL_state 117 = .ok (.ldc2_w 244, 3) := by decide +kernel
theorem dL_state_120 : decode cL_state 120 = .ok (.lmul, 1) := by decide +kernel
theorem dL_state_121 : decode cL_state 121 = .ok (.aload_n 0, 1) := by decide +kernel
theorem dL_state_122 : decode cL_state 122 = .ok (.iload 4, 2) := by decide +kernel
theorem dL_state_124 : decode cL_state 124 = .ok (.iload_n 3, 1) := by decide +kernel
theorem dL_state_125 : decode cL_state 125 = .ok (.invokestatic 174, 3) := by decide +kernel
theorem dL_state_128 : decode cL_state 128 = .ok (.i2l, 1) := by decide +kernel
theorem dL_state_129 : decode cL_state 129 = .ok (.ladd, 1) := by decide +kernel
theorem dL_state_130 : decode cL_state 130 = .ok (.lstore_n 1, 1) := by decide +kernel
theorem dL_state_131 : decode cL_state 131 = .ok (.iinc 4 1, 3) := by decide +kernel
theorem dL_state_134 : decode cL_state 134 = .ok (.goto (-25), 3) := by decide +kernel
theorem dL_state_137 : decode cL_state 137 = .ok (.iinc 3 1, 3) := by decide +kernel
theorem dL_state_140 : decode cL_state 140 = .ok (.goto (-43), 3) := by decide +kernel
theorem dL_state_143 : decode cL_state 143 = .ok (.iconst 0, 1) := by decide +kernel
theorem dL_state_144 : decode cL_state 144 = .ok (.istore_n 3, 1) := by decide +kernel
theorem dL_state_145 : decode cL_state 145 = .ok (.iload_n 3, 1) := by decide +kernel
theorem dL_state_146 : decode cL_state 146 = .ok (.aload_n 0, 1) := by decide +kernel
theorem dL_state_147 : decode cL_state 147 = .ok (.invokevirtual 246, 3) := by decide +kernel
theorem dL_state_150 : decode cL_state 150 = .ok (.if_icmp .ge 41, 3) := by decide +kernel
theorem dL_state_153 : decode cL_state 153 = .ok (.bipush 23, 2) := by decide +kernel
theorem dL_state_155 : decode cL_state 155 = .ok (.istore 4, 2) := by decide +kernel
theorem dL_state_157 : decode cL_state 157 = .ok (.iload 4, 2) := by decide +kernel
theorem dL_state_159 : decode cL_state 159 = .ok (.bipush 33, 2) := by decide +kernel
theorem dL_state_161 : decode cL_state 161 = .ok (.if_icmp .ge 24, 3) := by decide +kernel
theorem dL_state_164 : decode cL_state 164 = .ok (.lload_n 1, 1) := by decide +kernel
theorem dL_state_165 : decode cL_state 165 = .ok (.ldc2_w 231, 3) := by decide +kernel
theorem dL_state_168 : decode cL_state 168 = .ok (.lmul, 1) := by decide +kernel
theorem dL_state_169 : decode cL_state 169 = .ok (.aload_n 0, 1) := by decide +kernel
theorem dL_state_170 : decode cL_state 170 = .ok (.iload 4, 2) := by decide +kernel
theorem dL_state_172 : decode cL_state 172 = .ok (.iload_n 3, 1) := by decide +kernel
theorem dL_state_173 : decode cL_state 173 = .ok (.invokestatic 174, 3) := by decide +kernel
theorem dL_state_176 : decode cL_state 176 = .ok (.i2l, 1) := by decide +kernel
theorem dL_state_177 : decode cL_state 177 = .ok (.ladd, 1) := by decide +kernel
theorem dL_state_178 : decode cL_state 178 = .ok (.lstore_n 1, 1) := by decide +kernel
theorem dL_state_179 : decode cL_state 179 = .ok (.iinc 4 1, 3) := by decide +kernel
theorem dL_state_182 : decode cL_state 182 = .ok (.goto (-25), 3) := by decide +kernel
theorem dL_state_185 : decode cL_state 185 = .ok (.iinc 3 1, 3) := by decide +kernel
theorem dL_state_188 : decode cL_state 188 = .ok (.goto (-43), 3) := by decide +kernel
theorem dL_state_191 : decode cL_state 191 = .ok (.lload_n 1, 1) := by decide +kernel
theorem dL_state_192 : decode cL_state 192 = .ok (.lreturn, 1) := by decide +kernel
