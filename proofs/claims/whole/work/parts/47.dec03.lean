theorem dX10_byX_207 : decode cX10_byX 207 = .ok (.lcmp, 1) := by decide +kernel
theorem dX10_byX_208 : decode cX10_byX 208 = .ok (.ifCond .ne 9, 3) := by decide +kernel
theorem dX10_byX_211 : decode cX10_byX 211 = .ok (.iinc 7 1, 3) := by decide +kernel
theorem dX10_byX_214 : decode cX10_byX 214 = .ok (.goto (-27), 3) := by decide +kernel
theorem dX10_byX_217 : decode cX10_byX 217 = .ok (.iload 7, 2) := by decide +kernel
theorem dX10_byX_219 : decode cX10_byX 219 = .ok (.iload_n 3, 1) := by decide +kernel
theorem dX10_byX_220 : decode cX10_byX 220 = .ok (.if_icmp .ne 9, 3) := by decide +kernel
theorem dX10_byX_223 : decode cX10_byX 223 = .ok (.lconst 0, 1) := by decide +kernel
theorem dX10_byX_224 : decode cX10_byX 224 = .ok (.lstore 4, 2) := by decide +kernel
theorem dX10_byX_226 : decode cX10_byX 226 = .ok (.goto 274, 3) := by decide +kernel
theorem dX10_byX_229 : decode cX10_byX 229 = .ok (.iconst 0, 1) := by decide +kernel
theorem dX10_byX_230 : decode cX10_byX 230 = .ok (.istore 8, 2) := by decide +kernel
theorem dX10_byX_232 : decode cX10_byX 232 = .ok (.iload 8, 2) := by decide +kernel
theorem dX10_byX_234 : decode cX10_byX 234 = .ok (.iload_n 3, 1) := by decide +kernel
theorem dX10_byX_235 : decode cX10_byX 235 = .ok (.if_icmp .ge 72, 3) := by decide +kernel
theorem dX10_byX_238 : decode cX10_byX 238 = .ok (.iload 7, 2) := by decide +kernel
theorem dX10_byX_240 : decode cX10_byX 240 = .ok (.iload 6, 2) := by decide +kernel
theorem dX10_byX_242 : decode cX10_byX 242 = .ok (.if_icmp .eq 65, 3) := by decide +kernel
theorem dX10_byX_245 : decode cX10_byX 245 = .ok (.aload_n 0, 1) := by decide +kernel
theorem dX10_byX_246 : decode cX10_byX 246 = .ok (.getfield 29, 3) := by decide +kernel
theorem dX10_byX_249 : decode cX10_byX 249 = .ok (.bipush 80, 2) := by decide +kernel
theorem dX10_byX_251 : decode cX10_byX 251 = .ok (.iload 7, 2) := by decide +kernel
theorem dX10_byX_253 : decode cX10_byX 253 = .ok (.imul, 1) := by decide +kernel
theorem dX10_byX_254 : decode cX10_byX 254 = .ok (.iload 8, 2) := by decide +kernel
theorem dX10_byX_256 : decode cX10_byX 256 = .ok (.iadd, 1) := by decide +kernel
theorem dX10_byX_257 : decode cX10_byX 257 = .ok (.laload, 1) := by decide +kernel
theorem dX10_byX_258 : decode cX10_byX 258 = .ok (.lstore 9, 2) := by decide +kernel
theorem dX10_byX_260 : decode cX10_byX 260 = .ok (.aload_n 0, 1) := by decide +kernel
theorem dX10_byX_261 : decode cX10_byX 261 = .ok (.getfield 29, 3) := by decide +kernel
theorem dX10_byX_264 : decode cX10_byX 264 = .ok (.bipush 80, 2) := by decide +kernel
theorem dX10_byX_266 : decode cX10_byX 266 = .ok (.iload 7, 2) := by decide +kernel
theorem dX10_byX_268 : decode cX10_byX 268 = .ok (.imul, 1) := by decide +kernel
theorem dX10_byX_269 : decode cX10_byX 269 = .ok (.iload 8, 2) := by decide +kernel
theorem dX10_byX_271 : decode cX10_byX 271 = .ok (.iadd, 1) := by decide +kernel
theorem dX10_byX_272 : decode cX10_byX 272 = .ok (.aload_n 0, 1) := by decide +kernel
theorem dX10_byX_273 : decode cX10_byX 273 = .ok (.getfield 29, 3) := by decide +kernel
theorem dX10_byX_276 : decode cX10_byX 276 = .ok (.bipush 80, 2) := by decide +kernel
theorem dX10_byX_278 : decode cX10_byX 278 = .ok (.iload 6, 2) := by decide +kernel
theorem dX10_byX_280 : decode cX10_byX 280 = .ok (.imul, 1) := by decide +kernel
theorem dX10_byX_281 : decode cX10_byX 281 = .ok (.iload 8, 2) := by decide +kernel
theorem dX10_byX_283 : decode cX10_byX 283 = .ok (.iadd, 1) := by decide +kernel
theorem dX10_byX_284 : decode cX10_byX 284 = .ok (.laload, 1) := by decide +kernel
theorem dX10_byX_285 : decode cX10_byX 285 = .ok (.lastore, 1) := by decide +kernel
theorem dX10_byX_286 : decode cX10_byX 286 = .ok (.aload_n 0, 1) := by decide +kernel
theorem dX10_byX_287 : decode cX10_byX 287 = .ok (.getfield 29, 3) := by decide +kernel
theorem dX10_byX_290 : decode cX10_byX 290 = .ok (.bipush 80, 2) := by decide +kernel
theorem dX10_byX_292 : decode cX10_byX 292 = .ok (.iload 6, 2) := by decide +kernel
theorem dX10_byX_294 : decode cX10_byX 294 = .ok (.imul, 1) := by decide +kernel
theorem dX10_byX_295 : decode cX10_byX 295 = .ok (.iload 8, 2) := by decide +kernel
theorem dX10_byX_297 : decode cX10_byX 297 = .ok (.iadd, 1) := by decide +kernel
theorem dX10_byX_298 : decode cX10_byX 298 = .ok (.lload 9, 2) := by decide +kernel
theorem dX10_byX_300 : decode cX10_byX 300 = .ok (.lastore, 1) := by decide +kernel
theorem dX10_byX_301 : decode cX10_byX 301 = .ok (.iinc 8 1, 3) := by decide +kernel
theorem dX10_byX_304 : decode cX10_byX 304 = .ok (.goto (-72), 3) := by decide +kernel
theorem dX10_byX_307 : decode cX10_byX 307 = .ok (.iload 7, 2) := by decide +kernel
theorem dX10_byX_309 : decode cX10_byX 309 = .ok (.iload 6, 2) := by decide +kernel
theorem dX10_byX_311 : decode cX10_byX 311 = .ok (.if_icmp .eq 20, 3) := by decide +kernel
theorem dX10_byX_314 : decode cX10_byX 314 = .ok (.aload_n 0, 1) := by decide +kernel
theorem dX10_byX_315 : decode cX10_byX 315 = .ok (.getfield 78, 3) := by decide +kernel
theorem dX10_byX_318 : decode cX10_byX 318 = .ok (.i2l, 1) := by decide +kernel
theorem dX10_byX_319 : decode cX10_byX 319 = .ok (.lload 4, 2) := by decide +kernel
theorem dX10_byX_321 : decode cX10_byX 321 = .ok (.lsub, 1) := by decide +kernel
theorem dX10_byX_322 : decode cX10_byX 322 = .ok (.aload_n 0, 1) := by decide +kernel
theorem dX10_byX_323 : decode cX10_byX 323 = .ok (.getfield 78, 3) := by decide +kernel
theorem dX10_byX_326 : decode cX10_byX 326 = .ok (.i2l, 1) := by decide +kernel
theorem dX10_byX_327 : decode cX10_byX 327 = .ok (.lrem, 1) := by decide +kernel
theorem dX10_byX_328 : decode cX10_byX 328 = .ok (.goto 5, 3) := by decide +kernel
theorem dX10_byX_331 : decode cX10_byX 331 = .ok (.lload 4, 2) := by decide +kernel
theorem dX10_byX_333 : decode cX10_byX 333 = .ok (.lstore 4, 2) := by decide +kernel
theorem dX10_byX_335 : decode cX10_byX 335 = .ok (.lload 4, 2) := by decide +kernel
theorem dX10_byX_337 : decode cX10_byX 337 = .ok (.aload_n 0, 1) := by decide +kernel
theorem dX10_byX_338 : decode cX10_byX 338 = .ok (.getfield 29, 3) := by decide +kernel
theorem dX10_byX_341 : decode cX10_byX 341 = .ok (.bipush 80, 2) := by decide +kernel
theorem dX10_byX_343 : decode cX10_byX 343 = .ok (.iload 6, 2) := by decide +kernel
theorem dX10_byX_345 : decode cX10_byX 345 = .ok (.imul, 1) := by decide +kernel
theorem dX10_byX_346 : decode cX10_byX 346 = .ok (.iload 6, 2) := by decide +kernel
theorem dX10_byX_348 : decode cX10_byX 348 = .ok (.iadd, 1) := by decide +kernel
theorem dX10_byX_349 : decode cX10_byX 349 = .ok (.laload, 1) := by decide +kernel
theorem dX10_byX_350 : decode cX10_byX 350 = .ok (.lmul, 1) := by decide +kernel
theorem dX10_byX_351 : decode cX10_byX 351 = .ok (.aload_n 0, 1) := by decide +kernel
theorem dX10_byX_352 : decode cX10_byX 352 = .ok (.getfield 78, 3) := by decide +kernel
theorem dX10_byX_355 : decode cX10_byX 355 = .ok (.i2l, 1) := by decide +kernel
theorem dX10_byX_356 : decode cX10_byX 356 = .ok (.lrem, 1) := by decide +kernel
theorem dX10_byX_357 : decode cX10_byX 357 = .ok (.lstore 4, 2) := by decide +kernel
theorem dX10_byX_359 : decode cX10_byX 359 = .ok (.aload_n 0, 1) := by decide +kernel
theorem dX10_byX_360 : decode cX10_byX 360 = .ok (.aload_n 0, 1) := by decide +kernel
theorem dX10_byX_361 : decode cX10_byX 361 = .ok (.getfield 29, 3) := by decide +kernel
theorem dX10_byX_364 : decode cX10_byX 364 = .ok (.bipush 80, 2) := by decide +kernel
theorem dX10_byX_366 : decode cX10_byX 366 = .ok (.iload 6, 2) := by decide +kernel
theorem dX10_byX_368 : decode cX10_byX 368 = .ok (.imul, 1) := by decide +kernel
theorem dX10_byX_369 : decode cX10_byX 369 = .ok (.iload 6, 2) := by decide +kernel
theorem dX10_byX_371 : decode cX10_byX 371 = .ok (.iadd, 1) := by decide +kernel
theorem dX10_byX_372 : decode cX10_byX 372 = .ok (.laload, 1) := by decide +kernel
theorem dX10_byX_373 : decode cX10_byX 373 = .ok (.l2i, 1) := by decide +kernel
theorem dX10_byX_374 : decode cX10_byX 374 = .ok (.invokevirtual 173, 3) := by decide +kernel
theorem dX10_byX_377 : decode cX10_byX 377 = .ok (.i2l, 1) := by decide +kernel
theorem dX10_byX_378 : decode cX10_byX 378 = .ok (.lstore 8, 2) := by decide +kernel
theorem dX10_byX_380 : decode cX10_byX 380 = .ok (.iload 6, 2) := by decide +kernel
theorem dX10_byX_382 : decode cX10_byX 382 = .ok (.iconst 1, 1) := by decide +kernel
theorem dX10_byX_383 : decode cX10_byX 383 = .ok (.iadd, 1) := by decide +kernel
theorem dX10_byX_384 : decode cX10_byX 384 = .ok (.istore 10, 2) := by decide +kernel
theorem dX10_byX_386 : decode cX10_byX 386 = .ok (.iload 10, 2) := by decide +kernel
theorem dX10_byX_388 : decode cX10_byX 388 = .ok (.iload_n 3, 1) := by decide +kernel
theorem dX10_byX_389 : decode cX10_byX 389 = .ok (.if_icmp .ge 111, 3) := by decide +kernel
theorem dX10_byX_392 : decode cX10_byX 392 = .ok (.aload_n 0, 1) := by decide +kernel
theorem dX10_byX_393 : decode cX10_byX 393 = .ok (.getfield 29, 3) := by decide +kernel
theorem dX10_byX_396 : decode cX10_byX 396 = .ok (.bipush 80, 2) := by decide +kernel
theorem dX10_byX_398 : decode cX10_byX 398 = .ok (.iload 10, 2) := by decide +kernel
theorem dX10_byX_400 : decode cX10_byX 400 = .ok (.imul, 1) := by decide +kernel
theorem dX10_byX_401 : decode cX10_byX 401 = .ok (.iload 6, 2) := by decide +kernel
theorem dX10_byX_403 : decode cX10_byX 403 = .ok (.iadd, 1) := by decide +kernel
theorem dX10_byX_404 : decode cX10_byX 404 = .ok (.laload, 1) := by decide +kernel
theorem dX10_byX_405 : decode cX10_byX 405 = .ok (.lload 8, 2) := by decide +kernel
theorem dX10_byX_407 : decode cX10_byX 407 = .ok (.lmul, 1) := by decide +kernel
theorem dX10_byX_408 : decode cX10_byX 408 = .ok (.aload_n 0, 1) := by decide +kernel
theorem dX10_byX_409 : decode cX10_byX 409 = .ok (.getfield 78, 3) := by decide +kernel
theorem dX10_byX_412 : decode cX10_byX 412 = .ok (.i2l, 1) := by decide +kernel
theorem dX10_byX_413 : decode cX10_byX 413 = .ok (.lrem, 1) := by decide +kernel
theorem dX10_byX_414 : decode cX10_byX 414 = .ok (.lstore 11, 2) := by decide +kernel
theorem dX10_byX_416 : decode cX10_byX 416 = .ok (.iload 6, 2) := by decide +kernel
theorem dX10_byX_418 : decode cX10_byX 418 = .ok (.istore 13, 2) := by decide +kernel
theorem dX10_byX_420 : decode cX10_byX 420 = .ok (.iload 13, 2) := by decide +kernel
theorem dX10_byX_422 : decode cX10_byX 422 = .ok (.iload_n 3, 1) := by decide +kernel
theorem dX10_byX_423 : decode cX10_byX 423 = .ok (.if_icmp .ge 71, 3) := by decide +kernel
theorem dX10_byX_426 : decode cX10_byX 426 = .ok (.lload 11, 2) := by decide +kernel
theorem dX10_byX_428 : decode cX10_byX 428 = .ok (.lconst 0, 1) := by decide +kernel
theorem dX10_byX_429 : decode cX10_byX 429 = .ok (.lcmp, 1) := by decide +kernel
theorem dX10_byX_430 : decode cX10_byX 430 = .ok (.ifCond .eq 64, 3) := by decide +kernel
theorem dX10_byX_433 : decode cX10_byX 433 = .ok (.aload_n 0, 1) := by decide +kernel
theorem dX10_byX_434 : decode cX10_byX 434 = .ok (.getfield 29, 3) := by decide +kernel
theorem dX10_byX_437 : decode cX10_byX 437 = .ok (.bipush 80, 2) := by decide +kernel
theorem dX10_byX_439 : decode cX10_byX 439 = .ok (.iload 10, 2) := by decide +kernel
theorem dX10_byX_441 : decode cX10_byX 441 = .ok (.imul, 1) := by decide +kernel
theorem dX10_byX_442 : decode cX10_byX 442 = .ok (.iload 13, 2) := by decide +kernel
theorem dX10_byX_444 : decode cX10_byX 444 = .ok (.iadd, 1) := by decide +kernel
theorem dX10_byX_445 : decode cX10_byX 445 = .ok (.aload_n 0, 1) := by decide +kernel
theorem dX10_byX_446 : decode cX10_byX 446 = .ok (.getfield 29, 3) := by decide +kernel
theorem dX10_byX_449 : decode cX10_byX 449 = .ok (.bipush 80, 2) := by decide +kernel
theorem dX10_byX_451 : decode cX10_byX 451 = .ok (.iload 10, 2) := by decide +kernel
theorem dX10_byX_453 : decode cX10_byX 453 = .ok (.imul, 1) := by decide +kernel
theorem dX10_byX_454 : decode cX10_byX 454 = .ok (.iload 13, 2) := by decide +kernel
theorem dX10_byX_456 : decode cX10_byX 456 = .ok (.iadd, 1) := by decide +kernel
theorem dX10_byX_457 : decode cX10_byX 457 = .ok (.laload, 1) := by decide +kernel
theorem dX10_byX_458 : decode cX10_byX 458 = .ok (.aload_n 0, 1) := by decide +kernel
theorem dX10_byX_459 : decode cX10_byX 459 = .ok (.getfield 78, 3) := by decide +kernel
theorem dX10_byX_462 : decode cX10_byX 462 = .ok (.i2l, 1) := by decide +kernel
theorem dX10_byX_463 : decode cX10_byX 463 = .ok (.lload 11, 2) := by decide +kernel
theorem dX10_byX_465 : decode cX10_byX 465 = .ok (.lsub, 1) := by decide +kernel
theorem dX10_byX_466 : decode cX10_byX 466 = .ok (.aload_n 0, 1) := by decide +kernel
theorem dX10_byX_467 : decode cX10_byX 467 = .ok (.getfield 29, 3) := by decide +kernel
theorem dX10_byX_470 : decode cX10_byX 470 = .ok (.bipush 80, 2) := by decide +kernel
theorem dX10_byX_472 : decode cX10_byX 472 = .ok (.iload 6, 2) := by decide +kernel
theorem dX10_byX_474 : decode cX10_byX 474 = .ok (.imul, 1) := by decide +kernel
theorem dX10_byX_475 : decode cX10_byX 475 = .ok (.iload 13, 2) := by decide +kernel
theorem dX10_byX_477 : decode cX10_byX 477 = .ok (.iadd, 1) := by decide +kernel
theorem dX10_byX_478 : decode cX10_byX 478 = .ok (.laload, 1) := by decide +kernel
theorem dX10_byX_479 : decode cX10_byX 479 = .ok (.lmul, 1) := by decide +kernel
theorem dX10_byX_480 : decode cX10_byX 480 = .ok (.ladd, 1) := by decide +kernel
theorem dX10_byX_481 : decode cX10_byX 481 = .ok (.aload_n 0, 1) := by decide +kernel
theorem dX10_byX_482 : decode cX10_byX 482 = .ok (.getfield 78, 3) := by decide +kernel
theorem dX10_byX_485 : decode cX10_byX 485 = .ok (.i2l, 1) := by decide +kernel
theorem dX10_byX_486 : decode cX10_byX 486 = .ok (.lrem, 1) := by decide +kernel
theorem dX10_byX_487 : decode cX10_byX 487 = .ok (.lastore, 1) := by decide +kernel
theorem dX10_byX_488 : decode cX10_byX 488 = .ok (.iinc 13 1, 3) := by decide +kernel
theorem dX10_byX_491 : decode cX10_byX 491 = .ok (.goto (-71), 3) := by decide +kernel
theorem dX10_byX_494 : decode cX10_byX 494 = .ok (.iinc 10 1, 3) := by decide +kernel
theorem dX10_byX_497 : decode cX10_byX 497 = .ok (.goto (-111), 3) := by decide +kernel
theorem dX10_byX_500 : decode cX10_byX 500 = .ok (.iinc 6 1, 3) := by decide +kernel
theorem dX10_byX_503 : decode cX10_byX 503 = .ok (.goto (-333), 3) := by decide +kernel
theorem dX10_byX_506 : decode cX10_byX 506 = .ok (.aload_n 0, 1) := by decide +kernel
theorem dX10_byX_507 : decode cX10_byX 507 = .ok (.iconst 2, 1) := by decide +kernel
theorem dX10_byX_508 : decode cX10_byX 508 = .ok (.lload 4, 2) := by decide +kernel
theorem dX10_byX_510 : decode cX10_byX 510 = .ok (.aload_n 0, 1) := by decide +kernel
theorem dX10_byX_511 : decode cX10_byX 511 = .ok (.getfield 78, 3) := by decide +kernel
theorem dX10_byX_514 : decode cX10_byX 514 = .ok (.i2l, 1) := by decide +kernel
theorem dX10_byX_515 : decode cX10_byX 515 = .ok (.lrem, 1) := by decide +kernel
theorem dX10_byX_516 : decode cX10_byX 516 = .ok (.l2i, 1) := by decide +kernel
theorem dX10_byX_517 : decode cX10_byX 517 = .ok (.invokevirtual 170, 3) := by decide +kernel
theorem dX10_byX_520 : decode cX10_byX 520 = .ok (.aload_n 0, 1) := by decide +kernel
theorem dX10_byX_521 : decode cX10_byX 521 = .ok (.iconst 2, 1) := by decide +kernel
theorem dX10_byX_522 : decode cX10_byX 522 = .ok (.invokevirtual 182, 3) := by decide +kernel
theorem dX10_byX_525 : decode cX10_byX 525 = .ok (.ireturn, 1) := by decide +kernel
theorem dX10_fromSquare_0 : decode cX10_fromSquare 0 = .ok (.aload_n 0, 1) := by decide +kernel
theorem dX10_fromSquare_1 : decode cX10_fromSquare 1 = .ok (.iload_n 3, 1) := by decide +kernel
theorem dX10_fromSquare_2 : decode cX10_fromSquare 2 = .ok (.iconst 0, 1) := by decide +kernel
theorem dX10_fromSquare_3 : decode cX10_fromSquare 3 = .ok (.invokevirtual 170, 3) := by decide +kernel
theorem dX10_fromSquare_6 : decode cX10_fromSquare 6 = .ok (.iconst 0, 1) := by decide +kernel
theorem dX10_fromSquare_7 : decode cX10_fromSquare 7 = .ok (.istore 4, 2) := by decide +kernel
theorem dX10_fromSquare_9 : decode cX10_fromSquare 9 = .ok (.iload 4, 2) := by decide +kernel
theorem dX10_fromSquare_11 : decode cX10_fromSquare 11 = .ok (.bipush 80, 2) := by decide +kernel
theorem dX10_fromSquare_13 : decode cX10_fromSquare 13 = .ok (.if_icmp .ge 39, 3) := by decide +kernel
theorem dX10_fromSquare_16 : decode cX10_fromSquare 16 = .ok (.aload_n 0, 1) := by decide +kernel
theorem dX10_fromSquare_17 : decode cX10_fromSquare 17 = .ok (.getfield 23, 3) := by decide +kernel
theorem dX10_fromSquare_20 : decode cX10_fromSquare 20 = .ok (.sipush 200, 3) := by decide +kernel
theorem dX10_fromSquare_23 : decode cX10_fromSquare 23 = .ok (.iload_n 3, 1) := by decide +kernel
theorem dX10_fromSquare_24 : decode cX10_fromSquare 24 = .ok (.imul, 1) := by decide +kernel
theorem dX10_fromSquare_25 : decode cX10_fromSquare 25 = .ok (.iload 4, 2) := by decide +kernel
theorem dX10_fromSquare_27 : decode cX10_fromSquare 27 = .ok (.iadd, 1) := by decide +kernel
theorem dX10_fromSquare_28 : decode cX10_fromSquare 28 = .ok (.aload_n 0, 1) := by decide +kernel
theorem dX10_fromSquare_29 : decode cX10_fromSquare 29 = .ok (.getfield 33, 3) := by decide +kernel
theorem dX10_fromSquare_32 : decode cX10_fromSquare 32 = .ok (.bipush 80, 2) := by decide +kernel
theorem dX10_fromSquare_34 : decode cX10_fromSquare 34 = .ok (.bipush 12, 2) := by decide +kernel
theorem dX10_fromSquare_36 : decode cX10_fromSquare 36 = .ok (.iload_n 1, 1) := by decide +kernel
theorem dX10_fromSquare_37 : decode cX10_fromSquare 37 = .ok (.imul, 1) := by decide +kernel
theorem dX10_fromSquare_38 : decode cX10_fromSquare 38 = .ok (.iload_n 2, 1) := by decide +kernel
theorem dX10_fromSquare_39 : decode cX10_fromSquare 39 = .ok (.iadd, 1) := by decide +kernel
theorem dX10_fromSquare_40 : decode cX10_fromSquare 40 = .ok (.imul, 1) := by decide +kernel
theorem dX10_fromSquare_41 : decode cX10_fromSquare 41 = .ok (.iload 4, 2) := by decide +kernel
theorem dX10_fromSquare_43 : decode cX10_fromSquare 43 = .ok (.iadd, 1) := by decide +kernel
theorem dX10_fromSquare_44 : decode cX10_fromSquare 44 = .ok (.iaload, 1) := by decide +kernel
theorem dX10_fromSquare_45 : decode cX10_fromSquare 45 = .ok (.iastore, 1) := by decide +kernel
theorem dX10_fromSquare_46 : decode cX10_fromSquare 46 = .ok (.iinc 4 1, 3) := by decide +kernel
theorem dX10_fromSquare_49 : decode cX10_fromSquare 49 = .ok (.goto (-40), 3) := by decide +kernel
theorem dX10_fromSquare_52 : decode cX10_fromSquare 52 = .ok (.aload_n 0, 1) := by decide +kernel
theorem dX10_fromSquare_53 : decode cX10_fromSquare 53 = .ok (.iload_n 3, 1) := by decide +kernel
theorem dX10_fromSquare_54 : decode cX10_fromSquare 54 = .ok (.invokevirtual 164, 3) := by decide +kernel
theorem dX10_fromSquare_57 : decode cX10_fromSquare 57 = .ok (.return_, 1) := by decide +kernel
theorem dX10_toSquare_0 : decode cX10_toSquare 0 = .ok (.iconst 0, 1) := by decide +kernel
theorem dX10_toSquare_1 : decode cX10_toSquare 1 = .ok (.istore 4, 2) := by decide +kernel
theorem dX10_toSquare_3 : decode cX10_toSquare 3 = .ok (.iload 4, 2) := by decide +kernel
theorem dX10_toSquare_5 : decode cX10_toSquare 5 = .ok (.bipush 80, 2) := by decide +kernel
theorem dX10_toSquare_7 : decode cX10_toSquare 7 = .ok (.if_icmp .ge 39, 3) := by decide +kernel
theorem dX10_toSquare_10 : decode cX10_toSquare 10 = .ok (.aload_n 0, 1) := by decide +kernel
theorem dX10_toSquare_11 : decode cX10_toSquare 11 = .ok (.getfield 33, 3) := by decide +kernel
theorem dX10_toSquare_14 : decode cX10_toSquare 14 = .ok (.bipush 80, 2) := by decide +kernel
theorem dX10_toSquare_16 : decode cX10_toSquare 16 = .ok (.bipush 12, 2) := by decide +kernel
theorem dX10_toSquare_18 : decode cX10_toSquare 18 = .ok (.iload_n 2, 1) := by decide +kernel
theorem dX10_toSquare_19 : decode cX10_toSquare 19 = .ok (.imul, 1) := by decide +kernel
theorem dX10_toSquare_20 : decode cX10_toSquare 20 = .ok (.iload_n 3, 1) := by decide +kernel
theorem dX10_toSquare_21 : decode cX10_toSquare 21 = .ok (.iadd, 1) := by decide +kernel
theorem dX10_toSquare_22 : decode cX10_toSquare 22 = .ok (.imul, 1) := by decide +kernel
theorem dX10_toSquare_23 : decode cX10_toSquare 23 = .ok (.iload 4, 2) := by decide +kernel
theorem dX10_toSquare_25 : decode cX10_toSquare 25 = .ok (.iadd, 1) := by decide +kernel
theorem dX10_toSquare_26 : decode cX10_toSquare 26 = .ok (.aload_n 0, 1) := by decide +kernel
theorem dX10_toSquare_27 : decode cX10_toSquare 27 = .ok (.getfield 23, 3) := by decide +kernel
theorem dX10_toSquare_30 : decode cX10_toSquare 30 = .ok (.sipush 200, 3) := by decide +kernel
theorem dX10_toSquare_33 : decode cX10_toSquare 33 = .ok (.iload_n 1, 1) := by decide +kernel
theorem dX10_toSquare_34 : decode cX10_toSquare 34 = .ok (.imul, 1) := by decide +kernel
theorem dX10_toSquare_35 : decode cX10_toSquare 35 = .ok (.iload 4, 2) := by decide +kernel
theorem dX10_toSquare_37 : decode cX10_toSquare 37 = .ok (.iadd, 1) := by decide +kernel
theorem dX10_toSquare_38 : decode cX10_toSquare 38 = .ok (.iaload, 1) := by decide +kernel
theorem dX10_toSquare_39 : decode cX10_toSquare 39 = .ok (.iastore, 1) := by decide +kernel
theorem dX10_toSquare_40 : decode cX10_toSquare 40 = .ok (.iinc 4 1, 3) := by decide +kernel
theorem dX10_toSquare_43 : decode cX10_toSquare 43 = .ok (.goto (-40), 3) := by decide +kernel
theorem dX10_toSquare_46 : decode cX10_toSquare 46 = .ok (.return_, 1) := by decide +kernel
theorem dX10_byY_0 : decode cX10_byY 0 = .ok (.aload_n 0, 1) := by decide +kernel
theorem dX10_byY_1 : decode cX10_byY 1 = .ok (.iload_n 1, 1) := by decide +kernel
theorem dX10_byY_2 : decode cX10_byY 2 = .ok (.invokevirtual 103, 3) := by decide +kernel
theorem dX10_byY_5 : decode cX10_byY 5 = .ok (.istore_n 3, 1) := by decide +kernel
theorem dX10_byY_6 : decode cX10_byY 6 = .ok (.aload_n 0, 1) := by decide +kernel
theorem dX10_byY_7 : decode cX10_byY 7 = .ok (.iload_n 2, 1) := by decide +kernel
theorem dX10_byY_8 : decode cX10_byY 8 = .ok (.invokevirtual 103, 3) := by decide +kernel
theorem dX10_byY_11 : decode cX10_byY 11 = .ok (.istore 4, 2) := by decide +kernel
theorem dX10_byY_13 : decode cX10_byY 13 = .ok (.iload_n 3, 1) := by decide +kernel
theorem dX10_byY_14 : decode cX10_byY 14 = .ok (.iconst 1, 1) := by decide +kernel
theorem dX10_byY_15 : decode cX10_byY 15 = .ok (.if_icmp .lt 29, 3) := by decide +kernel
theorem dX10_byY_18 : decode cX10_byY 18 = .ok (.iload 4, 2) := by decide +kernel
theorem dX10_byY_20 : decode cX10_byY 20 = .ok (.iconst 1, 1) := by decide +kernel
theorem dX10_byY_21 : decode cX10_byY 21 = .ok (.if_icmp .lt 23, 3) := by decide +kernel
theorem dX10_byY_24 : decode cX10_byY 24 = .ok (.aload_n 0, 1) := by decide +kernel
theorem dX10_byY_25 : decode cX10_byY 25 = .ok (.iload_n 1, 1) := by decide +kernel
theorem dX10_byY_26 : decode cX10_byY 26 = .ok (.invokevirtual 154, 3) := by decide +kernel
theorem dX10_byY_29 : decode cX10_byY 29 = .ok (.bipush 6, 2) := by decide +kernel
theorem dX10_byY_31 : decode cX10_byY 31 = .ok (.if_icmp .gt 13, 3) := by decide +kernel
theorem dX10_byY_34 : decode cX10_byY 34 = .ok (.aload_n 0, 1) := by decide +kernel
theorem dX10_byY_35 : decode cX10_byY 35 = .ok (.iload_n 2, 1) := by decide +kernel
theorem dX10_byY_36 : decode cX10_byY 36 = .ok (.invokevirtual 154, 3) := by decide +kernel
theorem dX10_byY_39 : decode cX10_byY 39 = .ok (.bipush 6, 2) := by decide +kernel
theorem dX10_byY_41 : decode cX10_byY 41 = .ok (.if_icmp .le 6, 3) := by decide +kernel
theorem dX10_byY_44 : decode cX10_byY 44 = .ok (.bipush (-2), 2) := by decide +kernel
theorem dX10_byY_46 : decode cX10_byY 46 = .ok (.ireturn, 1) := by decide +kernel
theorem dX10_byY_47 : decode cX10_byY 47 = .ok (.iload_n 3, 1) := by decide +kernel
theorem dX10_byY_48 : decode cX10_byY 48 = .ok (.iload 4, 2) := by decide +kernel
theorem dX10_byY_50 : decode cX10_byY 50 = .ok (.iadd, 1) := by decide +kernel
theorem dX10_byY_51 : decode cX10_byY 51 = .ok (.istore 5, 2) := by decide +kernel
theorem dX10_byY_53 : decode cX10_byY 53 = .ok (.iconst 0, 1) := by decide +kernel
theorem dX10_byY_54 : decode cX10_byY 54 = .ok (.istore 6, 2) := by decide +kernel
theorem dX10_byY_56 : decode cX10_byY 56 = .ok (.iload 6, 2) := by decide +kernel
theorem dX10_byY_58 : decode cX10_byY 58 = .ok (.iload 5, 2) := by decide +kernel
theorem dX10_byY_60 : decode cX10_byY 60 = .ok (.if_icmp .ge 157, 3) := by decide +kernel
theorem dX10_byY_63 : decode cX10_byY 63 = .ok (.iconst 0, 1) := by decide +kernel
theorem dX10_byY_64 : decode cX10_byY 64 = .ok (.istore 7, 2) := by decide +kernel
theorem dX10_byY_66 : decode cX10_byY 66 = .ok (.iload 7, 2) := by decide +kernel
theorem dX10_byY_68 : decode cX10_byY 68 = .ok (.iload 5, 2) := by decide +kernel
theorem dX10_byY_70 : decode cX10_byY 70 = .ok (.if_icmp .ge 141, 3) := by decide +kernel
theorem dX10_byY_73 : decode cX10_byY 73 = .ok (.iload 6, 2) := by decide +kernel
theorem dX10_byY_75 : decode cX10_byY 75 = .ok (.iload 4, 2) := by decide +kernel
theorem dX10_byY_77 : decode cX10_byY 77 = .ok (.if_icmp .ge 7, 3) := by decide +kernel
theorem dX10_byY_80 : decode cX10_byY 80 = .ok (.iconst 1, 1) := by decide +kernel
theorem dX10_byY_81 : decode cX10_byY 81 = .ok (.goto 4, 3) := by decide +kernel
theorem dX10_byY_84 : decode cX10_byY 84 = .ok (.iconst 0, 1) := by decide +kernel
theorem dX10_byY_85 : decode cX10_byY 85 = .ok (.istore 8, 2) := by decide +kernel
theorem dX10_byY_87 : decode cX10_byY 87 = .ok (.iload 8, 2) := by decide +kernel
theorem dX10_byY_89 : decode cX10_byY 89 = .ok (.ifCond .eq 7, 3) := by decide +kernel
theorem dX10_byY_92 : decode cX10_byY 92 = .ok (.iload_n 3, 1) := by decide +kernel
theorem dX10_byY_93 : decode cX10_byY 93 = .ok (.goto 5, 3) := by decide +kernel
theorem dX10_byY_96 : decode cX10_byY 96 = .ok (.iload 4, 2) := by decide +kernel
theorem dX10_byY_98 : decode cX10_byY 98 = .ok (.iload 7, 2) := by decide +kernel
theorem dX10_byY_100 : decode cX10_byY 100 = .ok (.iload 8, 2) := by decide +kernel
theorem dX10_byY_102 : decode cX10_byY 102 = .ok (.ifCond .eq 8, 3) := by decide +kernel
theorem dX10_byY_105 : decode cX10_byY 105 = .ok (.iload 6, 2) := by decide +kernel
theorem dX10_byY_107 : decode cX10_byY 107 = .ok (.goto 8, 3) := by decide +kernel
theorem dX10_byY_110 : decode cX10_byY 110 = .ok (.iload 6, 2) := by decide +kernel
theorem dX10_byY_112 : decode cX10_byY 112 = .ok (.iload 4, 2) := by decide +kernel
theorem dX10_byY_114 : decode cX10_byY 114 = .ok (.isub, 1) := by decide +kernel
theorem dX10_byY_115 : decode cX10_byY 115 = .ok (.isub, 1) := by decide +kernel
theorem dX10_byY_116 : decode cX10_byY 116 = .ok (.isub, 1) := by decide +kernel
theorem dX10_byY_117 : decode cX10_byY 117 = .ok (.istore 9, 2) := by decide +kernel
theorem dX10_byY_119 : decode cX10_byY 119 = .ok (.aload_n 0, 1) := by decide +kernel
theorem dX10_byY_120 : decode cX10_byY 120 = .ok (.iconst 0, 1) := by decide +kernel
theorem dX10_byY_121 : decode cX10_byY 121 = .ok (.iconst 0, 1) := by decide +kernel
theorem dX10_byY_122 : decode cX10_byY 122 = .ok (.invokevirtual 170, 3) := by decide +kernel
theorem dX10_byY_125 : decode cX10_byY 125 = .ok (.iload 9, 2) := by decide +kernel
theorem dX10_byY_127 : decode cX10_byY 127 = .ok (.ifCond .lt 69, 3) := by decide +kernel
theorem dX10_byY_130 : decode cX10_byY 130 = .ok (.iload 9, 2) := by decide +kernel
theorem dX10_byY_132 : decode cX10_byY 132 = .ok (.iload 8, 2) := by decide +kernel
theorem dX10_byY_134 : decode cX10_byY 134 = .ok (.ifCond .eq 7, 3) := by decide +kernel
theorem dX10_byY_137 : decode cX10_byY 137 = .ok (.iload_n 3, 1) := by decide +kernel
theorem dX10_byY_138 : decode cX10_byY 138 = .ok (.goto 5, 3) := by decide +kernel
theorem dX10_byY_141 : decode cX10_byY 141 = .ok (.iload 4, 2) := by decide +kernel
theorem dX10_byY_143 : decode cX10_byY 143 = .ok (.if_icmp .gt 53, 3) := by decide +kernel
theorem dX10_byY_146 : decode cX10_byY 146 = .ok (.iconst 0, 1) := by decide +kernel
theorem dX10_byY_147 : decode cX10_byY 147 = .ok (.istore 10, 2) := by decide +kernel
theorem dX10_byY_149 : decode cX10_byY 149 = .ok (.iload 10, 2) := by decide +kernel
theorem dX10_byY_151 : decode cX10_byY 151 = .ok (.bipush 6, 2) := by decide +kernel
theorem dX10_byY_153 : decode cX10_byY 153 = .ok (.if_icmp .gt 38, 3) := by decide +kernel
theorem dX10_byY_156 : decode cX10_byY 156 = .ok (.aload_n 0, 1) := by decide +kernel
theorem dX10_byY_157 : decode cX10_byY 157 = .ok (.getfield 23, 3) := by decide +kernel
theorem dX10_byY_160 : decode cX10_byY 160 = .ok (.iload 10, 2) := by decide +kernel
theorem dX10_byY_162 : decode cX10_byY 162 = .ok (.aload_n 0, 1) := by decide +kernel
theorem dX10_byY_163 : decode cX10_byY 163 = .ok (.getfield 13, 3) := by decide +kernel
theorem dX10_byY_166 : decode cX10_byY 166 = .ok (.iload 8, 2) := by decide +kernel
theorem dX10_byY_168 : decode cX10_byY 168 = .ok (.ifCond .eq 7, 3) := by decide +kernel
theorem dX10_byY_171 : decode cX10_byY 171 = .ok (.iload_n 1, 1) := by decide +kernel
theorem dX10_byY_172 : decode cX10_byY 172 = .ok (.goto 4, 3) := by decide +kernel
theorem dX10_byY_175 : decode cX10_byY 175 = .ok (.iload_n 2, 1) := by decide +kernel
theorem dX10_byY_176 : decode cX10_byY 176 = .ok (.iload 10, 2) := by decide +kernel
theorem dX10_byY_178 : decode cX10_byY 178 = .ok (.iload 9, 2) := by decide +kernel
theorem dX10_byY_180 : decode cX10_byY 180 = .ok (.invokestatic 99, 3) := by decide +kernel
theorem dX10_byY_183 : decode cX10_byY 183 = .ok (.iaload, 1) := by decide +kernel
theorem dX10_byY_184 : decode cX10_byY 184 = .ok (.iastore, 1) := by decide +kernel
theorem dX10_byY_185 : decode cX10_byY 185 = .ok (.iinc 10 1, 3) := by decide +kernel
theorem dX10_byY_188 : decode cX10_byY 188 = .ok (.goto (-39), 3) := by decide +kernel
theorem dX10_byY_191 : decode cX10_byY 191 = .ok (.aload_n 0, 1) := by decide +kernel
theorem dX10_byY_192 : decode cX10_byY 192 = .ok (.iconst 0, 1) := by decide +kernel
theorem dX10_byY_193 : decode cX10_byY 193 = .ok (.invokevirtual 164, 3) := by decide +kernel
theorem dX10_byY_196 : decode cX10_byY 196 = .ok (.aload_n 0, 1) := by decide +kernel
theorem dX10_byY_197 : decode cX10_byY 197 = .ok (.iconst 0, 1) := by decide +kernel
theorem dX10_byY_198 : decode cX10_byY 198 = .ok (.iload 6, 2) := by decide +kernel
theorem dX10_byY_200 : decode cX10_byY 200 = .ok (.iload 7, 2) := by decide +kernel
theorem dX10_byY_202 : decode cX10_byY 202 = .ok (.invokevirtual 199, 3) := by decide +kernel
theorem dX10_byY_205 : decode cX10_byY 205 = .ok (.iinc 7 1, 3) := by decide +kernel
theorem dX10_byY_208 : decode cX10_byY 208 = .ok (.goto (-142), 3) := by decide +kernel
theorem dX10_byY_211 : decode cX10_byY 211 = .ok (.iinc 6 1, 3) := by decide +kernel
theorem dX10_byY_214 : decode cX10_byY 214 = .ok (.goto (-158), 3) := by decide +kernel
theorem dX10_byY_217 : decode cX10_byY 217 = .ok (.iconst 0, 1) := by decide +kernel
theorem dX10_byY_218 : decode cX10_byY 218 = .ok (.istore 6, 2) := by decide +kernel
theorem dX10_byY_220 : decode cX10_byY 220 = .ok (.aload_n 0, 1) := by decide +kernel
theorem dX10_byY_221 : decode cX10_byY 221 = .ok (.bipush 10, 2) := by decide +kernel
theorem dX10_byY_223 : decode cX10_byY 223 = .ok (.iconst 1, 1) := by decide +kernel
theorem dX10_byY_224 : decode cX10_byY 224 = .ok (.invokevirtual 170, 3) := by decide +kernel
theorem dX10_byY_227 : decode cX10_byY 227 = .ok (.iconst 0, 1) := by decide +kernel
theorem dX10_byY_228 : decode cX10_byY 228 = .ok (.istore 7, 2) := by decide +kernel
theorem dX10_byY_230 : decode cX10_byY 230 = .ok (.iload 7, 2) := by decide +kernel
theorem dX10_byY_232 : decode cX10_byY 232 = .ok (.iload 5, 2) := by decide +kernel
theorem dX10_byY_234 : decode cX10_byY 234 = .ok (.iconst 1, 1) := by decide +kernel
theorem dX10_byY_235 : decode cX10_byY 235 = .ok (.isub, 1) := by decide +kernel
theorem dX10_byY_236 : decode cX10_byY 236 = .ok (.if_icmp .ge 292, 3) := by decide +kernel
theorem dX10_byY_239 : decode cX10_byY 239 = .ok (.iload 7, 2) := by decide +kernel
theorem dX10_byY_241 : decode cX10_byY 241 = .ok (.istore 8, 2) := by decide +kernel
theorem dX10_byY_243 : decode cX10_byY 243 = .ok (.aload_n 0, 1) := by decide +kernel
theorem dX10_byY_244 : decode cX10_byY 244 = .ok (.iload 8, 2) := by decide +kernel
theorem dX10_byY_246 : decode cX10_byY 246 = .ok (.iload 7, 2) := by decide +kernel
theorem dX10_byY_248 : decode cX10_byY 248 = .ok (.iconst 1, 1) := by decide +kernel
theorem dX10_byY_249 : decode cX10_byY 249 = .ok (.invokevirtual 202, 3) := by decide +kernel
theorem dX10_byY_252 : decode cX10_byY 252 = .ok (.iload 8, 2) := by decide +kernel
theorem dX10_byY_254 : decode cX10_byY 254 = .ok (.iload 5, 2) := by decide +kernel
theorem dX10_byY_256 : decode cX10_byY 256 = .ok (.if_icmp .ge 34, 3) := by decide +kernel
theorem dX10_byY_259 : decode cX10_byY 259 = .ok (.aload_n 0, 1) := by decide +kernel
theorem dX10_byY_260 : decode cX10_byY 260 = .ok (.getfield 26, 3) := by decide +kernel
theorem dX10_byY_263 : decode cX10_byY 263 = .ok (.iconst 1, 1) := by decide +kernel
theorem dX10_byY_264 : decode cX10_byY 264 = .ok (.iaload, 1) := by decide +kernel
theorem dX10_byY_265 : decode cX10_byY 265 = .ok (.ifCond .ge 25, 3) := by decide +kernel
theorem dX10_byY_268 : decode cX10_byY 268 = .ok (.iinc 8 1, 3) := by decide +kernel
theorem dX10_byY_271 : decode cX10_byY 271 = .ok (.iload 8, 2) := by decide +kernel
theorem dX10_byY_273 : decode cX10_byY 273 = .ok (.iload 5, 2) := by decide +kernel
theorem dX10_byY_275 : decode cX10_byY 275 = .ok (.if_icmp .ge (-23), 3) := by decide +kernel
theorem dX10_byY_278 : decode cX10_byY 278 = .ok (.aload_n 0, 1) := by decide +kernel
theorem dX10_byY_279 : decode cX10_byY 279 = .ok (.iload 8, 2) := by decide +kernel
theorem dX10_byY_281 : decode cX10_byY 281 = .ok (.iload 7, 2) := by decide +kernel
theorem dX10_byY_283 : decode cX10_byY 283 = .ok (.iconst 1, 1) := by decide +kernel
theorem dX10_byY_284 : decode cX10_byY 284 = .ok (.invokevirtual 202, 3) := by decide +kernel
theorem dX10_byY_287 : decode cX10_byY 287 = .ok (.goto (-35), 3) := by decide +kernel
theorem dX10_byY_290 : decode cX10_byY 290 = .ok (.iload 8, 2) := by decide +kernel
theorem dX10_byY_292 : decode cX10_byY 292 = .ok (.iload 5, 2) := by decide +kernel
theorem dX10_byY_294 : decode cX10_byY 294 = .ok (.if_icmp .ne 15, 3) := by decide +kernel
theorem dX10_byY_297 : decode cX10_byY 297 = .ok (.aload_n 0, 1) := by decide +kernel
theorem dX10_byY_298 : decode cX10_byY 298 = .ok (.iconst 2, 1) := by decide +kernel
theorem dX10_byY_299 : decode cX10_byY 299 = .ok (.iconst 0, 1) := by decide +kernel
theorem dX10_byY_300 : decode cX10_byY 300 = .ok (.invokevirtual 170, 3) := by decide +kernel
theorem dX10_byY_303 : decode cX10_byY 303 = .ok (.aload_n 0, 1) := by decide +kernel
theorem dX10_byY_304 : decode cX10_byY 304 = .ok (.iconst 2, 1) := by decide +kernel
theorem dX10_byY_305 : decode cX10_byY 305 = .ok (.invokevirtual 182, 3) := by decide +kernel
theorem dX10_byY_308 : decode cX10_byY 308 = .ok (.ireturn, 1) := by decide +kernel
theorem dX10_byY_309 : decode cX10_byY 309 = .ok (.iconst 0, 1) := by decide +kernel
theorem dX10_byY_310 : decode cX10_byY 310 = .ok (.istore 9, 2) := by decide +kernel
theorem dX10_byY_312 : decode cX10_byY 312 = .ok (.iload 9, 2) := by decide +kernel
theorem dX10_byY_314 : decode cX10_byY 314 = .ok (.iload 5, 2) := by decide +kernel
theorem dX10_byY_316 : decode cX10_byY 316 = .ok (.if_icmp .ge 52, 3) := by decide +kernel
theorem dX10_byY_319 : decode cX10_byY 319 = .ok (.iload 8, 2) := by decide +kernel
theorem dX10_byY_321 : decode cX10_byY 321 = .ok (.iload 7, 2) := by decide +kernel
theorem dX10_byY_323 : decode cX10_byY 323 = .ok (.if_icmp .eq 45, 3) := by decide +kernel
theorem dX10_byY_326 : decode cX10_byY 326 = .ok (.aload_n 0, 1) := by decide +kernel
theorem dX10_byY_327 : decode cX10_byY 327 = .ok (.iload 8, 2) := by decide +kernel
theorem dX10_byY_329 : decode cX10_byY 329 = .ok (.iload 9, 2) := by decide +kernel
theorem dX10_byY_331 : decode cX10_byY 331 = .ok (.iconst 2, 1) := by decide +kernel
theorem dX10_byY_332 : decode cX10_byY 332 = .ok (.invokevirtual 202, 3) := by decide +kernel
theorem dX10_byY_335 : decode cX10_byY 335 = .ok (.aload_n 0, 1) := by decide +kernel
theorem dX10_byY_336 : decode cX10_byY 336 = .ok (.iload 7, 2) := by decide +kernel
theorem dX10_byY_338 : decode cX10_byY 338 = .ok (.iload 9, 2) := by decide +kernel
theorem dX10_byY_340 : decode cX10_byY 340 = .ok (.iconst 3, 1) := by decide +kernel
theorem dX10_byY_341 : decode cX10_byY 341 = .ok (.invokevirtual 202, 3) := by decide +kernel
theorem dX10_byY_344 : decode cX10_byY 344 = .ok (.aload_n 0, 1) := by decide +kernel
theorem dX10_byY_345 : decode cX10_byY 345 = .ok (.iconst 3, 1) := by decide +kernel
theorem dX10_byY_346 : decode cX10_byY 346 = .ok (.iload 8, 2) := by decide +kernel
theorem dX10_byY_348 : decode cX10_byY 348 = .ok (.iload 9, 2) := by decide +kernel
theorem dX10_byY_350 : decode cX10_byY 350 = .ok (.invokevirtual 199, 3) := by decide +kernel
theorem dX10_byY_353 : decode cX10_byY 353 = .ok (.aload_n 0, 1) := by decide +kernel
theorem dX10_byY_354 : decode cX10_byY 354 = .ok (.iconst 2, 1) := by decide +kernel
theorem dX10_byY_355 : decode cX10_byY 355 = .ok (.iload 7, 2) := by decide +kernel
theorem dX10_byY_357 : decode cX10_byY 357 = .ok (.iload 9, 2) := by decide +kernel
theorem dX10_byY_359 : decode cX10_byY 359 = .ok (.invokevirtual 199, 3) := by decide +kernel
theorem dX10_byY_362 : decode cX10_byY 362 = .ok (.iinc 9 1, 3) := by decide +kernel
theorem dX10_byY_365 : decode cX10_byY 365 = .ok (.goto (-53), 3) := by decide +kernel
theorem dX10_byY_368 : decode cX10_byY 368 = .ok (.iload 6, 2) := by decide +kernel
theorem dX10_byY_370 : decode cX10_byY 370 = .ok (.iload 8, 2) := by decide +kernel
theorem dX10_byY_372 : decode cX10_byY 372 = .ok (.iload 7, 2) := by decide +kernel
theorem dX10_byY_374 : decode cX10_byY 374 = .ok (.if_icmp .eq 7, 3) := by decide +kernel
theorem dX10_byY_377 : decode cX10_byY 377 = .ok (.iconst 1, 1) := by decide +kernel
theorem dX10_byY_378 : decode cX10_byY 378 = .ok (.goto 4, 3) := by decide +kernel
theorem dX10_byY_381 : decode cX10_byY 381 = .ok (.iconst 0, 1) := by decide +kernel
theorem dX10_byY_382 : decode cX10_byY 382 = .ok (.if_icmp .eq 7, 3) := by decide +kernel
theorem dX10_byY_385 : decode cX10_byY 385 = .ok (.iconst 1, 1) := by decide +kernel
theorem dX10_byY_386 : decode cX10_byY 386 = .ok (.goto 4, 3) := by decide +kernel
theorem dX10_byY_389 : decode cX10_byY 389 = .ok (.iconst 0, 1) := by decide +kernel
theorem dX10_byY_390 : decode cX10_byY 390 = .ok (.istore 6, 2) := by decide +kernel
theorem dX10_byY_392 : decode cX10_byY 392 = .ok (.iload 7, 2) := by decide +kernel
theorem dX10_byY_394 : decode cX10_byY 394 = .ok (.iconst 1, 1) := by decide +kernel
theorem dX10_byY_395 : decode cX10_byY 395 = .ok (.iadd, 1) := by decide +kernel
theorem dX10_byY_396 : decode cX10_byY 396 = .ok (.istore 9, 2) := by decide +kernel
theorem dX10_byY_398 : decode cX10_byY 398 = .ok (.iload 9, 2) := by decide +kernel
theorem dX10_byY_400 : decode cX10_byY 400 = .ok (.iload 5, 2) := by decide +kernel
theorem dX10_byY_402 : decode cX10_byY 402 = .ok (.if_icmp .ge 110, 3) := by decide +kernel
theorem dX10_byY_405 : decode cX10_byY 405 = .ok (.iload 7, 2) := by decide +kernel
theorem dX10_byY_407 : decode cX10_byY 407 = .ok (.iconst 1, 1) := by decide +kernel
theorem dX10_byY_408 : decode cX10_byY 408 = .ok (.iadd, 1) := by decide +kernel
theorem dX10_byY_409 : decode cX10_byY 409 = .ok (.istore 10, 2) := by decide +kernel
theorem dX10_byY_411 : decode cX10_byY 411 = .ok (.iload 10, 2) := by decide +kernel
theorem dX10_byY_413 : decode cX10_byY 413 = .ok (.iload 5, 2) := by decide +kernel
theorem dX10_byY_415 : decode cX10_byY 415 = .ok (.if_icmp .ge 91, 3) := by decide +kernel
theorem dX10_byY_418 : decode cX10_byY 418 = .ok (.aload_n 0, 1) := by decide +kernel
theorem dX10_byY_419 : decode cX10_byY 419 = .ok (.iload 7, 2) := by decide +kernel
theorem dX10_byY_421 : decode cX10_byY 421 = .ok (.iload 7, 2) := by decide +kernel
theorem dX10_byY_423 : decode cX10_byY 423 = .ok (.iconst 1, 1) := by decide +kernel
theorem dX10_byY_424 : decode cX10_byY 424 = .ok (.invokevirtual 202, 3) := by decide +kernel
theorem dX10_byY_427 : decode cX10_byY 427 = .ok (.aload_n 0, 1) := by decide +kernel
theorem dX10_byY_428 : decode cX10_byY 428 = .ok (.iload 9, 2) := by decide +kernel
theorem dX10_byY_430 : decode cX10_byY 430 = .ok (.iload 10, 2) := by decide +kernel
theorem dX10_byY_432 : decode cX10_byY 432 = .ok (.iconst 2, 1) := by decide +kernel
theorem dX10_byY_433 : decode cX10_byY 433 = .ok (.invokevirtual 202, 3) := by decide +kernel
theorem dX10_byY_436 : decode cX10_byY 436 = .ok (.aload_n 0, 1) := by decide +kernel
theorem dX10_byY_437 : decode cX10_byY 437 = .ok (.iload 9, 2) := by decide +kernel
theorem dX10_byY_439 : decode cX10_byY 439 = .ok (.iload 7, 2) := by decide +kernel
theorem dX10_byY_441 : decode cX10_byY 441 = .ok (.iconst 3, 1) := by decide +kernel
theorem dX10_byY_442 : decode cX10_byY 442 = .ok (.invokevirtual 202, 3) := by decide +kernel
theorem dX10_byY_445 : decode cX10_byY 445 = .ok (.aload_n 0, 1) := by decide +kernel
theorem dX10_byY_446 : decode cX10_byY 446 = .ok (.iload 7, 2) := by decide +kernel
theorem dX10_byY_448 : decode cX10_byY 448 = .ok (.iload 10, 2) := by decide +kernel
theorem dX10_byY_450 : decode cX10_byY 450 = .ok (.iconst 4, 1) := by decide +kernel
theorem dX10_byY_451 : decode cX10_byY 451 = .ok (.invokevirtual 202, 3) := by decide +kernel
theorem dX10_byY_454 : decode cX10_byY 454 = .ok (.aload_n 0, 1) := by decide +kernel
theorem dX10_byY_455 : decode cX10_byY 455 = .ok (.iconst 1, 1) := by decide +kernel
theorem dX10_byY_456 : decode cX10_byY 456 = .ok (.iconst 2, 1) := by decide +kernel
theorem dX10_byY_457 : decode cX10_byY 457 = .ok (.iconst 5, 1) := by decide +kernel
theorem dX10_byY_458 : decode cX10_byY 458 = .ok (.invokevirtual 189, 3) := by decide +kernel
theorem dX10_byY_461 : decode cX10_byY 461 = .ok (.aload_n 0, 1) := by decide +kernel
theorem dX10_byY_462 : decode cX10_byY 462 = .ok (.iconst 3, 1) := by decide +kernel
theorem dX10_byY_463 : decode cX10_byY 463 = .ok (.iconst 4, 1) := by decide +kernel
theorem dX10_byY_464 : decode cX10_byY 464 = .ok (.bipush 6, 2) := by decide +kernel
theorem dX10_byY_466 : decode cX10_byY 466 = .ok (.invokevirtual 189, 3) := by decide +kernel
theorem dX10_byY_469 : decode cX10_byY 469 = .ok (.aload_n 0, 1) := by decide +kernel
theorem dX10_byY_470 : decode cX10_byY 470 = .ok (.iconst 5, 1) := by decide +kernel
theorem dX10_byY_471 : decode cX10_byY 471 = .ok (.bipush 6, 2) := by decide +kernel
theorem dX10_byY_473 : decode cX10_byY 473 = .ok (.bipush 7, 2) := by decide +kernel
theorem dX10_byY_475 : decode cX10_byY 475 = .ok (.invokevirtual 192, 3) := by decide +kernel
theorem dX10_byY_478 : decode cX10_byY 478 = .ok (.aload_n 0, 1) := by decide +kernel
theorem dX10_byY_479 : decode cX10_byY 479 = .ok (.bipush 7, 2) := by decide +kernel
theorem dX10_byY_481 : decode cX10_byY 481 = .ok (.bipush 10, 2) := by decide +kernel
theorem dX10_byY_483 : decode cX10_byY 483 = .ok (.bipush 8, 2) := by decide +kernel
theorem dX10_byY_485 : decode cX10_byY 485 = .ok (.bipush 9, 2) := by decide +kernel
theorem dX10_byY_487 : decode cX10_byY 487 = .ok (.invokevirtual 176, 3) := by decide +kernel
theorem dX10_byY_490 : decode cX10_byY 490 = .ok (.aload_n 0, 1) := by decide +kernel
theorem dX10_byY_491 : decode cX10_byY 491 = .ok (.bipush 8, 2) := by decide +kernel
theorem dX10_byY_493 : decode cX10_byY 493 = .ok (.iload 9, 2) := by decide +kernel
theorem dX10_byY_495 : decode cX10_byY 495 = .ok (.iload 10, 2) := by decide +kernel
theorem dX10_byY_497 : decode cX10_byY 497 = .ok (.invokevirtual 199, 3) := by decide +kernel
theorem dX10_byY_500 : decode cX10_byY 500 = .ok (.iinc 10 1, 3) := by decide +kernel
theorem dX10_byY_503 : decode cX10_byY 503 = .ok (.goto (-92), 3) := by decide +kernel
theorem dX10_byY_506 : decode cX10_byY 506 = .ok (.iinc 9 1, 3) := by decide +kernel
theorem dX10_byY_509 : decode cX10_byY 509 = .ok (.goto (-111), 3) := by decide +kernel
theorem dX10_byY_512 : decode cX10_byY 512 = .ok (.aload_n 0, 1) := by decide +kernel
theorem dX10_byY_513 : decode cX10_byY 513 = .ok (.iload 7, 2) := by decide +kernel
theorem dX10_byY_515 : decode cX10_byY 515 = .ok (.iload 7, 2) := by decide +kernel
theorem dX10_byY_517 : decode cX10_byY 517 = .ok (.bipush 10, 2) := by decide +kernel
theorem dX10_byY_519 : decode cX10_byY 519 = .ok (.invokevirtual 202, 3) := by decide +kernel
theorem dX10_byY_522 : decode cX10_byY 522 = .ok (.iinc 7 1, 3) := by decide +kernel
theorem dX10_byY_525 : decode cX10_byY 525 = .ok (.goto (-295), 3) := by decide +kernel
theorem dX10_byY_528 : decode cX10_byY 528 = .ok (.aload_n 0, 1) := by decide +kernel
theorem dX10_byY_529 : decode cX10_byY 529 = .ok (.iload 5, 2) := by decide +kernel
theorem dX10_byY_531 : decode cX10_byY 531 = .ok (.iconst 1, 1) := by decide +kernel
theorem dX10_byY_532 : decode cX10_byY 532 = .ok (.isub, 1) := by decide +kernel
theorem dX10_byY_533 : decode cX10_byY 533 = .ok (.iload 5, 2) := by decide +kernel
theorem dX10_byY_535 : decode cX10_byY 535 = .ok (.iconst 1, 1) := by decide +kernel
theorem dX10_byY_536 : decode cX10_byY 536 = .ok (.isub, 1) := by decide +kernel
theorem dX10_byY_537 : decode cX10_byY 537 = .ok (.iconst 2, 1) := by decide +kernel
theorem dX10_byY_538 : decode cX10_byY 538 = .ok (.invokevirtual 202, 3) := by decide +kernel
theorem dX10_byY_541 : decode cX10_byY 541 = .ok (.iload 6, 2) := by decide +kernel
theorem dX10_byY_543 : decode cX10_byY 543 = .ok (.ifCond .eq 16, 3) := by decide +kernel
theorem dX10_byY_546 : decode cX10_byY 546 = .ok (.aload_n 0, 1) := by decide +kernel
theorem dX10_byY_547 : decode cX10_byY 547 = .ok (.iconst 3, 1) := by decide +kernel
theorem dX10_byY_548 : decode cX10_byY 548 = .ok (.iconst 0, 1) := by decide +kernel
theorem dX10_byY_549 : decode cX10_byY 549 = .ok (.invokevirtual 170, 3) := by decide +kernel
theorem dX10_byY_552 : decode cX10_byY 552 = .ok (.aload_n 0, 1) := by decide +kernel
theorem dX10_byY_553 : decode cX10_byY 553 = .ok (.iconst 3, 1) := by decide +kernel
theorem dX10_byY_554 : decode cX10_byY 554 = .ok (.iconst 2, 1) := by decide +kernel
theorem dX10_byY_555 : decode cX10_byY 555 = .ok (.iconst 2, 1) := by decide +kernel
theorem dX10_byY_556 : decode cX10_byY 556 = .ok (.invokevirtual 192, 3) := by decide +kernel
theorem dX10_byY_559 : decode cX10_byY 559 = .ok (.aload_n 0, 1) := by decide +kernel
theorem dX10_byY_560 : decode cX10_byY 560 = .ok (.iconst 2, 1) := by decide +kernel
theorem dX10_byY_561 : decode cX10_byY 561 = .ok (.invokevirtual 182, 3) := by decide +kernel
theorem dX10_byY_564 : decode cX10_byY 564 = .ok (.ireturn, 1) := by decide +kernel
theorem dX10_push_0 : decode cX10_push 0 = .ok (.aload_n 0, 1) := by decide +kernel
theorem dX10_push_1 : decode cX10_push 1 = .ok (.getfield 26, 3) := by decide +kernel
theorem dX10_push_4 : decode cX10_push 4 = .ok (.iload_n 1, 1) := by decide +kernel
theorem dX10_push_5 : decode cX10_push 5 = .ok (.iaload, 1) := by decide +kernel
theorem dX10_push_6 : decode cX10_push 6 = .ok (.ifCond .le 68, 3) := by decide +kernel
theorem dX10_push_9 : decode cX10_push 9 = .ok (.aload_n 0, 1) := by decide +kernel
theorem dX10_push_10 : decode cX10_push 10 = .ok (.getfield 57, 3) := by decide +kernel
theorem dX10_push_13 : decode cX10_push 13 = .ok (.aload_n 0, 1) := by decide +kernel
theorem dX10_push_14 : decode cX10_push 14 = .ok (.getfield 205, 3) := by decide +kernel
theorem dX10_push_17 : decode cX10_push 17 = .ok (.aload_n 0, 1) := by decide +kernel
theorem dX10_push_18 : decode cX10_push 18 = .ok (.getfield 26, 3) := by decide +kernel
theorem dX10_push_21 : decode cX10_push 21 = .ok (.iload_n 1, 1) := by decide +kernel
theorem dX10_push_22 : decode cX10_push 22 = .ok (.iaload, 1) := by decide +kernel
theorem dX10_push_23 : decode cX10_push 23 = .ok (.iastore, 1) := by decide +kernel
theorem dX10_push_24 : decode cX10_push 24 = .ok (.iconst 0, 1) := by decide +kernel
theorem dX10_push_25 : decode cX10_push 25 = .ok (.istore_n 2, 1) := by decide +kernel
theorem dX10_push_26 : decode cX10_push 26 = .ok (.iload_n 2, 1) := by decide +kernel
theorem dX10_push_27 : decode cX10_push 27 = .ok (.bipush 40, 2) := by decide +kernel
theorem dX10_push_29 : decode cX10_push 29 = .ok (.if_icmp .gt 35, 3) := by decide +kernel
theorem dX10_push_32 : decode cX10_push 32 = .ok (.aload_n 0, 1) := by decide +kernel
theorem dX10_push_33 : decode cX10_push 33 = .ok (.getfield 60, 3) := by decide +kernel
theorem dX10_push_36 : decode cX10_push 36 = .ok (.bipush 41, 2) := by decide +kernel
theorem dX10_push_38 : decode cX10_push 38 = .ok (.aload_n 0, 1) := by decide +kernel
theorem dX10_push_39 : decode cX10_push 39 = .ok (.getfield 205, 3) := by decide +kernel
theorem dX10_push_42 : decode cX10_push 42 = .ok (.imul, 1) := by decide +kernel
theorem dX10_push_43 : decode cX10_push 43 = .ok (.iload_n 2, 1) := by decide +kernel
theorem dX10_push_44 : decode cX10_push 44 = .ok (.iadd, 1) := by decide +kernel
theorem dX10_push_45 : decode cX10_push 45 = .ok (.aload_n 0, 1) := by decide +kernel
theorem dX10_push_46 : decode cX10_push 46 = .ok (.getfield 23, 3) := by decide +kernel
theorem dX10_push_49 : decode cX10_push 49 = .ok (.sipush 200, 3) := by decide +kernel
theorem dX10_push_52 : decode cX10_push 52 = .ok (.iload_n 1, 1) := by decide +kernel
theorem dX10_push_53 : decode cX10_push 53 = .ok (.imul, 1) := by decide +kernel
theorem dX10_push_54 : decode cX10_push 54 = .ok (.iload_n 2, 1) := by decide +kernel
theorem dX10_push_55 : decode cX10_push 55 = .ok (.iadd, 1) := by decide +kernel
theorem dX10_push_56 : decode cX10_push 56 = .ok (.iaload, 1) := by decide +kernel
theorem dX10_push_57 : decode cX10_push 57 = .ok (.iastore, 1) := by decide +kernel
theorem dX10_push_58 : decode cX10_push 58 = .ok (.iinc 2 1, 3) := by decide +kernel
theorem dX10_push_61 : decode cX10_push 61 = .ok (.goto (-35), 3) := by decide +kernel
theorem dX10_push_64 : decode cX10_push 64 = .ok (.aload_n 0, 1) := by decide +kernel
theorem dX10_push_65 : decode cX10_push 65 = .ok (.dup, 1) := by decide +kernel
theorem dX10_push_66 : decode cX10_push 66 = .ok (.getfield 205, 3) := by decide +kernel
theorem dX10_push_69 : decode cX10_push 69 = .ok (.iconst 1, 1) := by decide +kernel
theorem dX10_push_70 : decode cX10_push 70 = .ok (.iadd, 1) := by decide +kernel
theorem dX10_push_71 : decode cX10_push 71 = .ok (.putfield 205, 3) := by decide +kernel
theorem dX10_push_74 : decode cX10_push 74 = .ok (.return_, 1) := by decide +kernel
theorem dX10_pop_0 : decode cX10_pop 0 = .ok (.aload_n 0, 1) := by decide +kernel
theorem dX10_pop_1 : decode cX10_pop 1 = .ok (.dup, 1) := by decide +kernel
theorem dX10_pop_2 : decode cX10_pop 2 = .ok (.getfield 205, 3) := by decide +kernel
theorem dX10_pop_5 : decode cX10_pop 5 = .ok (.iconst 1, 1) := by decide +kernel
theorem dX10_pop_6 : decode cX10_pop 6 = .ok (.isub, 1) := by decide +kernel
theorem dX10_pop_7 : decode cX10_pop 7 = .ok (.putfield 205, 3) := by decide +kernel
theorem dX10_pop_10 : decode cX10_pop 10 = .ok (.aload_n 0, 1) := by decide +kernel
theorem dX10_pop_11 : decode cX10_pop 11 = .ok (.iload_n 1, 1) := by decide +kernel
theorem dX10_pop_12 : decode cX10_pop 12 = .ok (.iconst 0, 1) := by decide +kernel
theorem dX10_pop_13 : decode cX10_pop 13 = .ok (.invokevirtual 170, 3) := by decide +kernel
theorem dX10_pop_16 : decode cX10_pop 16 = .ok (.iconst 0, 1) := by decide +kernel
theorem dX10_pop_17 : decode cX10_pop 17 = .ok (.istore_n 2, 1) := by decide +kernel
theorem dX10_pop_18 : decode cX10_pop 18 = .ok (.iload_n 2, 1) := by decide +kernel
theorem dX10_pop_19 : decode cX10_pop 19 = .ok (.bipush 40, 2) := by decide +kernel
theorem dX10_pop_21 : decode cX10_pop 21 = .ok (.if_icmp .gt 35, 3) := by decide +kernel
theorem dX10_pop_24 : decode cX10_pop 24 = .ok (.aload_n 0, 1) := by decide +kernel
theorem dX10_pop_25 : decode cX10_pop 25 = .ok (.getfield 23, 3) := by decide +kernel
theorem dX10_pop_28 : decode cX10_pop 28 = .ok (.sipush 200, 3) := by decide +kernel
theorem dX10_pop_31 : decode cX10_pop 31 = .ok (.iload_n 1, 1) := by decide +kernel
theorem dX10_pop_32 : decode cX10_pop 32 = .ok (.imul, 1) := by decide +kernel
theorem dX10_pop_33 : decode cX10_pop 33 = .ok (.iload_n 2, 1) := by decide +kernel
theorem dX10_pop_34 : decode cX10_pop 34 = .ok (.iadd, 1) := by decide +kernel
theorem dX10_pop_35 : decode cX10_pop 35 = .ok (.aload_n 0, 1) := by decide +kernel
theorem dX10_pop_36 : decode cX10_pop 36 = .ok (.getfield 60, 3) := by decide +kernel
theorem dX10_pop_39 : decode cX10_pop 39 = .ok (.bipush 41, 2) := by decide +kernel
theorem dX10_pop_41 : decode cX10_pop 41 = .ok (.aload_n 0, 1) := by decide +kernel
theorem dX10_pop_42 : decode cX10_pop 42 = .ok (.getfield 205, 3) := by decide +kernel
theorem dX10_pop_45 : decode cX10_pop 45 = .ok (.imul, 1) := by decide +kernel
theorem dX10_pop_46 : decode cX10_pop 46 = .ok (.iload_n 2, 1) := by decide +kernel
theorem dX10_pop_47 : decode cX10_pop 47 = .ok (.iadd, 1) := by decide +kernel
theorem dX10_pop_48 : decode cX10_pop 48 = .ok (.iaload, 1) := by decide +kernel
theorem dX10_pop_49 : decode cX10_pop 49 = .ok (.iastore, 1) := by decide +kernel
theorem dX10_pop_50 : decode cX10_pop 50 = .ok (.iinc 2 1, 3) := by decide +kernel
theorem dX10_pop_53 : decode cX10_pop 53 = .ok (.goto (-35), 3) := by decide +kernel
theorem dX10_pop_56 : decode cX10_pop 56 = .ok (.aload_n 0, 1) := by decide +kernel
theorem dX10_pop_57 : decode cX10_pop 57 = .ok (.iload_n 1, 1) := by decide +kernel
theorem dX10_pop_58 : decode cX10_pop 58 = .ok (.invokevirtual 164, 3) := by decide +kernel
theorem dX10_pop_61 : decode cX10_pop 61 = .ok (.return_, 1) := by decide +kernel
theorem dX10_byFixed_0 : decode cX10_byFixed 0 = .ok (.aload_n 0, 1) := by decide +kernel
theorem dX10_byFixed_1 : decode cX10_byFixed 1 = .ok (.getfield 26, 3) := by decide +kernel
theorem dX10_byFixed_4 : decode cX10_byFixed 4 = .ok (.iload_n 1, 1) := by decide +kernel
theorem dX10_byFixed_5 : decode cX10_byFixed 5 = .ok (.iaload, 1) := by decide +kernel
theorem dX10_byFixed_6 : decode cX10_byFixed 6 = .ok (.istore_n 2, 1) := by decide +kernel
theorem dX10_byFixed_7 : decode cX10_byFixed 7 = .ok (.aload_n 0, 1) := by decide +kernel
theorem dX10_byFixed_8 : decode cX10_byFixed 8 = .ok (.bipush 16, 2) := by decide +kernel
theorem dX10_byFixed_10 : decode cX10_byFixed 10 = .ok (.iconst 0, 1) := by decide +kernel
theorem dX10_byFixed_11 : decode cX10_byFixed 11 = .ok (.invokevirtual 170, 3) := by decide +kernel
theorem dX10_byFixed_14 : decode cX10_byFixed 14 = .ok (.aload_n 0, 1) := by decide +kernel
theorem dX10_byFixed_15 : decode cX10_byFixed 15 = .ok (.getfield 23, 3) := by decide +kernel
theorem dX10_byFixed_18 : decode cX10_byFixed 18 = .ok (.sipush 3201, 3) := by decide +kernel
theorem dX10_byFixed_21 : decode cX10_byFixed 21 = .ok (.iconst 1, 1) := by decide +kernel
theorem dX10_byFixed_22 : decode cX10_byFixed 22 = .ok (.iastore, 1) := by decide +kernel
theorem dX10_byFixed_23 : decode cX10_byFixed 23 = .ok (.aload_n 0, 1) := by decide +kernel
theorem dX10_byFixed_24 : decode cX10_byFixed 24 = .ok (.bipush 16, 2) := by decide +kernel
theorem dX10_byFixed_26 : decode cX10_byFixed 26 = .ok (.invokevirtual 164, 3) := by decide +kernel
theorem dX10_byFixed_29 : decode cX10_byFixed 29 = .ok (.aload_n 0, 1) := by decide +kernel
theorem dX10_byFixed_30 : decode cX10_byFixed 30 = .ok (.bipush 16, 2) := by decide +kernel
theorem dX10_byFixed_32 : decode cX10_byFixed 32 = .ok (.aload_n 0, 1) := by decide +kernel
theorem dX10_byFixed_33 : decode cX10_byFixed 33 = .ok (.getfield 78, 3) := by decide +kernel
theorem dX10_byFixed_36 : decode cX10_byFixed 36 = .ok (.i2l, 1) := by decide +kernel
theorem dX10_byFixed_37 : decode cX10_byFixed 37 = .ok (.iload_n 1, 1) := by decide +kernel
theorem dX10_byFixed_38 : decode cX10_byFixed 38 = .ok (.bipush 17, 2) := by decide +kernel
theorem dX10_byFixed_40 : decode cX10_byFixed 40 = .ok (.invokevirtual 195, 3) := by decide +kernel
theorem dX10_byFixed_43 : decode cX10_byFixed 43 = .ok (.aload_n 0, 1) := by decide +kernel
theorem dX10_byFixed_44 : decode cX10_byFixed 44 = .ok (.bipush 18, 2) := by decide +kernel
theorem dX10_byFixed_46 : decode cX10_byFixed 46 = .ok (.iconst 1, 1) := by decide +kernel
theorem dX10_byFixed_47 : decode cX10_byFixed 47 = .ok (.invokevirtual 170, 3) := by decide +kernel
theorem dX10_byFixed_50 : decode cX10_byFixed 50 = .ok (.iconst 0, 1) := by decide +kernel
theorem dX10_byFixed_51 : decode cX10_byFixed 51 = .ok (.istore_n 3, 1) := by decide +kernel
theorem dX10_byFixed_52 : decode cX10_byFixed 52 = .ok (.iload_n 3, 1) := by decide +kernel
theorem dX10_byFixed_53 : decode cX10_byFixed 53 = .ok (.iload_n 2, 1) := by decide +kernel
theorem dX10_byFixed_54 : decode cX10_byFixed 54 = .ok (.if_icmp .ge 99, 3) := by decide +kernel
theorem dX10_byFixed_57 : decode cX10_byFixed 57 = .ok (.iconst 0, 1) := by decide +kernel
theorem dX10_byFixed_58 : decode cX10_byFixed 58 = .ok (.istore 4, 2) := by decide +kernel
theorem dX10_byFixed_60 : decode cX10_byFixed 60 = .ok (.iload 4, 2) := by decide +kernel
theorem dX10_byFixed_62 : decode cX10_byFixed 62 = .ok (.iload_n 2, 1) := by decide +kernel
theorem dX10_byFixed_63 : decode cX10_byFixed 63 = .ok (.if_icmp .ge 63, 3) := by decide +kernel
theorem dX10_byFixed_66 : decode cX10_byFixed 66 = .ok (.aload_n 0, 1) := by decide +kernel
theorem dX10_byFixed_67 : decode cX10_byFixed 67 = .ok (.getfield 23, 3) := by decide +kernel
theorem dX10_byFixed_70 : decode cX10_byFixed 70 = .ok (.sipush 3600, 3) := by decide +kernel
theorem dX10_byFixed_73 : decode cX10_byFixed 73 = .ok (.iload 4, 2) := by decide +kernel
theorem dX10_byFixed_75 : decode cX10_byFixed 75 = .ok (.iadd, 1) := by decide +kernel
theorem dX10_byFixed_76 : decode cX10_byFixed 76 = .ok (.iaload, 1) := by decide +kernel
theorem dX10_byFixed_77 : decode cX10_byFixed 77 = .ok (.iload_n 3, 1) := by decide +kernel
theorem dX10_byFixed_78 : decode cX10_byFixed 78 = .ok (.iload 4, 2) := by decide +kernel
theorem dX10_byFixed_80 : decode cX10_byFixed 80 = .ok (.if_icmp .ne 7, 3) := by decide +kernel
theorem dX10_byFixed_83 : decode cX10_byFixed 83 = .ok (.iconst 1, 1) := by decide +kernel
theorem dX10_byFixed_84 : decode cX10_byFixed 84 = .ok (.goto 4, 3) := by decide +kernel
theorem dX10_byFixed_87 : decode cX10_byFixed 87 = .ok (.iconst 0, 1) := by decide +kernel
theorem dX10_byFixed_88 : decode cX10_byFixed 88 = .ok (.isub, 1) := by decide +kernel
theorem dX10_byFixed_89 : decode cX10_byFixed 89 = .ok (.istore 5, 2) := by decide +kernel
theorem dX10_byFixed_91 : decode cX10_byFixed 91 = .ok (.aload_n 0, 1) := by decide +kernel
theorem dX10_byFixed_92 : decode cX10_byFixed 92 = .ok (.getfield 63, 3) := by decide +kernel
theorem dX10_byFixed_95 : decode cX10_byFixed 95 = .ok (.bipush 41, 2) := by decide +kernel
theorem dX10_byFixed_97 : decode cX10_byFixed 97 = .ok (.iload 4, 2) := by decide +kernel
theorem dX10_byFixed_99 : decode cX10_byFixed 99 = .ok (.imul, 1) := by decide +kernel
theorem dX10_byFixed_100 : decode cX10_byFixed 100 = .ok (.iload_n 3, 1) := by decide +kernel
theorem dX10_byFixed_101 : decode cX10_byFixed 101 = .ok (.iadd, 1) := by decide +kernel
theorem dX10_byFixed_102 : decode cX10_byFixed 102 = .ok (.iload 5, 2) := by decide +kernel
theorem dX10_byFixed_104 : decode cX10_byFixed 104 = .ok (.ifCond .ge 13, 3) := by decide +kernel
theorem dX10_byFixed_107 : decode cX10_byFixed 107 = .ok (.iload 5, 2) := by decide +kernel
theorem dX10_byFixed_109 : decode cX10_byFixed 109 = .ok (.aload_n 0, 1) := by decide +kernel
theorem dX10_byFixed_110 : decode cX10_byFixed 110 = .ok (.getfield 78, 3) := by decide +kernel
theorem dX10_byFixed_113 : decode cX10_byFixed 113 = .ok (.iadd, 1) := by decide +kernel
theorem dX10_byFixed_114 : decode cX10_byFixed 114 = .ok (.goto 5, 3) := by decide +kernel
theorem dX10_byFixed_117 : decode cX10_byFixed 117 = .ok (.iload 5, 2) := by decide +kernel
theorem dX10_byFixed_119 : decode cX10_byFixed 119 = .ok (.iastore, 1) := by decide +kernel
theorem dX10_byFixed_120 : decode cX10_byFixed 120 = .ok (.iinc 4 1, 3) := by decide +kernel
theorem dX10_byFixed_123 : decode cX10_byFixed 123 = .ok (.goto (-63), 3) := by decide +kernel
theorem dX10_byFixed_126 : decode cX10_byFixed 126 = .ok (.aload_n 0, 1) := by decide +kernel
theorem dX10_byFixed_127 : decode cX10_byFixed 127 = .ok (.bipush 18, 2) := by decide +kernel
theorem dX10_byFixed_129 : decode cX10_byFixed 129 = .ok (.bipush 17, 2) := by decide +kernel
theorem dX10_byFixed_131 : decode cX10_byFixed 131 = .ok (.bipush 19, 2) := by decide +kernel
theorem dX10_byFixed_133 : decode cX10_byFixed 133 = .ok (.invokevirtual 189, 3) := by decide +kernel
theorem dX10_byFixed_136 : decode cX10_byFixed 136 = .ok (.aload_n 0, 1) := by decide +kernel
theorem dX10_byFixed_137 : decode cX10_byFixed 137 = .ok (.bipush 19, 2) := by decide +kernel
theorem dX10_byFixed_139 : decode cX10_byFixed 139 = .ok (.iload_n 1, 1) := by decide +kernel
theorem dX10_byFixed_140 : decode cX10_byFixed 140 = .ok (.bipush 15, 2) := by decide +kernel
theorem dX10_byFixed_142 : decode cX10_byFixed 142 = .ok (.bipush 18, 2) := by decide +kernel
theorem dX10_byFixed_144 : decode cX10_byFixed 144 = .ok (.invokevirtual 176, 3) := by decide +kernel
theorem dX10_byFixed_147 : decode cX10_byFixed 147 = .ok (.iinc 3 1, 3) := by decide +kernel
theorem dX10_byFixed_150 : decode cX10_byFixed 150 = .ok (.goto (-98), 3) := by decide +kernel
theorem dX10_byFixed_153 : decode cX10_byFixed 153 = .ok (.aload_n 0, 1) := by decide +kernel
theorem dX10_byFixed_154 : decode cX10_byFixed 154 = .ok (.iload_n 2, 1) := by decide +kernel
theorem dX10_byFixed_155 : decode cX10_byFixed 155 = .ok (.invokevirtual 229, 3) := by decide +kernel
theorem dX10_byFixed_158 : decode cX10_byFixed 158 = .ok (.istore_n 3, 1) := by decide +kernel
theorem dX10_byFixed_159 : decode cX10_byFixed 159 = .ok (.iload_n 3, 1) := by decide +kernel
theorem dX10_byFixed_160 : decode cX10_byFixed 160 = .ok (.iconst 1, 1) := by decide +kernel
theorem dX10_byFixed_161 : decode cX10_byFixed 161 = .ok (.if_icmp .ne 9, 3) := by decide +kernel
theorem dX10_byFixed_164 : decode cX10_byFixed 164 = .ok (.aload_n 0, 1) := by decide +kernel
theorem dX10_byFixed_165 : decode cX10_byFixed 165 = .ok (.iload_n 1, 1) := by decide +kernel
theorem dX10_byFixed_166 : decode cX10_byFixed 166 = .ok (.invokevirtual 223, 3) := by decide +kernel
theorem dX10_byFixed_169 : decode cX10_byFixed 169 = .ok (.return_, 1) := by decide +kernel
theorem dX10_byFixed_170 : decode cX10_byFixed 170 = .ok (.aload_n 0, 1) := by decide +kernel
theorem dX10_byFixed_171 : decode cX10_byFixed 171 = .ok (.getfield 205, 3) := by decide +kernel
theorem dX10_byFixed_174 : decode cX10_byFixed 174 = .ok (.istore 4, 2) := by decide +kernel
theorem dX10_byFixed_176 : decode cX10_byFixed 176 = .ok (.aload_n 0, 1) := by decide +kernel
theorem dX10_byFixed_177 : decode cX10_byFixed 177 = .ok (.iload_n 1, 1) := by decide +kernel
theorem dX10_byFixed_178 : decode cX10_byFixed 178 = .ok (.invokevirtual 211, 3) := by decide +kernel
theorem dX10_byFixed_181 : decode cX10_byFixed 181 = .ok (.iconst 0, 1) := by decide +kernel
theorem dX10_byFixed_182 : decode cX10_byFixed 182 = .ok (.istore 5, 2) := by decide +kernel
theorem dX10_byFixed_184 : decode cX10_byFixed 184 = .ok (.aload_n 0, 1) := by decide +kernel
theorem dX10_byFixed_185 : decode cX10_byFixed 185 = .ok (.getfield 205, 3) := by decide +kernel
theorem dX10_byFixed_188 : decode cX10_byFixed 188 = .ok (.iload 4, 2) := by decide +kernel
theorem dX10_byFixed_190 : decode cX10_byFixed 190 = .ok (.isub, 1) := by decide +kernel
theorem dX10_byFixed_191 : decode cX10_byFixed 191 = .ok (.iload_n 3, 1) := by decide +kernel
theorem dX10_byFixed_192 : decode cX10_byFixed 192 = .ok (.if_icmp .ge 129, 3) := by decide +kernel
theorem dX10_byFixed_195 : decode cX10_byFixed 195 = .ok (.iload 5, 2) := by decide +kernel
theorem dX10_byFixed_197 : decode cX10_byFixed 197 = .ok (.aload_n 0, 1) := by decide +kernel
theorem dX10_byFixed_198 : decode cX10_byFixed 198 = .ok (.getfield 78, 3) := by decide +kernel
theorem dX10_byFixed_201 : decode cX10_byFixed 201 = .ok (.iload_n 3, 1) := by decide +kernel
theorem dX10_byFixed_202 : decode cX10_byFixed 202 = .ok (.imul, 1) := by decide +kernel
theorem dX10_byFixed_203 : decode cX10_byFixed 203 = .ok (.if_icmp .ge 118, 3) := by decide +kernel
theorem dX10_byFixed_206 : decode cX10_byFixed 206 = .ok (.aload_n 0, 1) := by decide +kernel
theorem dX10_byFixed_207 : decode cX10_byFixed 207 = .ok (.bipush 21, 2) := by decide +kernel
theorem dX10_byFixed_209 : decode cX10_byFixed 209 = .ok (.iconst 0, 1) := by decide +kernel
theorem dX10_byFixed_210 : decode cX10_byFixed 210 = .ok (.invokevirtual 170, 3) := by decide +kernel
theorem dX10_byFixed_213 : decode cX10_byFixed 213 = .ok (.iconst 0, 1) := by decide +kernel
theorem dX10_byFixed_214 : decode cX10_byFixed 214 = .ok (.istore 6, 2) := by decide +kernel
theorem dX10_byFixed_216 : decode cX10_byFixed 216 = .ok (.iload 6, 2) := by decide +kernel
theorem dX10_byFixed_218 : decode cX10_byFixed 218 = .ok (.iload_n 2, 1) := by decide +kernel
theorem dX10_byFixed_219 : decode cX10_byFixed 219 = .ok (.if_icmp .ge 35, 3) := by decide +kernel
theorem dX10_byFixed_222 : decode cX10_byFixed 222 = .ok (.aload_n 0, 1) := by decide +kernel
theorem dX10_byFixed_223 : decode cX10_byFixed 223 = .ok (.getfield 23, 3) := by decide +kernel
theorem dX10_byFixed_226 : decode cX10_byFixed 226 = .ok (.sipush 4200, 3) := by decide +kernel
theorem dX10_byFixed_229 : decode cX10_byFixed 229 = .ok (.iload 6, 2) := by decide +kernel
theorem dX10_byFixed_231 : decode cX10_byFixed 231 = .ok (.iadd, 1) := by decide +kernel
theorem dX10_byFixed_232 : decode cX10_byFixed 232 = .ok (.aload_n 0, 1) := by decide +kernel
theorem dX10_byFixed_233 : decode cX10_byFixed 233 = .ok (.getfield 69, 3) := by decide +kernel
theorem dX10_byFixed_236 : decode cX10_byFixed 236 = .ok (.bipush 41, 2) := by decide +kernel
theorem dX10_byFixed_238 : decode cX10_byFixed 238 = .ok (.iload 5, 2) := by decide +kernel
theorem dX10_byFixed_240 : decode cX10_byFixed 240 = .ok (.iload_n 3, 1) := by decide +kernel
theorem dX10_byFixed_241 : decode cX10_byFixed 241 = .ok (.irem, 1) := by decide +kernel
theorem dX10_byFixed_242 : decode cX10_byFixed 242 = .ok (.imul, 1) := by decide +kernel
theorem dX10_byFixed_243 : decode cX10_byFixed 243 = .ok (.iload 6, 2) := by decide +kernel
theorem dX10_byFixed_245 : decode cX10_byFixed 245 = .ok (.iadd, 1) := by decide +kernel
theorem dX10_byFixed_246 : decode cX10_byFixed 246 = .ok (.iaload, 1) := by decide +kernel
theorem dX10_byFixed_247 : decode cX10_byFixed 247 = .ok (.iastore, 1) := by decide +kernel
theorem dX10_byFixed_248 : decode cX10_byFixed 248 = .ok (.iinc 6 1, 3) := by decide +kernel
theorem dX10_byFixed_251 : decode cX10_byFixed 251 = .ok (.goto (-35), 3) := by decide +kernel
theorem dX10_byFixed_254 : decode cX10_byFixed 254 = .ok (.aload_n 0, 1) := by decide +kernel
theorem dX10_byFixed_255 : decode cX10_byFixed 255 = .ok (.getfield 23, 3) := by decide +kernel
theorem dX10_byFixed_258 : decode cX10_byFixed 258 = .ok (.sipush 4200, 3) := by decide +kernel
theorem dX10_byFixed_261 : decode cX10_byFixed 261 = .ok (.aload_n 0, 1) := by decide +kernel
theorem dX10_byFixed_262 : decode cX10_byFixed 262 = .ok (.getfield 23, 3) := by decide +kernel
theorem dX10_byFixed_265 : decode cX10_byFixed 265 = .ok (.sipush 4200, 3) := by decide +kernel
theorem dX10_byFixed_268 : decode cX10_byFixed 268 = .ok (.iaload, 1) := by decide +kernel
theorem dX10_byFixed_269 : decode cX10_byFixed 269 = .ok (.iload 5, 2) := by decide +kernel
theorem dX10_byFixed_271 : decode cX10_byFixed 271 = .ok (.iload_n 3, 1) := by decide +kernel
theorem dX10_byFixed_272 : decode cX10_byFixed 272 = .ok (.idiv, 1) := by decide +kernel
theorem dX10_byFixed_273 : decode cX10_byFixed 273 = .ok (.iadd, 1) := by decide +kernel
theorem dX10_byFixed_274 : decode cX10_byFixed 274 = .ok (.aload_n 0, 1) := by decide +kernel
theorem dX10_byFixed_275 : decode cX10_byFixed 275 = .ok (.getfield 78, 3) := by decide +kernel
theorem dX10_byFixed_278 : decode cX10_byFixed 278 = .ok (.irem, 1) := by decide +kernel
theorem dX10_byFixed_279 : decode cX10_byFixed 279 = .ok (.iastore, 1) := by decide +kernel
theorem dX10_byFixed_280 : decode cX10_byFixed 280 = .ok (.aload_n 0, 1) := by decide +kernel
theorem dX10_byFixed_281 : decode cX10_byFixed 281 = .ok (.bipush 21, 2) := by decide +kernel
theorem dX10_byFixed_283 : decode cX10_byFixed 283 = .ok (.invokevirtual 164, 3) := by decide +kernel
theorem dX10_byFixed_286 : decode cX10_byFixed 286 = .ok (.iinc 5 1, 3) := by decide +kernel
theorem dX10_byFixed_289 : decode cX10_byFixed 289 = .ok (.aload_n 0, 1) := by decide +kernel
theorem dX10_byFixed_290 : decode cX10_byFixed 290 = .ok (.getfield 205, 3) := by decide +kernel
theorem dX10_byFixed_293 : decode cX10_byFixed 293 = .ok (.istore 6, 2) := by decide +kernel
theorem dX10_byFixed_295 : decode cX10_byFixed 295 = .ok (.iload 4, 2) := by decide +kernel
theorem dX10_byFixed_297 : decode cX10_byFixed 297 = .ok (.istore 7, 2) := by decide +kernel
theorem dX10_byFixed_299 : decode cX10_byFixed 299 = .ok (.iload 7, 2) := by decide +kernel
theorem dX10_byFixed_301 : decode cX10_byFixed 301 = .ok (.iload 6, 2) := by decide +kernel
theorem dX10_byFixed_303 : decode cX10_byFixed 303 = .ok (.if_icmp .ge 15, 3) := by decide +kernel
theorem dX10_byFixed_306 : decode cX10_byFixed 306 = .ok (.aload_n 0, 1) := by decide +kernel
theorem dX10_byFixed_307 : decode cX10_byFixed 307 = .ok (.iload 7, 2) := by decide +kernel
theorem dX10_byFixed_309 : decode cX10_byFixed 309 = .ok (.invokevirtual 232, 3) := by decide +kernel
theorem dX10_byFixed_312 : decode cX10_byFixed 312 = .ok (.iinc 7 1, 3) := by decide +kernel
theorem dX10_byFixed_315 : decode cX10_byFixed 315 = .ok (.goto (-16), 3) := by decide +kernel
theorem dX10_byFixed_318 : decode cX10_byFixed 318 = .ok (.goto (-134), 3) := by decide +kernel
theorem dX10_byFixed_321 : decode cX10_byFixed 321 = .ok (.aload_n 0, 1) := by decide +kernel
theorem dX10_byFixed_322 : decode cX10_byFixed 322 = .ok (.getfield 205, 3) := by decide +kernel
theorem dX10_byFixed_325 : decode cX10_byFixed 325 = .ok (.iload 4, 2) := by decide +kernel
theorem dX10_byFixed_327 : decode cX10_byFixed 327 = .ok (.if_icmp .le 18, 3) := by decide +kernel
theorem dX10_byFixed_330 : decode cX10_byFixed 330 = .ok (.aload_n 0, 1) := by decide +kernel
theorem dX10_byFixed_331 : decode cX10_byFixed 331 = .ok (.bipush 22, 2) := by decide +kernel
theorem dX10_byFixed_333 : decode cX10_byFixed 333 = .ok (.invokevirtual 214, 3) := by decide +kernel
theorem dX10_byFixed_336 : decode cX10_byFixed 336 = .ok (.aload_n 0, 1) := by decide +kernel
theorem dX10_byFixed_337 : decode cX10_byFixed 337 = .ok (.bipush 22, 2) := by decide +kernel
theorem dX10_byFixed_339 : decode cX10_byFixed 339 = .ok (.invokevirtual 223, 3) := by decide +kernel
theorem dX10_byFixed_342 : decode cX10_byFixed 342 = .ok (.goto (-21), 3) := by decide +kernel
theorem dX10_byFixed_345 : decode cX10_byFixed 345 = .ok (.return_, 1) := by decide +kernel
theorem dX10_split_0 : decode cX10_split 0 = .ok (.aload_n 0, 1) := by decide +kernel
theorem dX10_split_1 : decode cX10_split 1 = .ok (.bipush 22, 2) := by decide +kernel
theorem dX10_split_3 : decode cX10_split 3 = .ok (.iconst 0, 1) := by decide +kernel
theorem dX10_split_4 : decode cX10_split 4 = .ok (.invokevirtual 170, 3) := by decide +kernel
theorem dX10_split_7 : decode cX10_split 7 = .ok (.iconst 0, 1) := by decide +kernel
theorem dX10_split_8 : decode cX10_split 8 = .ok (.istore_n 2, 1) := by decide +kernel
theorem dX10_split_9 : decode cX10_split 9 = .ok (.iload_n 2, 1) := by decide +kernel
theorem dX10_split_10 : decode cX10_split 10 = .ok (.bipush 40, 2) := by decide +kernel
theorem dX10_split_12 : decode cX10_split 12 = .ok (.if_icmp .gt 30, 3) := by decide +kernel
theorem dX10_split_15 : decode cX10_split 15 = .ok (.aload_n 0, 1) := by decide +kernel
theorem dX10_split_16 : decode cX10_split 16 = .ok (.getfield 23, 3) := by decide +kernel
theorem dX10_split_19 : decode cX10_split 19 = .ok (.sipush 4400, 3) := by decide +kernel
theorem dX10_split_22 : decode cX10_split 22 = .ok (.iload_n 2, 1) := by decide +kernel
theorem dX10_split_23 : decode cX10_split 23 = .ok (.iadd, 1) := by decide +kernel
theorem dX10_split_24 : decode cX10_split 24 = .ok (.aload_n 0, 1) := by decide +kernel
theorem dX10_split_25 : decode cX10_split 25 = .ok (.getfield 60, 3) := by decide +kernel
theorem dX10_split_28 : decode cX10_split 28 = .ok (.bipush 41, 2) := by decide +kernel
theorem dX10_split_30 : decode cX10_split 30 = .ok (.iload_n 1, 1) := by decide +kernel
theorem dX10_split_31 : decode cX10_split 31 = .ok (.imul, 1) := by decide +kernel
theorem dX10_split_32 : decode cX10_split 32 = .ok (.iload_n 2, 1) := by decide +kernel
theorem dX10_split_33 : decode cX10_split 33 = .ok (.iadd, 1) := by decide +kernel
theorem dX10_split_34 : decode cX10_split 34 = .ok (.iaload, 1) := by decide +kernel
theorem dX10_split_35 : decode cX10_split 35 = .ok (.iastore, 1) := by decide +kernel
theorem dX10_split_36 : decode cX10_split 36 = .ok (.iinc 2 1, 3) := by decide +kernel
theorem dX10_split_39 : decode cX10_split 39 = .ok (.goto (-30), 3) := by decide +kernel
theorem dX10_split_42 : decode cX10_split 42 = .ok (.aload_n 0, 1) := by decide +kernel
theorem dX10_split_43 : decode cX10_split 43 = .ok (.bipush 22, 2) := by decide +kernel
theorem dX10_split_45 : decode cX10_split 45 = .ok (.invokevirtual 164, 3) := by decide +kernel
theorem dX10_split_48 : decode cX10_split 48 = .ok (.aload_n 0, 1) := by decide +kernel
theorem dX10_split_49 : decode cX10_split 49 = .ok (.getfield 26, 3) := by decide +kernel
theorem dX10_split_52 : decode cX10_split 52 = .ok (.bipush 22, 2) := by decide +kernel
theorem dX10_split_54 : decode cX10_split 54 = .ok (.iaload, 1) := by decide +kernel
theorem dX10_split_55 : decode cX10_split 55 = .ok (.iconst 2, 1) := by decide +kernel
theorem dX10_split_56 : decode cX10_split 56 = .ok (.if_icmp .ge 4, 3) := by decide +kernel
theorem dX10_split_59 : decode cX10_split 59 = .ok (.return_, 1) := by decide +kernel
theorem dX10_split_60 : decode cX10_split 60 = .ok (.aload_n 0, 1) := by decide +kernel
theorem dX10_split_61 : decode cX10_split 61 = .ok (.bipush 21, 2) := by decide +kernel
theorem dX10_split_63 : decode cX10_split 63 = .ok (.bipush 22, 2) := by decide +kernel
theorem dX10_split_65 : decode cX10_split 65 = .ok (.bipush 15, 2) := by decide +kernel
theorem dX10_split_67 : decode cX10_split 67 = .ok (.bipush 23, 2) := by decide +kernel
theorem dX10_split_69 : decode cX10_split 69 = .ok (.invokevirtual 176, 3) := by decide +kernel
theorem dX10_split_72 : decode cX10_split 72 = .ok (.aload_n 0, 1) := by decide +kernel
theorem dX10_split_73 : decode cX10_split 73 = .ok (.getfield 78, 3) := by decide +kernel
theorem dX10_split_76 : decode cX10_split 76 = .ok (.iconst 2, 1) := by decide +kernel
theorem dX10_split_77 : decode cX10_split 77 = .ok (.if_icmp .le 39, 3) := by decide +kernel
theorem dX10_split_80 : decode cX10_split 80 = .ok (.aload_n 0, 1) := by decide +kernel
theorem dX10_split_81 : decode cX10_split 81 = .ok (.bipush 23, 2) := by decide +kernel
theorem dX10_split_83 : decode cX10_split 83 = .ok (.aload_n 0, 1) := by decide +kernel
theorem dX10_split_84 : decode cX10_split 84 = .ok (.getfield 78, 3) := by decide +kernel
theorem dX10_split_87 : decode cX10_split 87 = .ok (.iconst 1, 1) := by decide +kernel
theorem dX10_split_88 : decode cX10_split 88 = .ok (.isub, 1) := by decide +kernel
theorem dX10_split_89 : decode cX10_split 89 = .ok (.iconst 2, 1) := by decide +kernel
theorem dX10_split_90 : decode cX10_split 90 = .ok (.idiv, 1) := by decide +kernel
theorem dX10_split_91 : decode cX10_split 91 = .ok (.i2l, 1) := by decide +kernel
theorem dX10_split_92 : decode cX10_split 92 = .ok (.bipush 22, 2) := by decide +kernel
theorem dX10_split_94 : decode cX10_split 94 = .ok (.bipush 24, 2) := by decide +kernel
theorem dX10_split_96 : decode cX10_split 96 = .ok (.invokevirtual 195, 3) := by decide +kernel
theorem dX10_split_99 : decode cX10_split 99 = .ok (.aload_n 0, 1) := by decide +kernel
theorem dX10_split_100 : decode cX10_split 100 = .ok (.bipush 25, 2) := by decide +kernel
theorem dX10_split_102 : decode cX10_split 102 = .ok (.iconst 1, 1) := by decide +kernel
theorem dX10_split_103 : decode cX10_split 103 = .ok (.invokevirtual 170, 3) := by decide +kernel
theorem dX10_split_106 : decode cX10_split 106 = .ok (.aload_n 0, 1) := by decide +kernel
theorem dX10_split_107 : decode cX10_split 107 = .ok (.bipush 24, 2) := by decide +kernel
theorem dX10_split_109 : decode cX10_split 109 = .ok (.bipush 25, 2) := by decide +kernel
theorem dX10_split_111 : decode cX10_split 111 = .ok (.bipush 23, 2) := by decide +kernel
theorem dX10_split_113 : decode cX10_split 113 = .ok (.invokevirtual 192, 3) := by decide +kernel
theorem dX10_split_116 : decode cX10_split 116 = .ok (.aload_n 0, 1) := by decide +kernel
theorem dX10_split_117 : decode cX10_split 117 = .ok (.bipush 22, 2) := by decide +kernel
theorem dX10_split_119 : decode cX10_split 119 = .ok (.bipush 23, 2) := by decide +kernel
theorem dX10_split_121 : decode cX10_split 121 = .ok (.bipush 24, 2) := by decide +kernel
theorem dX10_split_123 : decode cX10_split 123 = .ok (.invokevirtual 185, 3) := by decide +kernel
theorem dX10_split_126 : decode cX10_split 126 = .ok (.aload_n 0, 1) := by decide +kernel
theorem dX10_split_127 : decode cX10_split 127 = .ok (.getfield 26, 3) := by decide +kernel
theorem dX10_split_130 : decode cX10_split 130 = .ok (.bipush 24, 2) := by decide +kernel
theorem dX10_split_132 : decode cX10_split 132 = .ok (.iaload, 1) := by decide +kernel
theorem dX10_split_133 : decode cX10_split 133 = .ok (.ifCond .le 86, 3) := by decide +kernel
theorem dX10_split_136 : decode cX10_split 136 = .ok (.aload_n 0, 1) := by decide +kernel
theorem dX10_split_137 : decode cX10_split 137 = .ok (.getfield 26, 3) := by decide +kernel
theorem dX10_split_140 : decode cX10_split 140 = .ok (.bipush 24, 2) := by decide +kernel
theorem dX10_split_142 : decode cX10_split 142 = .ok (.iaload, 1) := by decide +kernel
theorem dX10_split_143 : decode cX10_split 143 = .ok (.aload_n 0, 1) := by decide +kernel
theorem dX10_split_144 : decode cX10_split 144 = .ok (.getfield 26, 3) := by decide +kernel
theorem dX10_split_147 : decode cX10_split 147 = .ok (.bipush 22, 2) := by decide +kernel
theorem dX10_split_149 : decode cX10_split 149 = .ok (.iaload, 1) := by decide +kernel
theorem dX10_split_150 : decode cX10_split 150 = .ok (.if_icmp .ge 69, 3) := by decide +kernel
theorem dX10_split_153 : decode cX10_split 153 = .ok (.aload_n 0, 1) := by decide +kernel
theorem dX10_split_154 : decode cX10_split 154 = .ok (.bipush 22, 2) := by decide +kernel
theorem dX10_split_156 : decode cX10_split 156 = .ok (.bipush 24, 2) := by decide +kernel
theorem dX10_split_158 : decode cX10_split 158 = .ok (.bipush 25, 2) := by decide +kernel
theorem dX10_split_160 : decode cX10_split 160 = .ok (.bipush 26, 2) := by decide +kernel
theorem dX10_split_162 : decode cX10_split 162 = .ok (.invokevirtual 176, 3) := by decide +kernel
theorem dX10_split_165 : decode cX10_split 165 = .ok (.aload_n 0, 1) := by decide +kernel
theorem dX10_split_166 : decode cX10_split 166 = .ok (.getfield 57, 3) := by decide +kernel
theorem dX10_split_169 : decode cX10_split 169 = .ok (.iload_n 1, 1) := by decide +kernel
theorem dX10_split_170 : decode cX10_split 170 = .ok (.aload_n 0, 1) := by decide +kernel
theorem dX10_split_171 : decode cX10_split 171 = .ok (.getfield 26, 3) := by decide +kernel
theorem dX10_split_174 : decode cX10_split 174 = .ok (.bipush 24, 2) := by decide +kernel
theorem dX10_split_176 : decode cX10_split 176 = .ok (.iaload, 1) := by decide +kernel
theorem dX10_split_177 : decode cX10_split 177 = .ok (.iastore, 1) := by decide +kernel
theorem dX10_split_178 : decode cX10_split 178 = .ok (.iconst 0, 1) := by decide +kernel
theorem dX10_split_179 : decode cX10_split 179 = .ok (.istore_n 2, 1) := by decide +kernel
theorem dX10_split_180 : decode cX10_split 180 = .ok (.iload_n 2, 1) := by decide +kernel
theorem dX10_split_181 : decode cX10_split 181 = .ok (.bipush 40, 2) := by decide +kernel
theorem dX10_split_183 : decode cX10_split 183 = .ok (.if_icmp .gt 30, 3) := by decide +kernel
theorem dX10_split_186 : decode cX10_split 186 = .ok (.aload_n 0, 1) := by decide +kernel
theorem dX10_split_187 : decode cX10_split 187 = .ok (.getfield 60, 3) := by decide +kernel
theorem dX10_split_190 : decode cX10_split 190 = .ok (.bipush 41, 2) := by decide +kernel
theorem dX10_split_192 : decode cX10_split 192 = .ok (.iload_n 1, 1) := by decide +kernel
theorem dX10_split_193 : decode cX10_split 193 = .ok (.imul, 1) := by decide +kernel
theorem dX10_split_194 : decode cX10_split 194 = .ok (.iload_n 2, 1) := by decide +kernel
theorem dX10_split_195 : decode cX10_split 195 = .ok (.iadd, 1) := by decide +kernel
theorem dX10_split_196 : decode cX10_split 196 = .ok (.aload_n 0, 1) := by decide +kernel
theorem dX10_split_197 : decode cX10_split 197 = .ok (.getfield 23, 3) := by decide +kernel
theorem dX10_split_200 : decode cX10_split 200 = .ok (.sipush 4800, 3) := by decide +kernel
theorem dX10_split_203 : decode cX10_split 203 = .ok (.iload_n 2, 1) := by decide +kernel
theorem dX10_split_204 : decode cX10_split 204 = .ok (.iadd, 1) := by decide +kernel
theorem dX10_split_205 : decode cX10_split 205 = .ok (.iaload, 1) := by decide +kernel
theorem dX10_split_206 : decode cX10_split 206 = .ok (.iastore, 1) := by decide +kernel
theorem dX10_split_207 : decode cX10_split 207 = .ok (.iinc 2 1, 3) := by decide +kernel
theorem dX10_split_210 : decode cX10_split 210 = .ok (.goto (-30), 3) := by decide +kernel
theorem dX10_split_213 : decode cX10_split 213 = .ok (.aload_n 0, 1) := by decide +kernel
theorem dX10_split_214 : decode cX10_split 214 = .ok (.bipush 25, 2) := by decide +kernel
theorem dX10_split_216 : decode cX10_split 216 = .ok (.invokevirtual 211, 3) := by decide +kernel
theorem dX10_split_219 : decode cX10_split 219 = .ok (.return_, 1) := by decide +kernel
theorem dX10_kernel_0 : decode cX10_kernel 0 = .ok (.iconst 0, 1) := by decide +kernel
theorem dX10_kernel_1 : decode cX10_kernel 1 = .ok (.istore_n 2, 1) := by decide +kernel
theorem dX10_kernel_2 : decode cX10_kernel 2 = .ok (.iconst 0, 1) := by decide +kernel
theorem dX10_kernel_3 : decode cX10_kernel 3 = .ok (.istore_n 3, 1) := by decide +kernel
theorem dX10_kernel_4 : decode cX10_kernel 4 = .ok (.iload_n 3, 1) := by decide +kernel
theorem dX10_kernel_5 : decode cX10_kernel 5 = .ok (.iload_n 1, 1) := by decide +kernel
theorem dX10_kernel_6 : decode cX10_kernel 6 = .ok (.if_icmp .ge 280, 3) := by decide +kernel
theorem dX10_kernel_9 : decode cX10_kernel 9 = .ok (.aload_n 0, 1) := by decide +kernel
theorem dX10_kernel_10 : decode cX10_kernel 10 = .ok (.getfield 66, 3) := by decide +kernel
theorem dX10_kernel_13 : decode cX10_kernel 13 = .ok (.iload_n 3, 1) := by decide +kernel
theorem dX10_kernel_14 : decode cX10_kernel 14 = .ok (.iconst (-1), 1) := by decide +kernel
theorem dX10_kernel_15 : decode cX10_kernel 15 = .ok (.iastore, 1) := by decide +kernel
theorem dX10_kernel_16 : decode cX10_kernel 16 = .ok (.iload_n 2, 1) := by decide +kernel
theorem dX10_kernel_17 : decode cX10_kernel 17 = .ok (.istore 4, 2) := by decide +kernel
theorem dX10_kernel_19 : decode cX10_kernel 19 = .ok (.iload 4, 2) := by decide +kernel
theorem dX10_kernel_21 : decode cX10_kernel 21 = .ok (.iload_n 1, 1) := by decide +kernel
theorem dX10_kernel_22 : decode cX10_kernel 22 = .ok (.if_icmp .ge 24, 3) := by decide +kernel
theorem dX10_kernel_25 : decode cX10_kernel 25 = .ok (.aload_n 0, 1) := by decide +kernel
theorem dX10_kernel_26 : decode cX10_kernel 26 = .ok (.getfield 63, 3) := by decide +kernel
theorem dX10_kernel_29 : decode cX10_kernel 29 = .ok (.bipush 41, 2) := by decide +kernel
theorem dX10_kernel_31 : decode cX10_kernel 31 = .ok (.iload 4, 2) := by decide +kernel
theorem dX10_kernel_33 : decode cX10_kernel 33 = .ok (.imul, 1) := by decide +kernel
theorem dX10_kernel_34 : decode cX10_kernel 34 = .ok (.iload_n 3, 1) := by decide +kernel
theorem dX10_kernel_35 : decode cX10_kernel 35 = .ok (.iadd, 1) := by decide +kernel
theorem dX10_kernel_36 : decode cX10_kernel 36 = .ok (.iaload, 1) := by decide +kernel
theorem dX10_kernel_37 : decode cX10_kernel 37 = .ok (.ifCond .ne 9, 3) := by decide +kernel
theorem dX10_kernel_40 : decode cX10_kernel 40 = .ok (.iinc 4 1, 3) := by decide +kernel
theorem dX10_kernel_43 : decode cX10_kernel 43 = .ok (.goto (-24), 3) := by decide +kernel
theorem dX10_kernel_46 : decode cX10_kernel 46 = .ok (.iload 4, 2) := by decide +kernel
theorem dX10_kernel_48 : decode cX10_kernel 48 = .ok (.iload_n 1, 1) := by decide +kernel
theorem dX10_kernel_49 : decode cX10_kernel 49 = .ok (.if_icmp .ge 231, 3) := by decide +kernel
theorem dX10_kernel_52 : decode cX10_kernel 52 = .ok (.aload_n 0, 1) := by decide +kernel
theorem dX10_kernel_53 : decode cX10_kernel 53 = .ok (.aload_n 0, 1) := by decide +kernel
theorem dX10_kernel_54 : decode cX10_kernel 54 = .ok (.getfield 63, 3) := by decide +kernel
theorem dX10_kernel_57 : decode cX10_kernel 57 = .ok (.bipush 41, 2) := by decide +kernel
theorem dX10_kernel_59 : decode cX10_kernel 59 = .ok (.iload 4, 2) := by decide +kernel
theorem dX10_kernel_61 : decode cX10_kernel 61 = .ok (.imul, 1) := by decide +kernel
theorem dX10_kernel_62 : decode cX10_kernel 62 = .ok (.iload_n 3, 1) := by decide +kernel
theorem dX10_kernel_63 : decode cX10_kernel 63 = .ok (.iadd, 1) := by decide +kernel
theorem dX10_kernel_64 : decode cX10_kernel 64 = .ok (.iaload, 1) := by decide +kernel
theorem dX10_kernel_65 : decode cX10_kernel 65 = .ok (.invokevirtual 173, 3) := by decide +kernel
theorem dX10_kernel_68 : decode cX10_kernel 68 = .ok (.istore 5, 2) := by decide +kernel
theorem dX10_kernel_70 : decode cX10_kernel 70 = .ok (.iconst 0, 1) := by decide +kernel
theorem dX10_kernel_71 : decode cX10_kernel 71 = .ok (.istore 6, 2) := by decide +kernel
theorem dX10_kernel_73 : decode cX10_kernel 73 = .ok (.iload 6, 2) := by decide +kernel
theorem dX10_kernel_75 : decode cX10_kernel 75 = .ok (.iload_n 1, 1) := by decide +kernel
theorem dX10_kernel_76 : decode cX10_kernel 76 = .ok (.if_icmp .ge 75, 3) := by decide +kernel
theorem dX10_kernel_79 : decode cX10_kernel 79 = .ok (.aload_n 0, 1) := by decide +kernel
theorem dX10_kernel_80 : decode cX10_kernel 80 = .ok (.getfield 63, 3) := by decide +kernel
theorem dX10_kernel_83 : decode cX10_kernel 83 = .ok (.bipush 41, 2) := by decide +kernel
theorem dX10_kernel_85 : decode cX10_kernel 85 = .ok (.iload 4, 2) := by decide +kernel
theorem dX10_kernel_87 : decode cX10_kernel 87 = .ok (.imul, 1) := by decide +kernel
theorem dX10_kernel_88 : decode cX10_kernel 88 = .ok (.iload 6, 2) := by decide +kernel
theorem dX10_kernel_90 : decode cX10_kernel 90 = .ok (.iadd, 1) := by decide +kernel
theorem dX10_kernel_91 : decode cX10_kernel 91 = .ok (.iaload, 1) := by decide +kernel
theorem dX10_kernel_92 : decode cX10_kernel 92 = .ok (.istore 7, 2) := by decide +kernel
theorem dX10_kernel_94 : decode cX10_kernel 94 = .ok (.aload_n 0, 1) := by decide +kernel
theorem dX10_kernel_95 : decode cX10_kernel 95 = .ok (.getfield 63, 3) := by decide +kernel
theorem dX10_kernel_98 : decode cX10_kernel 98 = .ok (.bipush 41, 2) := by decide +kernel
theorem dX10_kernel_100 : decode cX10_kernel 100 = .ok (.iload 4, 2) := by decide +kernel
theorem dX10_kernel_102 : decode cX10_kernel 102 = .ok (.imul, 1) := by decide +kernel
theorem dX10_kernel_103 : decode cX10_kernel 103 = .ok (.iload 6, 2) := by decide +kernel
theorem dX10_kernel_105 : decode cX10_kernel 105 = .ok (.iadd, 1) := by decide +kernel
theorem dX10_kernel_106 : decode cX10_kernel 106 = .ok (.aload_n 0, 1) := by decide +kernel
theorem dX10_kernel_107 : decode cX10_kernel 107 = .ok (.getfield 63, 3) := by decide +kernel
theorem dX10_kernel_110 : decode cX10_kernel 110 = .ok (.bipush 41, 2) := by decide +kernel
theorem dX10_kernel_112 : decode cX10_kernel 112 = .ok (.iload_n 2, 1) := by decide +kernel
theorem dX10_kernel_113 : decode cX10_kernel 113 = .ok (.imul, 1) := by decide +kernel
theorem dX10_kernel_114 : decode cX10_kernel 114 = .ok (.iload 6, 2) := by decide +kernel
theorem dX10_kernel_116 : decode cX10_kernel 116 = .ok (.iadd, 1) := by decide +kernel
theorem dX10_kernel_117 : decode cX10_kernel 117 = .ok (.iaload, 1) := by decide +kernel
theorem dX10_kernel_118 : decode cX10_kernel 118 = .ok (.iastore, 1) := by decide +kernel
theorem dX10_kernel_119 : decode cX10_kernel 119 = .ok (.aload_n 0, 1) := by decide +kernel
theorem dX10_kernel_120 : decode cX10_kernel 120 = .ok (.getfield 63, 3) := by decide +kernel
theorem dX10_kernel_123 : decode cX10_kernel 123 = .ok (.bipush 41, 2) := by decide +kernel
theorem dX10_kernel_125 : decode cX10_kernel 125 = .ok (.iload_n 2, 1) := by decide +kernel
theorem dX10_kernel_126 : decode cX10_kernel 126 = .ok (.imul, 1) := by decide +kernel
theorem dX10_kernel_127 : decode cX10_kernel 127 = .ok (.iload 6, 2) := by decide +kernel
theorem dX10_kernel_129 : decode cX10_kernel 129 = .ok (.iadd, 1) := by decide +kernel
theorem dX10_kernel_130 : decode cX10_kernel 130 = .ok (.iload 7, 2) := by decide +kernel
theorem dX10_kernel_132 : decode cX10_kernel 132 = .ok (.i2l, 1) := by decide +kernel
theorem dX10_kernel_133 : decode cX10_kernel 133 = .ok (.iload 5, 2) := by decide +kernel
theorem dX10_kernel_135 : decode cX10_kernel 135 = .ok (.i2l, 1) := by decide +kernel
theorem dX10_kernel_136 : decode cX10_kernel 136 = .ok (.lmul, 1) := by decide +kernel
theorem dX10_kernel_137 : decode cX10_kernel 137 = .ok (.aload_n 0, 1) := by decide +kernel
theorem dX10_kernel_138 : decode cX10_kernel 138 = .ok (.getfield 78, 3) := by decide +kernel
theorem dX10_kernel_141 : decode cX10_kernel 141 = .ok (.i2l, 1) := by decide +kernel
theorem dX10_kernel_142 : decode cX10_kernel 142 = .ok (.lrem, 1) := by decide +kernel
theorem dX10_kernel_143 : decode cX10_kernel 143 = .ok (.l2i, 1) := by decide +kernel
theorem dX10_kernel_144 : decode cX10_kernel 144 = .ok (.iastore, 1) := by decide +kernel
theorem dX10_kernel_145 : decode cX10_kernel 145 = .ok (.iinc 6 1, 3) := by decide +kernel
theorem dX10_kernel_148 : decode cX10_kernel 148 = .ok (.goto (-75), 3) := by decide +kernel
theorem dX10_kernel_151 : decode cX10_kernel 151 = .ok (.iconst 0, 1) := by decide +kernel
theorem dX10_kernel_152 : decode cX10_kernel 152 = .ok (.istore 6, 2) := by decide +kernel
theorem dX10_kernel_154 : decode cX10_kernel 154 = .ok (.iload 6, 2) := by decide +kernel
theorem dX10_kernel_156 : decode cX10_kernel 156 = .ok (.iload_n 1, 1) := by decide +kernel
theorem dX10_kernel_157 : decode cX10_kernel 157 = .ok (.if_icmp .ge 113, 3) := by decide +kernel
theorem dX10_kernel_160 : decode cX10_kernel 160 = .ok (.iload 6, 2) := by decide +kernel
theorem dX10_kernel_162 : decode cX10_kernel 162 = .ok (.iload_n 2, 1) := by decide +kernel
theorem dX10_kernel_163 : decode cX10_kernel 163 = .ok (.if_icmp .ne 7, 3) := by decide +kernel
theorem dX10_kernel_166 : decode cX10_kernel 166 = .ok (.lconst 0, 1) := by decide +kernel
theorem dX10_kernel_167 : decode cX10_kernel 167 = .ok (.goto 16, 3) := by decide +kernel
theorem dX10_kernel_170 : decode cX10_kernel 170 = .ok (.aload_n 0, 1) := by decide +kernel
theorem dX10_kernel_171 : decode cX10_kernel 171 = .ok (.getfield 63, 3) := by decide +kernel
theorem dX10_kernel_174 : decode cX10_kernel 174 = .ok (.bipush 41, 2) := by decide +kernel
theorem dX10_kernel_176 : decode cX10_kernel 176 = .ok (.iload 6, 2) := by decide +kernel
theorem dX10_kernel_178 : decode cX10_kernel 178 = .ok (.imul, 1) := by decide +kernel
theorem dX10_kernel_179 : decode cX10_kernel 179 = .ok (.iload_n 3, 1) := by decide +kernel
theorem dX10_kernel_180 : decode cX10_kernel 180 = .ok (.iadd, 1) := by decide +kernel
theorem dX10_kernel_181 : decode cX10_kernel 181 = .ok (.iaload, 1) := by decide +kernel
theorem dX10_kernel_182 : decode cX10_kernel 182 = .ok (.i2l, 1) := by decide +kernel
theorem dX10_kernel_183 : decode cX10_kernel 183 = .ok (.lstore 7, 2) := by decide +kernel
theorem dX10_kernel_185 : decode cX10_kernel 185 = .ok (.iconst 0, 1) := by decide +kernel
theorem dX10_kernel_186 : decode cX10_kernel 186 = .ok (.istore 9, 2) := by decide +kernel
theorem dX10_kernel_188 : decode cX10_kernel 188 = .ok (.iload 9, 2) := by decide +kernel
theorem dX10_kernel_190 : decode cX10_kernel 190 = .ok (.iload_n 1, 1) := by decide +kernel
theorem dX10_kernel_191 : decode cX10_kernel 191 = .ok (.if_icmp .ge 73, 3) := by decide +kernel
theorem dX10_kernel_194 : decode cX10_kernel 194 = .ok (.lload 7, 2) := by decide +kernel
theorem dX10_kernel_196 : decode cX10_kernel 196 = .ok (.lconst 0, 1) := by decide +kernel
theorem dX10_kernel_197 : decode cX10_kernel 197 = .ok (.lcmp, 1) := by decide +kernel
theorem dX10_kernel_198 : decode cX10_kernel 198 = .ok (.ifCond .eq 66, 3) := by decide +kernel
theorem dX10_kernel_201 : decode cX10_kernel 201 = .ok (.aload_n 0, 1) := by decide +kernel
theorem dX10_kernel_202 : decode cX10_kernel 202 = .ok (.getfield 63, 3) := by decide +kernel
theorem dX10_kernel_205 : decode cX10_kernel 205 = .ok (.bipush 41, 2) := by decide +kernel
theorem dX10_kernel_207 : decode cX10_kernel 207 = .ok (.iload 6, 2) := by decide +kernel
theorem dX10_kernel_209 : decode cX10_kernel 209 = .ok (.imul, 1) := by decide +kernel
theorem dX10_kernel_210 : decode cX10_kernel 210 = .ok (.iload 9, 2) := by decide +kernel
theorem dX10_kernel_212 : decode cX10_kernel 212 = .ok (.iadd, 1) := by decide +kernel
theorem dX10_kernel_213 : decode cX10_kernel 213 = .ok (.aload_n 0, 1) := by decide +kernel
theorem dX10_kernel_214 : decode cX10_kernel 214 = .ok (.getfield 63, 3) := by decide +kernel
theorem dX10_kernel_217 : decode cX10_kernel 217 = .ok (.bipush 41, 2) := by decide +kernel
theorem dX10_kernel_219 : decode cX10_kernel 219 = .ok (.iload 6, 2) := by decide +kernel
theorem dX10_kernel_221 : decode cX10_kernel 221 = .ok (.imul, 1) := by decide +kernel
theorem dX10_kernel_222 : decode cX10_kernel 222 = .ok (.iload 9, 2) := by decide +kernel
theorem dX10_kernel_224 : decode cX10_kernel 224 = .ok (.iadd, 1) := by decide +kernel
theorem dX10_kernel_225 : decode cX10_kernel 225 = .ok (.iaload, 1) := by decide +kernel
theorem dX10_kernel_226 : decode cX10_kernel 226 = .ok (.i2l, 1) := by decide +kernel
theorem dX10_kernel_227 : decode cX10_kernel 227 = .ok (.aload_n 0, 1) := by decide +kernel
theorem dX10_kernel_228 : decode cX10_kernel 228 = .ok (.getfield 78, 3) := by decide +kernel
theorem dX10_kernel_231 : decode cX10_kernel 231 = .ok (.i2l, 1) := by decide +kernel
theorem dX10_kernel_232 : decode cX10_kernel 232 = .ok (.lload 7, 2) := by decide +kernel
theorem dX10_kernel_234 : decode cX10_kernel 234 = .ok (.lsub, 1) := by decide +kernel
theorem dX10_kernel_235 : decode cX10_kernel 235 = .ok (.aload_n 0, 1) := by decide +kernel
theorem dX10_kernel_236 : decode cX10_kernel 236 = .ok (.getfield 63, 3) := by decide +kernel
theorem dX10_kernel_239 : decode cX10_kernel 239 = .ok (.bipush 41, 2) := by decide +kernel
theorem dX10_kernel_241 : decode cX10_kernel 241 = .ok (.iload_n 2, 1) := by decide +kernel
theorem dX10_kernel_242 : decode cX10_kernel 242 = .ok (.imul, 1) := by decide +kernel
theorem dX10_kernel_243 : decode cX10_kernel 243 = .ok (.iload 9, 2) := by decide +kernel
theorem dX10_kernel_245 : decode cX10_kernel 245 = .ok (.iadd, 1) := by decide +kernel
theorem dX10_kernel_246 : decode cX10_kernel 246 = .ok (.iaload, 1) := by decide +kernel
theorem dX10_kernel_247 : decode cX10_kernel 247 = .ok (.i2l, 1) := by decide +kernel
theorem dX10_kernel_248 : decode cX10_kernel 248 = .ok (.lmul, 1) := by decide +kernel
theorem dX10_kernel_249 : decode cX10_kernel 249 = .ok (.ladd, 1) := by decide +kernel
theorem dX10_kernel_250 : decode cX10_kernel 250 = .ok (.aload_n 0, 1) := by decide +kernel
theorem dX10_kernel_251 : decode cX10_kernel 251 = .ok (.getfield 78, 3) := by decide +kernel
theorem dX10_kernel_254 : decode cX10_kernel 254 = .ok (.i2l, 1) := by decide +kernel
theorem dX10_kernel_255 : decode cX10_kernel 255 = .ok (.lrem, 1) := by decide +kernel
theorem dX10_kernel_256 : decode cX10_kernel 256 = .ok (.l2i, 1) := by decide +kernel
theorem dX10_kernel_257 : decode cX10_kernel 257 = .ok (.iastore, 1) := by decide +kernel
theorem dX10_kernel_258 : decode cX10_kernel 258 = .ok (.iinc 9 1, 3) := by decide +kernel
theorem dX10_kernel_261 : decode cX10_kernel 261 = .ok (.goto (-73), 3) := by decide +kernel
theorem dX10_kernel_264 : decode cX10_kernel 264 = .ok (.iinc 6 1, 3) := by decide +kernel
theorem dX10_kernel_267 : decode cX10_kernel 267 = .ok (.goto (-113), 3) := by decide +kernel
theorem dX10_kernel_270 : decode cX10_kernel 270 = .ok (.aload_n 0, 1) := by decide +kernel
theorem dX10_kernel_271 : decode cX10_kernel 271 = .ok (.getfield 66, 3) := by decide +kernel
theorem dX10_kernel_274 : decode cX10_kernel 274 = .ok (.iload_n 3, 1) := by decide +kernel
theorem dX10_kernel_275 : decode cX10_kernel 275 = .ok (.iload_n 2, 1) := by decide +kernel
theorem dX10_kernel_276 : decode cX10_kernel 276 = .ok (.iastore, 1) := by decide +kernel
theorem dX10_kernel_277 : decode cX10_kernel 277 = .ok (.iinc 2 1, 3) := by decide +kernel
theorem dX10_kernel_280 : decode cX10_kernel 280 = .ok (.iinc 3 1, 3) := by decide +kernel
theorem dX10_kernel_283 : decode cX10_kernel 283 = .ok (.goto (-279), 3) := by decide +kernel
theorem dX10_kernel_286 : decode cX10_kernel 286 = .ok (.iconst 0, 1) := by decide +kernel
theorem dX10_kernel_287 : decode cX10_kernel 287 = .ok (.istore_n 3, 1) := by decide +kernel
theorem dX10_kernel_288 : decode cX10_kernel 288 = .ok (.iconst 0, 1) := by decide +kernel
theorem dX10_kernel_289 : decode cX10_kernel 289 = .ok (.istore 4, 2) := by decide +kernel
theorem dX10_kernel_291 : decode cX10_kernel 291 = .ok (.iload 4, 2) := by decide +kernel
theorem dX10_kernel_293 : decode cX10_kernel 293 = .ok (.iload_n 1, 1) := by decide +kernel
theorem dX10_kernel_294 : decode cX10_kernel 294 = .ok (.if_icmp .ge 108, 3) := by decide +kernel
theorem dX10_kernel_297 : decode cX10_kernel 297 = .ok (.aload_n 0, 1) := by decide +kernel
theorem dX10_kernel_298 : decode cX10_kernel 298 = .ok (.getfield 66, 3) := by decide +kernel
theorem dX10_kernel_301 : decode cX10_kernel 301 = .ok (.iload 4, 2) := by decide +kernel
theorem dX10_kernel_303 : decode cX10_kernel 303 = .ok (.iaload, 1) := by decide +kernel
theorem dX10_kernel_304 : decode cX10_kernel 304 = .ok (.iconst (-1), 1) := by decide +kernel
theorem dX10_kernel_305 : decode cX10_kernel 305 = .ok (.if_icmp .ne 91, 3) := by decide +kernel
theorem dX10_kernel_308 : decode cX10_kernel 308 = .ok (.iconst 0, 1) := by decide +kernel
theorem dX10_kernel_309 : decode cX10_kernel 309 = .ok (.istore 5, 2) := by decide +kernel
theorem dX10_kernel_311 : decode cX10_kernel 311 = .ok (.iload 5, 2) := by decide +kernel
theorem dX10_kernel_313 : decode cX10_kernel 313 = .ok (.iload_n 1, 1) := by decide +kernel
theorem dX10_kernel_314 : decode cX10_kernel 314 = .ok (.if_icmp .ge 79, 3) := by decide +kernel
theorem dX10_kernel_317 : decode cX10_kernel 317 = .ok (.iload 5, 2) := by decide +kernel
theorem dX10_kernel_319 : decode cX10_kernel 319 = .ok (.iload 4, 2) := by decide +kernel
theorem dX10_kernel_321 : decode cX10_kernel 321 = .ok (.if_icmp .ne 7, 3) := by decide +kernel
theorem dX10_kernel_324 : decode cX10_kernel 324 = .ok (.iconst 1, 1) := by decide +kernel
theorem dX10_kernel_325 : decode cX10_kernel 325 = .ok (.goto 46, 3) := by decide +kernel
theorem dX10_kernel_328 : decode cX10_kernel 328 = .ok (.aload_n 0, 1) := by decide +kernel
theorem dX10_kernel_329 : decode cX10_kernel 329 = .ok (.getfield 66, 3) := by decide +kernel
theorem dX10_kernel_332 : decode cX10_kernel 332 = .ok (.iload 5, 2) := by decide +kernel
theorem dX10_kernel_334 : decode cX10_kernel 334 = .ok (.iaload, 1) := by decide +kernel
theorem dX10_kernel_335 : decode cX10_kernel 335 = .ok (.iconst (-1), 1) := by decide +kernel
theorem dX10_kernel_336 : decode cX10_kernel 336 = .ok (.if_icmp .ne 7, 3) := by decide +kernel
theorem dX10_kernel_339 : decode cX10_kernel 339 = .ok (.iconst 0, 1) := by decide +kernel
theorem dX10_kernel_340 : decode cX10_kernel 340 = .ok (.goto 31, 3) := by decide +kernel
theorem dX10_kernel_343 : decode cX10_kernel 343 = .ok (.aload_n 0, 1) := by decide +kernel
theorem dX10_kernel_344 : decode cX10_kernel 344 = .ok (.getfield 78, 3) := by decide +kernel
theorem dX10_kernel_347 : decode cX10_kernel 347 = .ok (.aload_n 0, 1) := by decide +kernel
theorem dX10_kernel_348 : decode cX10_kernel 348 = .ok (.getfield 63, 3) := by decide +kernel
theorem dX10_kernel_351 : decode cX10_kernel 351 = .ok (.bipush 41, 2) := by decide +kernel
theorem dX10_kernel_353 : decode cX10_kernel 353 = .ok (.aload_n 0, 1) := by decide +kernel
theorem dX10_kernel_354 : decode cX10_kernel 354 = .ok (.getfield 66, 3) := by decide +kernel
theorem dX10_kernel_357 : decode cX10_kernel 357 = .ok (.iload 5, 2) := by decide +kernel
theorem dX10_kernel_359 : decode cX10_kernel 359 = .ok (.iaload, 1) := by decide +kernel
theorem dX10_kernel_360 : decode cX10_kernel 360 = .ok (.imul, 1) := by decide +kernel
theorem dX10_kernel_361 : decode cX10_kernel 361 = .ok (.iload 4, 2) := by decide +kernel
theorem dX10_kernel_363 : decode cX10_kernel 363 = .ok (.iadd, 1) := by decide +kernel
theorem dX10_kernel_364 : decode cX10_kernel 364 = .ok (.iaload, 1) := by decide +kernel
theorem dX10_kernel_365 : decode cX10_kernel 365 = .ok (.isub, 1) := by decide +kernel
theorem dX10_kernel_366 : decode cX10_kernel 366 = .ok (.aload_n 0, 1) := by decide +kernel
theorem dX10_kernel_367 : decode cX10_kernel 367 = .ok (.getfield 78, 3) := by decide +kernel
theorem dX10_kernel_370 : decode cX10_kernel 370 = .ok (.irem, 1) := by decide +kernel
theorem dX10_kernel_371 : decode cX10_kernel 371 = .ok (.istore 6, 2) := by decide +kernel
theorem dX10_kernel_373 : decode cX10_kernel 373 = .ok (.aload_n 0, 1) := by decide +kernel
theorem dX10_kernel_374 : decode cX10_kernel 374 = .ok (.getfield 69, 3) := by decide +kernel
theorem dX10_kernel_377 : decode cX10_kernel 377 = .ok (.bipush 41, 2) := by decide +kernel
theorem dX10_kernel_379 : decode cX10_kernel 379 = .ok (.iload_n 3, 1) := by decide +kernel
theorem dX10_kernel_380 : decode cX10_kernel 380 = .ok (.imul, 1) := by decide +kernel
theorem dX10_kernel_381 : decode cX10_kernel 381 = .ok (.iload 5, 2) := by decide +kernel
theorem dX10_kernel_383 : decode cX10_kernel 383 = .ok (.iadd, 1) := by decide +kernel
theorem dX10_kernel_384 : decode cX10_kernel 384 = .ok (.iload 6, 2) := by decide +kernel
theorem dX10_kernel_386 : decode cX10_kernel 386 = .ok (.iastore, 1) := by decide +kernel
theorem dX10_kernel_387 : decode cX10_kernel 387 = .ok (.iinc 5 1, 3) := by decide +kernel
theorem dX10_kernel_390 : decode cX10_kernel 390 = .ok (.goto (-79), 3) := by decide +kernel
theorem dX10_kernel_393 : decode cX10_kernel 393 = .ok (.iinc 3 1, 3) := by decide +kernel
theorem dX10_kernel_396 : decode cX10_kernel 396 = .ok (.iinc 4 1, 3) := by decide +kernel
theorem dX10_kernel_399 : decode cX10_kernel 399 = .ok (.goto (-108), 3) := by decide +kernel
theorem dX10_kernel_402 : decode cX10_kernel 402 = .ok (.iload_n 3, 1) := by decide +kernel
theorem dX10_kernel_403 : decode cX10_kernel 403 = .ok (.ireturn, 1) := by decide +kernel
theorem dX10_found_0 : decode cX10_found 0 = .ok (.iconst 0, 1) := by decide +kernel
theorem dX10_found_1 : decode cX10_found 1 = .ok (.istore_n 2, 1) := by decide +kernel
theorem dX10_found_2 : decode cX10_found 2 = .ok (.iload_n 2, 1) := by decide +kernel
theorem dX10_found_3 : decode cX10_found 3 = .ok (.aload_n 0, 1) := by decide +kernel
theorem dX10_found_4 : decode cX10_found 4 = .ok (.getfield 90, 3) := by decide +kernel
theorem dX10_found_7 : decode cX10_found 7 = .ok (.if_icmp .ge 89, 3) := by decide +kernel
theorem dX10_found_10 : decode cX10_found 10 = .ok (.aload_n 0, 1) := by decide +kernel
theorem dX10_found_11 : decode cX10_found 11 = .ok (.getfield 36, 3) := by decide +kernel
theorem dX10_found_14 : decode cX10_found 14 = .ok (.iload_n 2, 1) := by decide +kernel
theorem dX10_found_15 : decode cX10_found 15 = .ok (.iaload, 1) := by decide +kernel
theorem dX10_found_16 : decode cX10_found 16 = .ok (.aload_n 0, 1) := by decide +kernel
theorem dX10_found_17 : decode cX10_found 17 = .ok (.getfield 26, 3) := by decide +kernel
theorem dX10_found_20 : decode cX10_found 20 = .ok (.iload_n 1, 1) := by decide +kernel
theorem dX10_found_21 : decode cX10_found 21 = .ok (.iaload, 1) := by decide +kernel
theorem dX10_found_22 : decode cX10_found 22 = .ok (.if_icmp .ne 7, 3) := by decide +kernel
theorem dX10_found_25 : decode cX10_found 25 = .ok (.iconst 1, 1) := by decide +kernel
theorem dX10_found_26 : decode cX10_found 26 = .ok (.goto 4, 3) := by decide +kernel
theorem dX10_found_29 : decode cX10_found 29 = .ok (.iconst 0, 1) := by decide +kernel
theorem dX10_found_30 : decode cX10_found 30 = .ok (.istore_n 3, 1) := by decide +kernel
theorem dX10_found_31 : decode cX10_found 31 = .ok (.iconst 0, 1) := by decide +kernel
theorem dX10_found_32 : decode cX10_found 32 = .ok (.istore 4, 2) := by decide +kernel
theorem dX10_found_34 : decode cX10_found 34 = .ok (.iload 4, 2) := by decide +kernel
theorem dX10_found_36 : decode cX10_found 36 = .ok (.bipush 40, 2) := by decide +kernel
theorem dX10_found_38 : decode cX10_found 38 = .ok (.if_icmp .gt 47, 3) := by decide +kernel
theorem dX10_found_41 : decode cX10_found 41 = .ok (.iload_n 3, 1) := by decide +kernel
theorem dX10_found_42 : decode cX10_found 42 = .ok (.ifCond .eq 43, 3) := by decide +kernel
theorem dX10_found_45 : decode cX10_found 45 = .ok (.aload_n 0, 1) := by decide +kernel
theorem dX10_found_46 : decode cX10_found 46 = .ok (.getfield 42, 3) := by decide +kernel
theorem dX10_found_49 : decode cX10_found 49 = .ok (.bipush 41, 2) := by decide +kernel
theorem dX10_found_51 : decode cX10_found 51 = .ok (.iload_n 2, 1) := by decide +kernel
theorem dX10_found_52 : decode cX10_found 52 = .ok (.imul, 1) := by decide +kernel
theorem dX10_found_53 : decode cX10_found 53 = .ok (.iload 4, 2) := by decide +kernel
theorem dX10_found_55 : decode cX10_found 55 = .ok (.iadd, 1) := by decide +kernel
theorem dX10_found_56 : decode cX10_found 56 = .ok (.iaload, 1) := by decide +kernel
theorem dX10_found_57 : decode cX10_found 57 = .ok (.aload_n 0, 1) := by decide +kernel
theorem dX10_found_58 : decode cX10_found 58 = .ok (.getfield 23, 3) := by decide +kernel
theorem dX10_found_61 : decode cX10_found 61 = .ok (.sipush 200, 3) := by decide +kernel
theorem dX10_found_64 : decode cX10_found 64 = .ok (.iload_n 1, 1) := by decide +kernel
theorem dX10_found_65 : decode cX10_found 65 = .ok (.imul, 1) := by decide +kernel
theorem dX10_found_66 : decode cX10_found 66 = .ok (.iload 4, 2) := by decide +kernel
theorem dX10_found_68 : decode cX10_found 68 = .ok (.iadd, 1) := by decide +kernel
theorem dX10_found_69 : decode cX10_found 69 = .ok (.iaload, 1) := by decide +kernel
theorem dX10_found_70 : decode cX10_found 70 = .ok (.if_icmp .ne 7, 3) := by decide +kernel
theorem dX10_found_73 : decode cX10_found 73 = .ok (.iconst 1, 1) := by decide +kernel
theorem dX10_found_74 : decode cX10_found 74 = .ok (.goto 4, 3) := by decide +kernel
theorem dX10_found_77 : decode cX10_found 77 = .ok (.iconst 0, 1) := by decide +kernel
theorem dX10_found_78 : decode cX10_found 78 = .ok (.istore_n 3, 1) := by decide +kernel
theorem dX10_found_79 : decode cX10_found 79 = .ok (.iinc 4 1, 3) := by decide +kernel
theorem dX10_found_82 : decode cX10_found 82 = .ok (.goto (-48), 3) := by decide +kernel
theorem dX10_found_85 : decode cX10_found 85 = .ok (.iload_n 3, 1) := by decide +kernel
theorem dX10_found_86 : decode cX10_found 86 = .ok (.ifCond .eq 4, 3) := by decide +kernel
theorem dX10_found_89 : decode cX10_found 89 = .ok (.return_, 1) := by decide +kernel
theorem dX10_found_90 : decode cX10_found 90 = .ok (.iinc 2 1, 3) := by decide +kernel
theorem dX10_found_93 : decode cX10_found 93 = .ok (.goto (-91), 3) := by decide +kernel
theorem dX10_found_96 : decode cX10_found 96 = .ok (.aload_n 0, 1) := by decide +kernel
theorem dX10_found_97 : decode cX10_found 97 = .ok (.getfield 90, 3) := by decide +kernel
theorem dX10_found_100 : decode cX10_found 100 = .ok (.istore_n 2, 1) := by decide +kernel
theorem dX10_found_101 : decode cX10_found 101 = .ok (.iload_n 2, 1) := by decide +kernel
theorem dX10_found_102 : decode cX10_found 102 = .ok (.ifCond .le 73, 3) := by decide +kernel
theorem dX10_found_105 : decode cX10_found 105 = .ok (.aload_n 0, 1) := by decide +kernel
theorem dX10_found_106 : decode cX10_found 106 = .ok (.iload_n 1, 1) := by decide +kernel
theorem dX10_found_107 : decode cX10_found 107 = .ok (.iload_n 2, 1) := by decide +kernel
theorem dX10_found_108 : decode cX10_found 108 = .ok (.iconst 1, 1) := by decide +kernel
theorem dX10_found_109 : decode cX10_found 109 = .ok (.isub, 1) := by decide +kernel
theorem dX10_found_110 : decode cX10_found 110 = .ok (.invokevirtual 235, 3) := by decide +kernel
theorem dX10_found_113 : decode cX10_found 113 = .ok (.ifCond .eq 62, 3) := by decide +kernel
theorem dX10_found_116 : decode cX10_found 116 = .ok (.aload_n 0, 1) := by decide +kernel
theorem dX10_found_117 : decode cX10_found 117 = .ok (.getfield 36, 3) := by decide +kernel
theorem dX10_found_120 : decode cX10_found 120 = .ok (.iload_n 2, 1) := by decide +kernel
theorem dX10_found_121 : decode cX10_found 121 = .ok (.aload_n 0, 1) := by decide +kernel
theorem dX10_found_122 : decode cX10_found 122 = .ok (.getfield 36, 3) := by decide +kernel
theorem dX10_found_125 : decode cX10_found 125 = .ok (.iload_n 2, 1) := by decide +kernel
theorem dX10_found_126 : decode cX10_found 126 = .ok (.iconst 1, 1) := by decide +kernel
theorem dX10_found_127 : decode cX10_found 127 = .ok (.isub, 1) := by decide +kernel
theorem dX10_found_128 : decode cX10_found 128 = .ok (.iaload, 1) := by decide +kernel
theorem dX10_found_129 : decode cX10_found 129 = .ok (.iastore, 1) := by decide +kernel
theorem dX10_found_130 : decode cX10_found 130 = .ok (.iconst 0, 1) := by decide +kernel
theorem dX10_found_131 : decode cX10_found 131 = .ok (.istore_n 3, 1) := by decide +kernel
theorem dX10_found_132 : decode cX10_found 132 = .ok (.iload_n 3, 1) := by decide +kernel
theorem dX10_found_133 : decode cX10_found 133 = .ok (.bipush 40, 2) := by decide +kernel
theorem dX10_found_135 : decode cX10_found 135 = .ok (.if_icmp .gt 34, 3) := by decide +kernel
theorem dX10_found_138 : decode cX10_found 138 = .ok (.aload_n 0, 1) := by decide +kernel
theorem dX10_found_139 : decode cX10_found 139 = .ok (.getfield 42, 3) := by decide +kernel
theorem dX10_found_142 : decode cX10_found 142 = .ok (.bipush 41, 2) := by decide +kernel
theorem dX10_found_144 : decode cX10_found 144 = .ok (.iload_n 2, 1) := by decide +kernel
theorem dX10_found_145 : decode cX10_found 145 = .ok (.imul, 1) := by decide +kernel
theorem dX10_found_146 : decode cX10_found 146 = .ok (.iload_n 3, 1) := by decide +kernel
theorem dX10_found_147 : decode cX10_found 147 = .ok (.iadd, 1) := by decide +kernel
theorem dX10_found_148 : decode cX10_found 148 = .ok (.aload_n 0, 1) := by decide +kernel
theorem dX10_found_149 : decode cX10_found 149 = .ok (.getfield 42, 3) := by decide +kernel
theorem dX10_found_152 : decode cX10_found 152 = .ok (.bipush 41, 2) := by decide +kernel
theorem dX10_found_154 : decode cX10_found 154 = .ok (.iload_n 2, 1) := by decide +kernel
theorem dX10_found_155 : decode cX10_found 155 = .ok (.imul, 1) := by decide +kernel
theorem dX10_found_156 : decode cX10_found 156 = .ok (.bipush 41, 2) := by decide +kernel
theorem dX10_found_158 : decode cX10_found 158 = .ok (.isub, 1) := by decide +kernel
theorem dX10_found_159 : decode cX10_found 159 = .ok (.iload_n 3, 1) := by decide +kernel
theorem dX10_found_160 : decode cX10_found 160 = .ok (.iadd, 1) := by decide +kernel
theorem dX10_found_161 : decode cX10_found 161 = .ok (.iaload, 1) := by decide +kernel
theorem dX10_found_162 : decode cX10_found 162 = .ok (.iastore, 1) := by decide +kernel
theorem dX10_found_163 : decode cX10_found 163 = .ok (.iinc 3 1, 3) := by decide +kernel
theorem dX10_found_166 : decode cX10_found 166 = .ok (.goto (-34), 3) := by decide +kernel
theorem dX10_found_169 : decode cX10_found 169 = .ok (.iinc 2 (-1), 3) := by decide +kernel
theorem dX10_found_172 : decode cX10_found 172 = .ok (.goto (-71), 3) := by decide +kernel
theorem dX10_found_175 : decode cX10_found 175 = .ok (.aload_n 0, 1) := by decide +kernel
theorem dX10_found_176 : decode cX10_found 176 = .ok (.getfield 36, 3) := by decide +kernel
theorem dX10_found_179 : decode cX10_found 179 = .ok (.iload_n 2, 1) := by decide +kernel
theorem dX10_found_180 : decode cX10_found 180 = .ok (.aload_n 0, 1) := by decide +kernel
theorem dX10_found_181 : decode cX10_found 181 = .ok (.getfield 26, 3) := by decide +kernel
theorem dX10_found_184 : decode cX10_found 184 = .ok (.iload_n 1, 1) := by decide +kernel
theorem dX10_found_185 : decode cX10_found 185 = .ok (.iaload, 1) := by decide +kernel
theorem dX10_found_186 : decode cX10_found 186 = .ok (.iastore, 1) := by decide +kernel
theorem dX10_found_187 : decode cX10_found 187 = .ok (.iconst 0, 1) := by decide +kernel
theorem dX10_found_188 : decode cX10_found 188 = .ok (.istore_n 3, 1) := by decide +kernel
theorem dX10_found_189 : decode cX10_found 189 = .ok (.iload_n 3, 1) := by decide +kernel
theorem dX10_found_190 : decode cX10_found 190 = .ok (.bipush 40, 2) := by decide +kernel
theorem dX10_found_192 : decode cX10_found 192 = .ok (.if_icmp .gt 32, 3) := by decide +kernel
theorem dX10_found_195 : decode cX10_found 195 = .ok (.aload_n 0, 1) := by decide +kernel
theorem dX10_found_196 : decode cX10_found 196 = .ok (.getfield 42, 3) := by decide +kernel
theorem dX10_found_199 : decode cX10_found 199 = .ok (.bipush 41, 2) := by decide +kernel
theorem dX10_found_201 : decode cX10_found 201 = .ok (.iload_n 2, 1) := by decide +kernel
theorem dX10_found_202 : decode cX10_found 202 = .ok (.imul, 1) := by decide +kernel
theorem dX10_found_203 : decode cX10_found 203 = .ok (.iload_n 3, 1) := by decide +kernel
theorem dX10_found_204 : decode cX10_found 204 = .ok (.iadd, 1) := by decide +kernel
theorem dX10_found_205 : decode cX10_found 205 = .ok (.aload_n 0, 1) := by decide +kernel
theorem dX10_found_206 : decode cX10_found 206 = .ok (.getfield 23, 3) := by decide +kernel
theorem dX10_found_209 : decode cX10_found 209 = .ok (.sipush 200, 3) := by decide +kernel
theorem dX10_found_212 : decode cX10_found 212 = .ok (.iload_n 1, 1) := by decide +kernel
theorem dX10_found_213 : decode cX10_found 213 = .ok (.imul, 1) := by decide +kernel
theorem dX10_found_214 : decode cX10_found 214 = .ok (.iload_n 3, 1) := by decide +kernel
