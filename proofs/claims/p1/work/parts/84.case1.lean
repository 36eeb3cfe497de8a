/-! THE LAW'S CASES, 1 -/
theorem dL_law_252 : decode cL_law 252 = .ok (.aload_n 1, 1) := dqo_43 (kb_3 60 rfl)
theorem dL_law_253 : decode cL_law 253 = .ok (.aload_n 0, 1) := dqo_42 (kb_3 61 rfl)
theorem dL_law_254 : decode cL_law 254 = .ok (.iload 4, 2) := dqo_21 4 (kb_3 62 rfl) (kb_3 63 rfl)
theorem dL_law_256 : decode cL_law 256 = .ok (.iconst 1, 1) := dqo_4 (kb_4 0 rfl)
theorem dL_law_257 : decode cL_law 257 = .ok (.iadd, 1) := dqo_96 (kb_4 1 rfl)
theorem dL_law_258 : decode cL_law 258 = .ok (.iaload, 1) := dqo_46 (kb_4 2 rfl)
theorem dL_law_259 : decode cL_law 259 = .ok (.aload_n 0, 1) := dqo_42 (kb_4 3 rfl)
theorem dL_law_260 : decode cL_law 260 = .ok (.iload 4, 2) := dqo_21 4 (kb_4 4 rfl) (kb_4 5 rfl)
theorem dL_law_262 : decode cL_law 262 = .ok (.iconst 2, 1) := dqo_5 (kb_4 6 rfl)
theorem dL_law_263 : decode cL_law 263 = .ok (.iadd, 1) := dqo_96 (kb_4 7 rfl)
theorem dL_law_264 : decode cL_law 264 = .ok (.iaload, 1) := dqo_46 (kb_4 8 rfl)
theorem dL_law_265 : decode cL_law 265 = .ok (.aload_n 3, 1) := dqo_45 (kb_4 9 rfl)
theorem dL_law_266 : decode cL_law 266 = .ok (.invokestatic 175, 3) := dqo_184 0 175 (kb_4 10 rfl) (kb_4 11 rfl) (kb_4 12 rfl)
theorem dL_law_269 : decode cL_law 269 = .ok (.istore 5, 2) := dqo_54 5 (kb_4 13 rfl) (kb_4 14 rfl)
theorem dL_law_271 : decode cL_law 271 = .ok (.aload_n 2, 1) := dqo_44 (kb_4 15 rfl)
theorem dL_law_272 : decode cL_law 272 = .ok (.aload_n 0, 1) := dqo_42 (kb_4 16 rfl)
theorem dL_law_273 : decode cL_law 273 = .ok (.iload 4, 2) := dqo_21 4 (kb_4 17 rfl) (kb_4 18 rfl)
theorem dL_law_275 : decode cL_law 275 = .ok (.iconst 1, 1) := dqo_4 (kb_4 19 rfl)
theorem dL_law_276 : decode cL_law 276 = .ok (.iadd, 1) := dqo_96 (kb_4 20 rfl)
theorem dL_law_277 : decode cL_law 277 = .ok (.iaload, 1) := dqo_46 (kb_4 21 rfl)
theorem dL_law_278 : decode cL_law 278 = .ok (.aload_n 0, 1) := dqo_42 (kb_4 22 rfl)
theorem dL_law_279 : decode cL_law 279 = .ok (.iload 4, 2) := dqo_21 4 (kb_4 23 rfl) (kb_4 24 rfl)
theorem dL_law_281 : decode cL_law 281 = .ok (.iconst 2, 1) := dqo_5 (kb_4 25 rfl)
theorem dL_law_282 : decode cL_law 282 = .ok (.iadd, 1) := dqo_96 (kb_4 26 rfl)
theorem dL_law_283 : decode cL_law 283 = .ok (.iaload, 1) := dqo_46 (kb_4 27 rfl)
theorem dL_law_284 : decode cL_law 284 = .ok (.invokevirtual 180, 3) := dqo_182 0 180 (kb_4 28 rfl) (kb_4 29 rfl) (kb_4 30 rfl)
theorem dL_law_287 : decode cL_law 287 = .ok (.istore 6, 2) := dqo_54 6 (kb_4 31 rfl) (kb_4 32 rfl)
theorem dL_law_289 : decode cL_law 289 = .ok (.aload_n 2, 1) := dqo_44 (kb_4 33 rfl)
theorem dL_law_290 : decode cL_law 290 = .ok (.invokevirtual 181, 3) := dqo_182 0 181 (kb_4 34 rfl) (kb_4 35 rfl) (kb_4 36 rfl)
theorem dL_law_293 : decode cL_law 293 = .ok (.iload 5, 2) := dqo_21 5 (kb_4 37 rfl) (kb_4 38 rfl)
theorem dL_law_295 : decode cL_law 295 = .ok (.if_icmp .eq 5, 3) := dqo_159 0 5 (by decide) (kb_4 39 rfl) (kb_4 40 rfl) (kb_4 41 rfl)
theorem dL_law_300 : decode cL_law 300 = .ok (.iload 5, 2) := dqo_21 5 (kb_4 44 rfl) (kb_4 45 rfl)
theorem dL_law_302 : decode cL_law 302 = .ok (.ifCond .ne 16, 3) := dqo_154 0 16 (by decide) (kb_4 46 rfl) (kb_4 47 rfl) (kb_4 48 rfl)
theorem dL_law_305 : decode cL_law 305 = .ok (.aload_n 3, 1) := dqo_45 (kb_4 49 rfl)
theorem dL_law_306 : decode cL_law 306 = .ok (.getfield 13, 3) := dqo_180 0 13 (kb_4 50 rfl) (kb_4 51 rfl) (kb_4 52 rfl)
theorem dL_law_309 : decode cL_law 309 = .ok (.iload 6, 2) := dqo_21 6 (kb_4 53 rfl) (kb_4 54 rfl)
theorem dL_law_311 : decode cL_law 311 = .ok (.i2l, 1) := dqo_133 (kb_4 55 rfl)
theorem dL_law_312 : decode cL_law 312 = .ok (.lcmp, 1) := dqo_148 (kb_4 56 rfl)
theorem dL_law_313 : decode cL_law 313 = .ok (.ifCond .eq 5, 3) := dqo_153 0 5 (by decide) (kb_4 57 rfl) (kb_4 58 rfl) (kb_4 59 rfl)
theorem dL_law_318 : decode cL_law 318 = .ok (.goto 3138, 3) := dqo_167 12 66 (by decide) (kb_4 62 rfl) (kb_4 63 rfl) (kb_5 0 rfl)
theorem dL_law_321 : decode cL_law 321 = .ok (.aload_n 1, 1) := dqo_43 (kb_5 1 rfl)
theorem dL_law_322 : decode cL_law 322 = .ok (.aload_n 0, 1) := dqo_42 (kb_5 2 rfl)
theorem dL_law_323 : decode cL_law 323 = .ok (.iload 4, 2) := dqo_21 4 (kb_5 3 rfl) (kb_5 4 rfl)
theorem dL_law_325 : decode cL_law 325 = .ok (.iconst 1, 1) := dqo_4 (kb_5 5 rfl)
theorem dL_law_326 : decode cL_law 326 = .ok (.iadd, 1) := dqo_96 (kb_5 6 rfl)
theorem dL_law_327 : decode cL_law 327 = .ok (.iaload, 1) := dqo_46 (kb_5 7 rfl)
theorem dL_law_328 : decode cL_law 328 = .ok (.aload_n 0, 1) := dqo_42 (kb_5 8 rfl)
theorem dL_law_329 : decode cL_law 329 = .ok (.iload 4, 2) := dqo_21 4 (kb_5 9 rfl) (kb_5 10 rfl)
theorem dL_law_331 : decode cL_law 331 = .ok (.iconst 2, 1) := dqo_5 (kb_5 11 rfl)
theorem dL_law_332 : decode cL_law 332 = .ok (.iadd, 1) := dqo_96 (kb_5 12 rfl)
theorem dL_law_333 : decode cL_law 333 = .ok (.iaload, 1) := dqo_46 (kb_5 13 rfl)
theorem dL_law_334 : decode cL_law 334 = .ok (.aload_n 0, 1) := dqo_42 (kb_5 14 rfl)
theorem dL_law_335 : decode cL_law 335 = .ok (.iload 4, 2) := dqo_21 4 (kb_5 15 rfl) (kb_5 16 rfl)
theorem dL_law_337 : decode cL_law 337 = .ok (.iconst 3, 1) := dqo_6 (kb_5 17 rfl)
theorem dL_law_338 : decode cL_law 338 = .ok (.iadd, 1) := dqo_96 (kb_5 18 rfl)
theorem dL_law_339 : decode cL_law 339 = .ok (.iaload, 1) := dqo_46 (kb_5 19 rfl)
theorem dL_law_340 : decode cL_law 340 = .ok (.aload_n 3, 1) := dqo_45 (kb_5 20 rfl)
theorem dL_law_341 : decode cL_law 341 = .ok (.invokestatic 185, 3) := dqo_184 0 185 (kb_5 21 rfl) (kb_5 22 rfl) (kb_5 23 rfl)
theorem dL_law_344 : decode cL_law 344 = .ok (.istore 5, 2) := dqo_54 5 (kb_5 24 rfl) (kb_5 25 rfl)
theorem dL_law_346 : decode cL_law 346 = .ok (.aload_n 2, 1) := dqo_44 (kb_5 26 rfl)
theorem dL_law_347 : decode cL_law 347 = .ok (.aload_n 0, 1) := dqo_42 (kb_5 27 rfl)
theorem dL_law_348 : decode cL_law 348 = .ok (.iload 4, 2) := dqo_21 4 (kb_5 28 rfl) (kb_5 29 rfl)
theorem dL_law_350 : decode cL_law 350 = .ok (.iconst 1, 1) := dqo_4 (kb_5 30 rfl)
theorem dL_law_351 : decode cL_law 351 = .ok (.iadd, 1) := dqo_96 (kb_5 31 rfl)
theorem dL_law_352 : decode cL_law 352 = .ok (.iaload, 1) := dqo_46 (kb_5 32 rfl)
theorem dL_law_353 : decode cL_law 353 = .ok (.aload_n 0, 1) := dqo_42 (kb_5 33 rfl)
theorem dL_law_354 : decode cL_law 354 = .ok (.iload 4, 2) := dqo_21 4 (kb_5 34 rfl) (kb_5 35 rfl)
theorem dL_law_356 : decode cL_law 356 = .ok (.iconst 2, 1) := dqo_5 (kb_5 36 rfl)
theorem dL_law_357 : decode cL_law 357 = .ok (.iadd, 1) := dqo_96 (kb_5 37 rfl)
theorem dL_law_358 : decode cL_law 358 = .ok (.iaload, 1) := dqo_46 (kb_5 38 rfl)
theorem dL_law_359 : decode cL_law 359 = .ok (.aload_n 0, 1) := dqo_42 (kb_5 39 rfl)
theorem dL_law_360 : decode cL_law 360 = .ok (.iload 4, 2) := dqo_21 4 (kb_5 40 rfl) (kb_5 41 rfl)
theorem dL_law_362 : decode cL_law 362 = .ok (.iconst 3, 1) := dqo_6 (kb_5 42 rfl)
theorem dL_law_363 : decode cL_law 363 = .ok (.iadd, 1) := dqo_96 (kb_5 43 rfl)
theorem dL_law_364 : decode cL_law 364 = .ok (.iaload, 1) := dqo_46 (kb_5 44 rfl)
theorem dL_law_365 : decode cL_law 365 = .ok (.invokevirtual 188, 3) := dqo_182 0 188 (kb_5 45 rfl) (kb_5 46 rfl) (kb_5 47 rfl)
theorem dL_law_368 : decode cL_law 368 = .ok (.istore 6, 2) := dqo_54 6 (kb_5 48 rfl) (kb_5 49 rfl)
theorem dL_law_370 : decode cL_law 370 = .ok (.aload_n 2, 1) := dqo_44 (kb_5 50 rfl)
theorem dL_law_371 : decode cL_law 371 = .ok (.invokevirtual 181, 3) := dqo_182 0 181 (kb_5 51 rfl) (kb_5 52 rfl) (kb_5 53 rfl)
theorem dL_law_374 : decode cL_law 374 = .ok (.iload 5, 2) := dqo_21 5 (kb_5 54 rfl) (kb_5 55 rfl)
theorem dL_law_376 : decode cL_law 376 = .ok (.if_icmp .eq 5, 3) := dqo_159 0 5 (by decide) (kb_5 56 rfl) (kb_5 57 rfl) (kb_5 58 rfl)
theorem dL_law_381 : decode cL_law 381 = .ok (.iload 5, 2) := dqo_21 5 (kb_5 61 rfl) (kb_5 62 rfl)
theorem dL_law_383 : decode cL_law 383 = .ok (.ifCond .ne 16, 3) := dqo_154 0 16 (by decide) (kb_5 63 rfl) (kb_6 0 rfl) (kb_6 1 rfl)
theorem dL_law_386 : decode cL_law 386 = .ok (.aload_n 3, 1) := dqo_45 (kb_6 2 rfl)
theorem dL_law_387 : decode cL_law 387 = .ok (.getfield 13, 3) := dqo_180 0 13 (kb_6 3 rfl) (kb_6 4 rfl) (kb_6 5 rfl)
theorem dL_law_390 : decode cL_law 390 = .ok (.iload 6, 2) := dqo_21 6 (kb_6 6 rfl) (kb_6 7 rfl)
theorem dL_law_392 : decode cL_law 392 = .ok (.i2l, 1) := dqo_133 (kb_6 8 rfl)
theorem dL_law_393 : decode cL_law 393 = .ok (.lcmp, 1) := dqo_148 (kb_6 9 rfl)
theorem dL_law_394 : decode cL_law 394 = .ok (.ifCond .eq 5, 3) := dqo_153 0 5 (by decide) (kb_6 10 rfl) (kb_6 11 rfl) (kb_6 12 rfl)
theorem dL_law_399 : decode cL_law 399 = .ok (.goto 3057, 3) := dqo_167 11 241 (by decide) (kb_6 15 rfl) (kb_6 16 rfl) (kb_6 17 rfl)
theorem dL_law_402 : decode cL_law 402 = .ok (.aload_n 1, 1) := dqo_43 (kb_6 18 rfl)
theorem dL_law_403 : decode cL_law 403 = .ok (.aload_n 0, 1) := dqo_42 (kb_6 19 rfl)
theorem dL_law_404 : decode cL_law 404 = .ok (.iload 4, 2) := dqo_21 4 (kb_6 20 rfl) (kb_6 21 rfl)
theorem dL_law_406 : decode cL_law 406 = .ok (.iconst 1, 1) := dqo_4 (kb_6 22 rfl)
theorem dL_law_407 : decode cL_law 407 = .ok (.iadd, 1) := dqo_96 (kb_6 23 rfl)
theorem dL_law_408 : decode cL_law 408 = .ok (.iaload, 1) := dqo_46 (kb_6 24 rfl)
theorem dL_law_409 : decode cL_law 409 = .ok (.aload_n 0, 1) := dqo_42 (kb_6 25 rfl)
theorem dL_law_410 : decode cL_law 410 = .ok (.iload 4, 2) := dqo_21 4 (kb_6 26 rfl) (kb_6 27 rfl)
theorem dL_law_412 : decode cL_law 412 = .ok (.iconst 2, 1) := dqo_5 (kb_6 28 rfl)
theorem dL_law_413 : decode cL_law 413 = .ok (.iadd, 1) := dqo_96 (kb_6 29 rfl)
theorem dL_law_414 : decode cL_law 414 = .ok (.iaload, 1) := dqo_46 (kb_6 30 rfl)
theorem dL_law_415 : decode cL_law 415 = .ok (.aload_n 0, 1) := dqo_42 (kb_6 31 rfl)
theorem dL_law_416 : decode cL_law 416 = .ok (.iload 4, 2) := dqo_21 4 (kb_6 32 rfl) (kb_6 33 rfl)
theorem dL_law_418 : decode cL_law 418 = .ok (.iconst 3, 1) := dqo_6 (kb_6 34 rfl)
theorem dL_law_419 : decode cL_law 419 = .ok (.iadd, 1) := dqo_96 (kb_6 35 rfl)
theorem dL_law_420 : decode cL_law 420 = .ok (.iaload, 1) := dqo_46 (kb_6 36 rfl)
theorem dL_law_421 : decode cL_law 421 = .ok (.aload_n 3, 1) := dqo_45 (kb_6 37 rfl)
theorem dL_law_422 : decode cL_law 422 = .ok (.invokestatic 189, 3) := dqo_184 0 189 (kb_6 38 rfl) (kb_6 39 rfl) (kb_6 40 rfl)
theorem dL_law_425 : decode cL_law 425 = .ok (.istore 5, 2) := dqo_54 5 (kb_6 41 rfl) (kb_6 42 rfl)
theorem dL_law_427 : decode cL_law 427 = .ok (.aload_n 2, 1) := dqo_44 (kb_6 43 rfl)
theorem dL_law_428 : decode cL_law 428 = .ok (.aload_n 0, 1) := dqo_42 (kb_6 44 rfl)
theorem dL_law_429 : decode cL_law 429 = .ok (.iload 4, 2) := dqo_21 4 (kb_6 45 rfl) (kb_6 46 rfl)
theorem dL_law_431 : decode cL_law 431 = .ok (.iconst 1, 1) := dqo_4 (kb_6 47 rfl)
theorem dL_law_432 : decode cL_law 432 = .ok (.iadd, 1) := dqo_96 (kb_6 48 rfl)
theorem dL_law_433 : decode cL_law 433 = .ok (.iaload, 1) := dqo_46 (kb_6 49 rfl)
theorem dL_law_434 : decode cL_law 434 = .ok (.aload_n 0, 1) := dqo_42 (kb_6 50 rfl)
theorem dL_law_435 : decode cL_law 435 = .ok (.iload 4, 2) := dqo_21 4 (kb_6 51 rfl) (kb_6 52 rfl)
theorem dL_law_437 : decode cL_law 437 = .ok (.iconst 2, 1) := dqo_5 (kb_6 53 rfl)
theorem dL_law_438 : decode cL_law 438 = .ok (.iadd, 1) := dqo_96 (kb_6 54 rfl)
theorem dL_law_439 : decode cL_law 439 = .ok (.iaload, 1) := dqo_46 (kb_6 55 rfl)
theorem dL_law_440 : decode cL_law 440 = .ok (.aload_n 0, 1) := dqo_42 (kb_6 56 rfl)
theorem dL_law_441 : decode cL_law 441 = .ok (.iload 4, 2) := dqo_21 4 (kb_6 57 rfl) (kb_6 58 rfl)
theorem dL_law_443 : decode cL_law 443 = .ok (.iconst 3, 1) := dqo_6 (kb_6 59 rfl)
theorem dL_law_444 : decode cL_law 444 = .ok (.iadd, 1) := dqo_96 (kb_6 60 rfl)
theorem dL_law_445 : decode cL_law 445 = .ok (.iaload, 1) := dqo_46 (kb_6 61 rfl)
theorem dL_law_446 : decode cL_law 446 = .ok (.invokevirtual 191, 3) := dqo_182 0 191 (kb_6 62 rfl) (kb_6 63 rfl) (kb_7 0 rfl)
theorem dL_law_449 : decode cL_law 449 = .ok (.istore 6, 2) := dqo_54 6 (kb_7 1 rfl) (kb_7 2 rfl)
theorem dL_law_451 : decode cL_law 451 = .ok (.aload_n 2, 1) := dqo_44 (kb_7 3 rfl)
theorem dL_law_452 : decode cL_law 452 = .ok (.invokevirtual 181, 3) := dqo_182 0 181 (kb_7 4 rfl) (kb_7 5 rfl) (kb_7 6 rfl)
theorem dL_law_455 : decode cL_law 455 = .ok (.iload 5, 2) := dqo_21 5 (kb_7 7 rfl) (kb_7 8 rfl)
theorem dL_law_457 : decode cL_law 457 = .ok (.if_icmp .eq 5, 3) := dqo_159 0 5 (by decide) (kb_7 9 rfl) (kb_7 10 rfl) (kb_7 11 rfl)
theorem dL_law_462 : decode cL_law 462 = .ok (.iload 5, 2) := dqo_21 5 (kb_7 14 rfl) (kb_7 15 rfl)
theorem dL_law_464 : decode cL_law 464 = .ok (.ifCond .ne 16, 3) := dqo_154 0 16 (by decide) (kb_7 16 rfl) (kb_7 17 rfl) (kb_7 18 rfl)
theorem dL_law_467 : decode cL_law 467 = .ok (.aload_n 3, 1) := dqo_45 (kb_7 19 rfl)
theorem dL_law_468 : decode cL_law 468 = .ok (.getfield 13, 3) := dqo_180 0 13 (kb_7 20 rfl) (kb_7 21 rfl) (kb_7 22 rfl)
theorem dL_law_471 : decode cL_law 471 = .ok (.iload 6, 2) := dqo_21 6 (kb_7 23 rfl) (kb_7 24 rfl)
theorem dL_law_473 : decode cL_law 473 = .ok (.i2l, 1) := dqo_133 (kb_7 25 rfl)
theorem dL_law_474 : decode cL_law 474 = .ok (.lcmp, 1) := dqo_148 (kb_7 26 rfl)
theorem dL_law_475 : decode cL_law 475 = .ok (.ifCond .eq 5, 3) := dqo_153 0 5 (by decide) (kb_7 27 rfl) (kb_7 28 rfl) (kb_7 29 rfl)
theorem dL_law_480 : decode cL_law 480 = .ok (.goto 2976, 3) := dqo_167 11 160 (by decide) (kb_7 32 rfl) (kb_7 33 rfl) (kb_7 34 rfl)
theorem dL_law_483 : decode cL_law 483 = .ok (.aload_n 1, 1) := dqo_43 (kb_7 35 rfl)
theorem dL_law_484 : decode cL_law 484 = .ok (.aload_n 0, 1) := dqo_42 (kb_7 36 rfl)
theorem dL_law_485 : decode cL_law 485 = .ok (.iload 4, 2) := dqo_21 4 (kb_7 37 rfl) (kb_7 38 rfl)
theorem dL_law_487 : decode cL_law 487 = .ok (.iconst 1, 1) := dqo_4 (kb_7 39 rfl)
theorem dL_law_488 : decode cL_law 488 = .ok (.iadd, 1) := dqo_96 (kb_7 40 rfl)
theorem dL_law_489 : decode cL_law 489 = .ok (.iaload, 1) := dqo_46 (kb_7 41 rfl)
theorem dL_law_490 : decode cL_law 490 = .ok (.aload_n 0, 1) := dqo_42 (kb_7 42 rfl)
theorem dL_law_491 : decode cL_law 491 = .ok (.iload 4, 2) := dqo_21 4 (kb_7 43 rfl) (kb_7 44 rfl)
theorem dL_law_493 : decode cL_law 493 = .ok (.iconst 2, 1) := dqo_5 (kb_7 45 rfl)
theorem dL_law_494 : decode cL_law 494 = .ok (.iadd, 1) := dqo_96 (kb_7 46 rfl)
theorem dL_law_495 : decode cL_law 495 = .ok (.iaload, 1) := dqo_46 (kb_7 47 rfl)
theorem dL_law_496 : decode cL_law 496 = .ok (.aload_n 3, 1) := dqo_45 (kb_7 48 rfl)
theorem dL_law_497 : decode cL_law 497 = .ok (.invokestatic 192, 3) := dqo_184 0 192 (kb_7 49 rfl) (kb_7 50 rfl) (kb_7 51 rfl)
theorem dL_law_500 : decode cL_law 500 = .ok (.istore 5, 2) := dqo_54 5 (kb_7 52 rfl) (kb_7 53 rfl)
theorem dL_law_502 : decode cL_law 502 = .ok (.aload_n 2, 1) := dqo_44 (kb_7 54 rfl)
theorem dL_law_503 : decode cL_law 503 = .ok (.aload_n 0, 1) := dqo_42 (kb_7 55 rfl)
theorem dL_law_504 : decode cL_law 504 = .ok (.iload 4, 2) := dqo_21 4 (kb_7 56 rfl) (kb_7 57 rfl)
theorem dL_law_506 : decode cL_law 506 = .ok (.iconst 1, 1) := dqo_4 (kb_7 58 rfl)
theorem dL_law_507 : decode cL_law 507 = .ok (.iadd, 1) := dqo_96 (kb_7 59 rfl)
theorem dL_law_508 : decode cL_law 508 = .ok (.iaload, 1) := dqo_46 (kb_7 60 rfl)
theorem dL_law_509 : decode cL_law 509 = .ok (.aload_n 0, 1) := dqo_42 (kb_7 61 rfl)
theorem dL_law_510 : decode cL_law 510 = .ok (.iload 4, 2) := dqo_21 4 (kb_7 62 rfl) (kb_7 63 rfl)
theorem dL_law_512 : decode cL_law 512 = .ok (.iconst 2, 1) := dqo_5 (kb_8 0 rfl)
theorem dL_law_513 : decode cL_law 513 = .ok (.iadd, 1) := dqo_96 (kb_8 1 rfl)
theorem dL_law_514 : decode cL_law 514 = .ok (.iaload, 1) := dqo_46 (kb_8 2 rfl)
theorem dL_law_515 : decode cL_law 515 = .ok (.invokevirtual 194, 3) := dqo_182 0 194 (kb_8 3 rfl) (kb_8 4 rfl) (kb_8 5 rfl)
theorem dL_law_518 : decode cL_law 518 = .ok (.istore 6, 2) := dqo_54 6 (kb_8 6 rfl) (kb_8 7 rfl)
theorem dL_law_520 : decode cL_law 520 = .ok (.aload_n 2, 1) := dqo_44 (kb_8 8 rfl)
theorem dL_law_521 : decode cL_law 521 = .ok (.invokevirtual 181, 3) := dqo_182 0 181 (kb_8 9 rfl) (kb_8 10 rfl) (kb_8 11 rfl)
theorem dL_law_524 : decode cL_law 524 = .ok (.iload 5, 2) := dqo_21 5 (kb_8 12 rfl) (kb_8 13 rfl)
theorem dL_law_526 : decode cL_law 526 = .ok (.if_icmp .eq 5, 3) := dqo_159 0 5 (by decide) (kb_8 14 rfl) (kb_8 15 rfl) (kb_8 16 rfl)
theorem dL_law_531 : decode cL_law 531 = .ok (.iload 5, 2) := dqo_21 5 (kb_8 19 rfl) (kb_8 20 rfl)
theorem dL_law_533 : decode cL_law 533 = .ok (.ifCond .ne 16, 3) := dqo_154 0 16 (by decide) (kb_8 21 rfl) (kb_8 22 rfl) (kb_8 23 rfl)
theorem dL_law_536 : decode cL_law 536 = .ok (.aload_n 3, 1) := dqo_45 (kb_8 24 rfl)
theorem dL_law_537 : decode cL_law 537 = .ok (.getfield 13, 3) := dqo_180 0 13 (kb_8 25 rfl) (kb_8 26 rfl) (kb_8 27 rfl)
theorem dL_law_540 : decode cL_law 540 = .ok (.iload 6, 2) := dqo_21 6 (kb_8 28 rfl) (kb_8 29 rfl)
theorem dL_law_542 : decode cL_law 542 = .ok (.i2l, 1) := dqo_133 (kb_8 30 rfl)
theorem dL_law_543 : decode cL_law 543 = .ok (.lcmp, 1) := dqo_148 (kb_8 31 rfl)
theorem dL_law_544 : decode cL_law 544 = .ok (.ifCond .eq 5, 3) := dqo_153 0 5 (by decide) (kb_8 32 rfl) (kb_8 33 rfl) (kb_8 34 rfl)
theorem dL_law_549 : decode cL_law 549 = .ok (.goto 2907, 3) := dqo_167 11 91 (by decide) (kb_8 37 rfl) (kb_8 38 rfl) (kb_8 39 rfl)
theorem dL_law_552 : decode cL_law 552 = .ok (.aload_n 1, 1) := dqo_43 (kb_8 40 rfl)
theorem dL_law_553 : decode cL_law 553 = .ok (.aload_n 0, 1) := dqo_42 (kb_8 41 rfl)
theorem dL_law_554 : decode cL_law 554 = .ok (.iload 4, 2) := dqo_21 4 (kb_8 42 rfl) (kb_8 43 rfl)
theorem dL_law_556 : decode cL_law 556 = .ok (.iconst 1, 1) := dqo_4 (kb_8 44 rfl)
theorem dL_law_557 : decode cL_law 557 = .ok (.iadd, 1) := dqo_96 (kb_8 45 rfl)
theorem dL_law_558 : decode cL_law 558 = .ok (.iaload, 1) := dqo_46 (kb_8 46 rfl)
theorem dL_law_559 : decode cL_law 559 = .ok (.aload_n 3, 1) := dqo_45 (kb_8 47 rfl)
theorem dL_law_560 : decode cL_law 560 = .ok (.invokestatic 195, 3) := dqo_184 0 195 (kb_8 48 rfl) (kb_8 49 rfl) (kb_8 50 rfl)
theorem dL_law_563 : decode cL_law 563 = .ok (.istore 5, 2) := dqo_54 5 (kb_8 51 rfl) (kb_8 52 rfl)
theorem dL_law_565 : decode cL_law 565 = .ok (.aload_n 2, 1) := dqo_44 (kb_8 53 rfl)
theorem dL_law_566 : decode cL_law 566 = .ok (.aload_n 0, 1) := dqo_42 (kb_8 54 rfl)
theorem dL_law_567 : decode cL_law 567 = .ok (.iload 4, 2) := dqo_21 4 (kb_8 55 rfl) (kb_8 56 rfl)
theorem dL_law_569 : decode cL_law 569 = .ok (.iconst 1, 1) := dqo_4 (kb_8 57 rfl)
theorem dL_law_570 : decode cL_law 570 = .ok (.iadd, 1) := dqo_96 (kb_8 58 rfl)
theorem dL_law_571 : decode cL_law 571 = .ok (.iaload, 1) := dqo_46 (kb_8 59 rfl)
theorem dL_law_572 : decode cL_law 572 = .ok (.invokevirtual 198, 3) := dqo_182 0 198 (kb_8 60 rfl) (kb_8 61 rfl) (kb_8 62 rfl)
theorem dL_law_575 : decode cL_law 575 = .ok (.istore 6, 2) := dqo_54 6 (kb_8 63 rfl) (kb_9 0 rfl)
theorem dL_law_577 : decode cL_law 577 = .ok (.aload_n 2, 1) := dqo_44 (kb_9 1 rfl)
theorem dL_law_578 : decode cL_law 578 = .ok (.invokevirtual 181, 3) := dqo_182 0 181 (kb_9 2 rfl) (kb_9 3 rfl) (kb_9 4 rfl)
theorem dL_law_581 : decode cL_law 581 = .ok (.iload 5, 2) := dqo_21 5 (kb_9 5 rfl) (kb_9 6 rfl)
theorem dL_law_583 : decode cL_law 583 = .ok (.if_icmp .eq 5, 3) := dqo_159 0 5 (by decide) (kb_9 7 rfl) (kb_9 8 rfl) (kb_9 9 rfl)
theorem dL_law_588 : decode cL_law 588 = .ok (.iload 5, 2) := dqo_21 5 (kb_9 12 rfl) (kb_9 13 rfl)
theorem dL_law_590 : decode cL_law 590 = .ok (.ifCond .ne 16, 3) := dqo_154 0 16 (by decide) (kb_9 14 rfl) (kb_9 15 rfl) (kb_9 16 rfl)
theorem dL_law_593 : decode cL_law 593 = .ok (.aload_n 3, 1) := dqo_45 (kb_9 17 rfl)
theorem dL_law_594 : decode cL_law 594 = .ok (.getfield 13, 3) := dqo_180 0 13 (kb_9 18 rfl) (kb_9 19 rfl) (kb_9 20 rfl)
theorem dL_law_597 : decode cL_law 597 = .ok (.iload 6, 2) := dqo_21 6 (kb_9 21 rfl) (kb_9 22 rfl)
theorem dL_law_599 : decode cL_law 599 = .ok (.i2l, 1) := dqo_133 (kb_9 23 rfl)
theorem dL_law_600 : decode cL_law 600 = .ok (.lcmp, 1) := dqo_148 (kb_9 24 rfl)
theorem dL_law_601 : decode cL_law 601 = .ok (.ifCond .eq 5, 3) := dqo_153 0 5 (by decide) (kb_9 25 rfl) (kb_9 26 rfl) (kb_9 27 rfl)
theorem dL_law_606 : decode cL_law 606 = .ok (.goto 2850, 3) := dqo_167 11 34 (by decide) (kb_9 30 rfl) (kb_9 31 rfl) (kb_9 32 rfl)
theorem dL_law_609 : decode cL_law 609 = .ok (.aload_n 1, 1) := dqo_43 (kb_9 33 rfl)
theorem dL_law_610 : decode cL_law 610 = .ok (.aload_n 0, 1) := dqo_42 (kb_9 34 rfl)
theorem dL_law_611 : decode cL_law 611 = .ok (.iload 4, 2) := dqo_21 4 (kb_9 35 rfl) (kb_9 36 rfl)
theorem dL_law_613 : decode cL_law 613 = .ok (.iconst 1, 1) := dqo_4 (kb_9 37 rfl)
theorem dL_law_614 : decode cL_law 614 = .ok (.iadd, 1) := dqo_96 (kb_9 38 rfl)
theorem dL_law_615 : decode cL_law 615 = .ok (.iaload, 1) := dqo_46 (kb_9 39 rfl)
theorem dL_law_616 : decode cL_law 616 = .ok (.aload_n 0, 1) := dqo_42 (kb_9 40 rfl)
theorem dL_law_617 : decode cL_law 617 = .ok (.iload 4, 2) := dqo_21 4 (kb_9 41 rfl) (kb_9 42 rfl)
theorem dL_law_619 : decode cL_law 619 = .ok (.iconst 2, 1) := dqo_5 (kb_9 43 rfl)
theorem dL_law_620 : decode cL_law 620 = .ok (.iadd, 1) := dqo_96 (kb_9 44 rfl)
theorem dL_law_621 : decode cL_law 621 = .ok (.iaload, 1) := dqo_46 (kb_9 45 rfl)
theorem dL_law_622 : decode cL_law 622 = .ok (.aload_n 0, 1) := dqo_42 (kb_9 46 rfl)
theorem dL_law_623 : decode cL_law 623 = .ok (.iload 4, 2) := dqo_21 4 (kb_9 47 rfl) (kb_9 48 rfl)
theorem dL_law_625 : decode cL_law 625 = .ok (.iconst 3, 1) := dqo_6 (kb_9 49 rfl)
theorem dL_law_626 : decode cL_law 626 = .ok (.iadd, 1) := dqo_96 (kb_9 50 rfl)
theorem dL_law_627 : decode cL_law 627 = .ok (.iaload, 1) := dqo_46 (kb_9 51 rfl)
theorem dL_law_628 : decode cL_law 628 = .ok (.aload_n 0, 1) := dqo_42 (kb_9 52 rfl)
theorem dL_law_629 : decode cL_law 629 = .ok (.iload 4, 2) := dqo_21 4 (kb_9 53 rfl) (kb_9 54 rfl)
theorem dL_law_631 : decode cL_law 631 = .ok (.iconst 4, 1) := dqo_7 (kb_9 55 rfl)
theorem dL_law_632 : decode cL_law 632 = .ok (.iadd, 1) := dqo_96 (kb_9 56 rfl)
theorem dL_law_633 : decode cL_law 633 = .ok (.iaload, 1) := dqo_46 (kb_9 57 rfl)
theorem dL_law_634 : decode cL_law 634 = .ok (.aload_n 3, 1) := dqo_45 (kb_9 58 rfl)
theorem dL_law_635 : decode cL_law 635 = .ok (.invokestatic 199, 3) := dqo_184 0 199 (kb_9 59 rfl) (kb_9 60 rfl) (kb_9 61 rfl)
theorem dL_law_638 : decode cL_law 638 = .ok (.istore 5, 2) := dqo_54 5 (kb_9 62 rfl) (kb_9 63 rfl)
theorem dL_law_640 : decode cL_law 640 = .ok (.aload_n 2, 1) := dqo_44 (kb_10 0 rfl)
theorem dL_law_641 : decode cL_law 641 = .ok (.aload_n 0, 1) := dqo_42 (kb_10 1 rfl)
theorem dL_law_642 : decode cL_law 642 = .ok (.iload 4, 2) := dqo_21 4 (kb_10 2 rfl) (kb_10 3 rfl)
theorem dL_law_644 : decode cL_law 644 = .ok (.iconst 1, 1) := dqo_4 (kb_10 4 rfl)
theorem dL_law_645 : decode cL_law 645 = .ok (.iadd, 1) := dqo_96 (kb_10 5 rfl)
theorem dL_law_646 : decode cL_law 646 = .ok (.iaload, 1) := dqo_46 (kb_10 6 rfl)
theorem dL_law_647 : decode cL_law 647 = .ok (.aload_n 0, 1) := dqo_42 (kb_10 7 rfl)
theorem dL_law_648 : decode cL_law 648 = .ok (.iload 4, 2) := dqo_21 4 (kb_10 8 rfl) (kb_10 9 rfl)
theorem dL_law_650 : decode cL_law 650 = .ok (.iconst 2, 1) := dqo_5 (kb_10 10 rfl)
theorem dL_law_651 : decode cL_law 651 = .ok (.iadd, 1) := dqo_96 (kb_10 11 rfl)
theorem dL_law_652 : decode cL_law 652 = .ok (.iaload, 1) := dqo_46 (kb_10 12 rfl)
theorem dL_law_653 : decode cL_law 653 = .ok (.aload_n 0, 1) := dqo_42 (kb_10 13 rfl)
theorem dL_law_654 : decode cL_law 654 = .ok (.iload 4, 2) := dqo_21 4 (kb_10 14 rfl) (kb_10 15 rfl)
theorem dL_law_656 : decode cL_law 656 = .ok (.iconst 3, 1) := dqo_6 (kb_10 16 rfl)
theorem dL_law_657 : decode cL_law 657 = .ok (.iadd, 1) := dqo_96 (kb_10 17 rfl)
theorem dL_law_658 : decode cL_law 658 = .ok (.iaload, 1) := dqo_46 (kb_10 18 rfl)
theorem dL_law_659 : decode cL_law 659 = .ok (.aload_n 0, 1) := dqo_42 (kb_10 19 rfl)
theorem dL_law_660 : decode cL_law 660 = .ok (.iload 4, 2) := dqo_21 4 (kb_10 20 rfl) (kb_10 21 rfl)
theorem dL_law_662 : decode cL_law 662 = .ok (.iconst 4, 1) := dqo_7 (kb_10 22 rfl)
theorem dL_law_663 : decode cL_law 663 = .ok (.iadd, 1) := dqo_96 (kb_10 23 rfl)
theorem dL_law_664 : decode cL_law 664 = .ok (.iaload, 1) := dqo_46 (kb_10 24 rfl)
theorem dL_law_665 : decode cL_law 665 = .ok (.invokevirtual 202, 3) := dqo_182 0 202 (kb_10 25 rfl) (kb_10 26 rfl) (kb_10 27 rfl)
theorem dL_law_668 : decode cL_law 668 = .ok (.istore 6, 2) := dqo_54 6 (kb_10 28 rfl) (kb_10 29 rfl)
theorem dL_law_670 : decode cL_law 670 = .ok (.aload_n 2, 1) := dqo_44 (kb_10 30 rfl)
theorem dL_law_671 : decode cL_law 671 = .ok (.invokevirtual 181, 3) := dqo_182 0 181 (kb_10 31 rfl) (kb_10 32 rfl) (kb_10 33 rfl)
theorem dL_law_674 : decode cL_law 674 = .ok (.iload 5, 2) := dqo_21 5 (kb_10 34 rfl) (kb_10 35 rfl)
theorem dL_law_676 : decode cL_law 676 = .ok (.if_icmp .eq 5, 3) := dqo_159 0 5 (by decide) (kb_10 36 rfl) (kb_10 37 rfl) (kb_10 38 rfl)
theorem dL_law_681 : decode cL_law 681 = .ok (.iload 5, 2) := dqo_21 5 (kb_10 41 rfl) (kb_10 42 rfl)
theorem dL_law_683 : decode cL_law 683 = .ok (.ifCond .ne 16, 3) := dqo_154 0 16 (by decide) (kb_10 43 rfl) (kb_10 44 rfl) (kb_10 45 rfl)
theorem dL_law_686 : decode cL_law 686 = .ok (.aload_n 3, 1) := dqo_45 (kb_10 46 rfl)
theorem dL_law_687 : decode cL_law 687 = .ok (.getfield 13, 3) := dqo_180 0 13 (kb_10 47 rfl) (kb_10 48 rfl) (kb_10 49 rfl)
theorem dL_law_690 : decode cL_law 690 = .ok (.iload 6, 2) := dqo_21 6 (kb_10 50 rfl) (kb_10 51 rfl)
theorem dL_law_692 : decode cL_law 692 = .ok (.i2l, 1) := dqo_133 (kb_10 52 rfl)
theorem dL_law_693 : decode cL_law 693 = .ok (.lcmp, 1) := dqo_148 (kb_10 53 rfl)
theorem dL_law_694 : decode cL_law 694 = .ok (.ifCond .eq 5, 3) := dqo_153 0 5 (by decide) (kb_10 54 rfl) (kb_10 55 rfl) (kb_10 56 rfl)
theorem dL_law_699 : decode cL_law 699 = .ok (.goto 2757, 3) := dqo_167 10 197 (by decide) (kb_10 59 rfl) (kb_10 60 rfl) (kb_10 61 rfl)
theorem dL_law_702 : decode cL_law 702 = .ok (.aload_n 1, 1) := dqo_43 (kb_10 62 rfl)
theorem dL_law_703 : decode cL_law 703 = .ok (.aload_n 0, 1) := dqo_42 (kb_10 63 rfl)
theorem dL_law_704 : decode cL_law 704 = .ok (.iload 4, 2) := dqo_21 4 (kb_11 0 rfl) (kb_11 1 rfl)
theorem dL_law_706 : decode cL_law 706 = .ok (.iconst 1, 1) := dqo_4 (kb_11 2 rfl)
theorem dL_law_707 : decode cL_law 707 = .ok (.iadd, 1) := dqo_96 (kb_11 3 rfl)
theorem dL_law_708 : decode cL_law 708 = .ok (.iaload, 1) := dqo_46 (kb_11 4 rfl)
theorem dL_law_709 : decode cL_law 709 = .ok (.aload_n 0, 1) := dqo_42 (kb_11 5 rfl)
theorem dL_law_710 : decode cL_law 710 = .ok (.iload 4, 2) := dqo_21 4 (kb_11 6 rfl) (kb_11 7 rfl)
theorem dL_law_712 : decode cL_law 712 = .ok (.iconst 2, 1) := dqo_5 (kb_11 8 rfl)
theorem dL_law_713 : decode cL_law 713 = .ok (.iadd, 1) := dqo_96 (kb_11 9 rfl)
theorem dL_law_714 : decode cL_law 714 = .ok (.iaload, 1) := dqo_46 (kb_11 10 rfl)
theorem dL_law_715 : decode cL_law 715 = .ok (.aload_n 3, 1) := dqo_45 (kb_11 11 rfl)
theorem dL_law_716 : decode cL_law 716 = .ok (.invokestatic 203, 3) := dqo_184 0 203 (kb_11 12 rfl) (kb_11 13 rfl) (kb_11 14 rfl)
theorem dL_law_719 : decode cL_law 719 = .ok (.istore 5, 2) := dqo_54 5 (kb_11 15 rfl) (kb_11 16 rfl)
theorem dL_law_721 : decode cL_law 721 = .ok (.aload_n 2, 1) := dqo_44 (kb_11 17 rfl)
theorem dL_law_722 : decode cL_law 722 = .ok (.aload_n 0, 1) := dqo_42 (kb_11 18 rfl)
theorem dL_law_723 : decode cL_law 723 = .ok (.iload 4, 2) := dqo_21 4 (kb_11 19 rfl) (kb_11 20 rfl)
theorem dL_law_725 : decode cL_law 725 = .ok (.iconst 1, 1) := dqo_4 (kb_11 21 rfl)
theorem dL_law_726 : decode cL_law 726 = .ok (.iadd, 1) := dqo_96 (kb_11 22 rfl)
theorem dL_law_727 : decode cL_law 727 = .ok (.iaload, 1) := dqo_46 (kb_11 23 rfl)
theorem dL_law_728 : decode cL_law 728 = .ok (.aload_n 0, 1) := dqo_42 (kb_11 24 rfl)
theorem dL_law_729 : decode cL_law 729 = .ok (.iload 4, 2) := dqo_21 4 (kb_11 25 rfl) (kb_11 26 rfl)
theorem dL_law_731 : decode cL_law 731 = .ok (.iconst 2, 1) := dqo_5 (kb_11 27 rfl)
theorem dL_law_732 : decode cL_law 732 = .ok (.iadd, 1) := dqo_96 (kb_11 28 rfl)
theorem dL_law_733 : decode cL_law 733 = .ok (.iaload, 1) := dqo_46 (kb_11 29 rfl)
theorem dL_law_734 : decode cL_law 734 = .ok (.invokevirtual 205, 3) := dqo_182 0 205 (kb_11 30 rfl) (kb_11 31 rfl) (kb_11 32 rfl)
theorem dL_law_737 : decode cL_law 737 = .ok (.istore 6, 2) := dqo_54 6 (kb_11 33 rfl) (kb_11 34 rfl)
theorem dL_law_739 : decode cL_law 739 = .ok (.aload_n 2, 1) := dqo_44 (kb_11 35 rfl)
theorem dL_law_740 : decode cL_law 740 = .ok (.invokevirtual 181, 3) := dqo_182 0 181 (kb_11 36 rfl) (kb_11 37 rfl) (kb_11 38 rfl)
theorem dL_law_743 : decode cL_law 743 = .ok (.iload 5, 2) := dqo_21 5 (kb_11 39 rfl) (kb_11 40 rfl)
theorem dL_law_745 : decode cL_law 745 = .ok (.if_icmp .eq 5, 3) := dqo_159 0 5 (by decide) (kb_11 41 rfl) (kb_11 42 rfl) (kb_11 43 rfl)
theorem dL_law_750 : decode cL_law 750 = .ok (.iload 5, 2) := dqo_21 5 (kb_11 46 rfl) (kb_11 47 rfl)
theorem dL_law_752 : decode cL_law 752 = .ok (.ifCond .ne 16, 3) := dqo_154 0 16 (by decide) (kb_11 48 rfl) (kb_11 49 rfl) (kb_11 50 rfl)
theorem dL_law_755 : decode cL_law 755 = .ok (.aload_n 3, 1) := dqo_45 (kb_11 51 rfl)
theorem dL_law_756 : decode cL_law 756 = .ok (.getfield 13, 3) := dqo_180 0 13 (kb_11 52 rfl) (kb_11 53 rfl) (kb_11 54 rfl)
theorem dL_law_759 : decode cL_law 759 = .ok (.iload 6, 2) := dqo_21 6 (kb_11 55 rfl) (kb_11 56 rfl)
theorem dL_law_761 : decode cL_law 761 = .ok (.i2l, 1) := dqo_133 (kb_11 57 rfl)
theorem dL_law_762 : decode cL_law 762 = .ok (.lcmp, 1) := dqo_148 (kb_11 58 rfl)
theorem dL_law_763 : decode cL_law 763 = .ok (.ifCond .eq 5, 3) := dqo_153 0 5 (by decide) (kb_11 59 rfl) (kb_11 60 rfl) (kb_11 61 rfl)
theorem dL_law_768 : decode cL_law 768 = .ok (.goto 2688, 3) := dqo_167 10 128 (by decide) (kb_12 0 rfl) (kb_12 1 rfl) (kb_12 2 rfl)
theorem dL_law_771 : decode cL_law 771 = .ok (.aload_n 1, 1) := dqo_43 (kb_12 3 rfl)
theorem dL_law_772 : decode cL_law 772 = .ok (.aload_n 0, 1) := dqo_42 (kb_12 4 rfl)
theorem dL_law_773 : decode cL_law 773 = .ok (.iload 4, 2) := dqo_21 4 (kb_12 5 rfl) (kb_12 6 rfl)
theorem dL_law_775 : decode cL_law 775 = .ok (.iconst 1, 1) := dqo_4 (kb_12 7 rfl)
theorem dL_law_776 : decode cL_law 776 = .ok (.iadd, 1) := dqo_96 (kb_12 8 rfl)
theorem dL_law_777 : decode cL_law 777 = .ok (.iaload, 1) := dqo_46 (kb_12 9 rfl)
theorem dL_law_778 : decode cL_law 778 = .ok (.aload_n 3, 1) := dqo_45 (kb_12 10 rfl)
theorem dL_law_779 : decode cL_law 779 = .ok (.invokestatic 206, 3) := dqo_184 0 206 (kb_12 11 rfl) (kb_12 12 rfl) (kb_12 13 rfl)
theorem dL_law_782 : decode cL_law 782 = .ok (.istore 5, 2) := dqo_54 5 (kb_12 14 rfl) (kb_12 15 rfl)
theorem dL_law_784 : decode cL_law 784 = .ok (.aload_n 2, 1) := dqo_44 (kb_12 16 rfl)
theorem dL_law_785 : decode cL_law 785 = .ok (.aload_n 0, 1) := dqo_42 (kb_12 17 rfl)
theorem dL_law_786 : decode cL_law 786 = .ok (.iload 4, 2) := dqo_21 4 (kb_12 18 rfl) (kb_12 19 rfl)
theorem dL_law_788 : decode cL_law 788 = .ok (.iconst 1, 1) := dqo_4 (kb_12 20 rfl)
theorem dL_law_789 : decode cL_law 789 = .ok (.iadd, 1) := dqo_96 (kb_12 21 rfl)
theorem dL_law_790 : decode cL_law 790 = .ok (.iaload, 1) := dqo_46 (kb_12 22 rfl)
theorem dL_law_791 : decode cL_law 791 = .ok (.invokevirtual 208, 3) := dqo_182 0 208 (kb_12 23 rfl) (kb_12 24 rfl) (kb_12 25 rfl)
theorem dL_law_794 : decode cL_law 794 = .ok (.istore 6, 2) := dqo_54 6 (kb_12 26 rfl) (kb_12 27 rfl)
theorem dL_law_796 : decode cL_law 796 = .ok (.aload_n 2, 1) := dqo_44 (kb_12 28 rfl)
theorem dL_law_797 : decode cL_law 797 = .ok (.invokevirtual 181, 3) := dqo_182 0 181 (kb_12 29 rfl) (kb_12 30 rfl) (kb_12 31 rfl)
theorem dL_law_800 : decode cL_law 800 = .ok (.iload 5, 2) := dqo_21 5 (kb_12 32 rfl) (kb_12 33 rfl)
theorem dL_law_802 : decode cL_law 802 = .ok (.if_icmp .eq 5, 3) := dqo_159 0 5 (by decide) (kb_12 34 rfl) (kb_12 35 rfl) (kb_12 36 rfl)
theorem dL_law_807 : decode cL_law 807 = .ok (.iload 5, 2) := dqo_21 5 (kb_12 39 rfl) (kb_12 40 rfl)
theorem dL_law_809 : decode cL_law 809 = .ok (.ifCond .ne 16, 3) := dqo_154 0 16 (by decide) (kb_12 41 rfl) (kb_12 42 rfl) (kb_12 43 rfl)
theorem dL_law_812 : decode cL_law 812 = .ok (.aload_n 3, 1) := dqo_45 (kb_12 44 rfl)
theorem dL_law_813 : decode cL_law 813 = .ok (.getfield 13, 3) := dqo_180 0 13 (kb_12 45 rfl) (kb_12 46 rfl) (kb_12 47 rfl)
theorem dL_law_816 : decode cL_law 816 = .ok (.iload 6, 2) := dqo_21 6 (kb_12 48 rfl) (kb_12 49 rfl)
theorem dL_law_818 : decode cL_law 818 = .ok (.i2l, 1) := dqo_133 (kb_12 50 rfl)
theorem dL_law_819 : decode cL_law 819 = .ok (.lcmp, 1) := dqo_148 (kb_12 51 rfl)
theorem dL_law_820 : decode cL_law 820 = .ok (.ifCond .eq 5, 3) := dqo_153 0 5 (by decide) (kb_12 52 rfl) (kb_12 53 rfl) (kb_12 54 rfl)
theorem dL_law_825 : decode cL_law 825 = .ok (.goto 2631, 3) := dqo_167 10 71 (by decide) (kb_12 57 rfl) (kb_12 58 rfl) (kb_12 59 rfl)
theorem dL_law_828 : decode cL_law 828 = .ok (.aload_n 1, 1) := dqo_43 (kb_12 60 rfl)
theorem dL_law_829 : decode cL_law 829 = .ok (.aload_n 0, 1) := dqo_42 (kb_12 61 rfl)
theorem dL_law_830 : decode cL_law 830 = .ok (.iload 4, 2) := dqo_21 4 (kb_12 62 rfl) (kb_12 63 rfl)
theorem dL_law_832 : decode cL_law 832 = .ok (.iconst 1, 1) := dqo_4 (kb_13 0 rfl)
theorem dL_law_833 : decode cL_law 833 = .ok (.iadd, 1) := dqo_96 (kb_13 1 rfl)
theorem dL_law_834 : decode cL_law 834 = .ok (.iaload, 1) := dqo_46 (kb_13 2 rfl)
theorem dL_law_835 : decode cL_law 835 = .ok (.aload_n 0, 1) := dqo_42 (kb_13 3 rfl)
theorem dL_law_836 : decode cL_law 836 = .ok (.iload 4, 2) := dqo_21 4 (kb_13 4 rfl) (kb_13 5 rfl)
theorem dL_law_838 : decode cL_law 838 = .ok (.iconst 2, 1) := dqo_5 (kb_13 6 rfl)
theorem dL_law_839 : decode cL_law 839 = .ok (.iadd, 1) := dqo_96 (kb_13 7 rfl)
theorem dL_law_840 : decode cL_law 840 = .ok (.iaload, 1) := dqo_46 (kb_13 8 rfl)
theorem dL_law_841 : decode cL_law 841 = .ok (.aload_n 0, 1) := dqo_42 (kb_13 9 rfl)
theorem dL_law_842 : decode cL_law 842 = .ok (.iload 4, 2) := dqo_21 4 (kb_13 10 rfl) (kb_13 11 rfl)
theorem dL_law_844 : decode cL_law 844 = .ok (.iconst 3, 1) := dqo_6 (kb_13 12 rfl)
theorem dL_law_845 : decode cL_law 845 = .ok (.iadd, 1) := dqo_96 (kb_13 13 rfl)
theorem dL_law_846 : decode cL_law 846 = .ok (.iaload, 1) := dqo_46 (kb_13 14 rfl)
theorem dL_law_847 : decode cL_law 847 = .ok (.aload_n 3, 1) := dqo_45 (kb_13 15 rfl)
theorem dL_law_848 : decode cL_law 848 = .ok (.invokestatic 209, 3) := dqo_184 0 209 (kb_13 16 rfl) (kb_13 17 rfl) (kb_13 18 rfl)
theorem dL_law_851 : decode cL_law 851 = .ok (.istore 5, 2) := dqo_54 5 (kb_13 19 rfl) (kb_13 20 rfl)
theorem dL_law_853 : decode cL_law 853 = .ok (.aload_n 2, 1) := dqo_44 (kb_13 21 rfl)
theorem dL_law_854 : decode cL_law 854 = .ok (.aload_n 0, 1) := dqo_42 (kb_13 22 rfl)
theorem dL_law_855 : decode cL_law 855 = .ok (.iload 4, 2) := dqo_21 4 (kb_13 23 rfl) (kb_13 24 rfl)
theorem dL_law_857 : decode cL_law 857 = .ok (.iconst 1, 1) := dqo_4 (kb_13 25 rfl)
theorem dL_law_858 : decode cL_law 858 = .ok (.iadd, 1) := dqo_96 (kb_13 26 rfl)
theorem dL_law_859 : decode cL_law 859 = .ok (.iaload, 1) := dqo_46 (kb_13 27 rfl)
theorem dL_law_860 : decode cL_law 860 = .ok (.aload_n 0, 1) := dqo_42 (kb_13 28 rfl)
theorem dL_law_861 : decode cL_law 861 = .ok (.iload 4, 2) := dqo_21 4 (kb_13 29 rfl) (kb_13 30 rfl)
theorem dL_law_863 : decode cL_law 863 = .ok (.iconst 2, 1) := dqo_5 (kb_13 31 rfl)
theorem dL_law_864 : decode cL_law 864 = .ok (.iadd, 1) := dqo_96 (kb_13 32 rfl)
theorem dL_law_865 : decode cL_law 865 = .ok (.iaload, 1) := dqo_46 (kb_13 33 rfl)
theorem dL_law_866 : decode cL_law 866 = .ok (.aload_n 0, 1) := dqo_42 (kb_13 34 rfl)
theorem dL_law_867 : decode cL_law 867 = .ok (.iload 4, 2) := dqo_21 4 (kb_13 35 rfl) (kb_13 36 rfl)
theorem dL_law_869 : decode cL_law 869 = .ok (.iconst 3, 1) := dqo_6 (kb_13 37 rfl)
theorem dL_law_870 : decode cL_law 870 = .ok (.iadd, 1) := dqo_96 (kb_13 38 rfl)
theorem dL_law_871 : decode cL_law 871 = .ok (.iaload, 1) := dqo_46 (kb_13 39 rfl)
theorem dL_law_872 : decode cL_law 872 = .ok (.invokevirtual 211, 3) := dqo_182 0 211 (kb_13 40 rfl) (kb_13 41 rfl) (kb_13 42 rfl)
theorem dL_law_875 : decode cL_law 875 = .ok (.istore 6, 2) := dqo_54 6 (kb_13 43 rfl) (kb_13 44 rfl)
theorem dL_law_877 : decode cL_law 877 = .ok (.aload_n 2, 1) := dqo_44 (kb_13 45 rfl)
theorem dL_law_878 : decode cL_law 878 = .ok (.invokevirtual 181, 3) := dqo_182 0 181 (kb_13 46 rfl) (kb_13 47 rfl) (kb_13 48 rfl)
theorem dL_law_881 : decode cL_law 881 = .ok (.iload 5, 2) := dqo_21 5 (kb_13 49 rfl) (kb_13 50 rfl)
theorem dL_law_883 : decode cL_law 883 = .ok (.if_icmp .eq 5, 3) := dqo_159 0 5 (by decide) (kb_13 51 rfl) (kb_13 52 rfl) (kb_13 53 rfl)
theorem dL_law_888 : decode cL_law 888 = .ok (.iload 5, 2) := dqo_21 5 (kb_13 56 rfl) (kb_13 57 rfl)
theorem dL_law_890 : decode cL_law 890 = .ok (.ifCond .ne 16, 3) := dqo_154 0 16 (by decide) (kb_13 58 rfl) (kb_13 59 rfl) (kb_13 60 rfl)
theorem dL_law_893 : decode cL_law 893 = .ok (.aload_n 3, 1) := dqo_45 (kb_13 61 rfl)
theorem dL_law_894 : decode cL_law 894 = .ok (.getfield 13, 3) := dqo_180 0 13 (kb_13 62 rfl) (kb_13 63 rfl) (kb_14 0 rfl)
theorem dL_law_897 : decode cL_law 897 = .ok (.iload 6, 2) := dqo_21 6 (kb_14 1 rfl) (kb_14 2 rfl)
theorem dL_law_899 : decode cL_law 899 = .ok (.i2l, 1) := dqo_133 (kb_14 3 rfl)
theorem dL_law_900 : decode cL_law 900 = .ok (.lcmp, 1) := dqo_148 (kb_14 4 rfl)
theorem dL_law_901 : decode cL_law 901 = .ok (.ifCond .eq 5, 3) := dqo_153 0 5 (by decide) (kb_14 5 rfl) (kb_14 6 rfl) (kb_14 7 rfl)
theorem dL_law_906 : decode cL_law 906 = .ok (.goto 2550, 3) := dqo_167 9 246 (by decide) (kb_14 10 rfl) (kb_14 11 rfl) (kb_14 12 rfl)
theorem dL_law_909 : decode cL_law 909 = .ok (.aload_n 1, 1) := dqo_43 (kb_14 13 rfl)
theorem dL_law_910 : decode cL_law 910 = .ok (.aload_n 0, 1) := dqo_42 (kb_14 14 rfl)
theorem dL_law_911 : decode cL_law 911 = .ok (.iload 4, 2) := dqo_21 4 (kb_14 15 rfl) (kb_14 16 rfl)
theorem dL_law_913 : decode cL_law 913 = .ok (.iconst 1, 1) := dqo_4 (kb_14 17 rfl)
theorem dL_law_914 : decode cL_law 914 = .ok (.iadd, 1) := dqo_96 (kb_14 18 rfl)
theorem dL_law_915 : decode cL_law 915 = .ok (.iaload, 1) := dqo_46 (kb_14 19 rfl)
theorem dL_law_916 : decode cL_law 916 = .ok (.aload_n 3, 1) := dqo_45 (kb_14 20 rfl)
theorem dL_law_917 : decode cL_law 917 = .ok (.invokestatic 212, 3) := dqo_184 0 212 (kb_14 21 rfl) (kb_14 22 rfl) (kb_14 23 rfl)
theorem dL_law_920 : decode cL_law 920 = .ok (.istore 5, 2) := dqo_54 5 (kb_14 24 rfl) (kb_14 25 rfl)
theorem dL_law_922 : decode cL_law 922 = .ok (.aload_n 2, 1) := dqo_44 (kb_14 26 rfl)
theorem dL_law_923 : decode cL_law 923 = .ok (.aload_n 0, 1) := dqo_42 (kb_14 27 rfl)
theorem dL_law_924 : decode cL_law 924 = .ok (.iload 4, 2) := dqo_21 4 (kb_14 28 rfl) (kb_14 29 rfl)
theorem dL_law_926 : decode cL_law 926 = .ok (.iconst 1, 1) := dqo_4 (kb_14 30 rfl)
theorem dL_law_927 : decode cL_law 927 = .ok (.iadd, 1) := dqo_96 (kb_14 31 rfl)
theorem dL_law_928 : decode cL_law 928 = .ok (.iaload, 1) := dqo_46 (kb_14 32 rfl)
theorem dL_law_929 : decode cL_law 929 = .ok (.invokevirtual 214, 3) := dqo_182 0 214 (kb_14 33 rfl) (kb_14 34 rfl) (kb_14 35 rfl)
theorem dL_law_932 : decode cL_law 932 = .ok (.istore 6, 2) := dqo_54 6 (kb_14 36 rfl) (kb_14 37 rfl)
theorem dL_law_934 : decode cL_law 934 = .ok (.aload_n 2, 1) := dqo_44 (kb_14 38 rfl)
theorem dL_law_935 : decode cL_law 935 = .ok (.invokevirtual 181, 3) := dqo_182 0 181 (kb_14 39 rfl) (kb_14 40 rfl) (kb_14 41 rfl)
theorem dL_law_938 : decode cL_law 938 = .ok (.iload 5, 2) := dqo_21 5 (kb_14 42 rfl) (kb_14 43 rfl)
theorem dL_law_940 : decode cL_law 940 = .ok (.if_icmp .eq 5, 3) := dqo_159 0 5 (by decide) (kb_14 44 rfl) (kb_14 45 rfl) (kb_14 46 rfl)
theorem dL_law_945 : decode cL_law 945 = .ok (.iload 5, 2) := dqo_21 5 (kb_14 49 rfl) (kb_14 50 rfl)
theorem dL_law_947 : decode cL_law 947 = .ok (.ifCond .ne 16, 3) := dqo_154 0 16 (by decide) (kb_14 51 rfl) (kb_14 52 rfl) (kb_14 53 rfl)
theorem dL_law_950 : decode cL_law 950 = .ok (.aload_n 3, 1) := dqo_45 (kb_14 54 rfl)
theorem dL_law_951 : decode cL_law 951 = .ok (.getfield 13, 3) := dqo_180 0 13 (kb_14 55 rfl) (kb_14 56 rfl) (kb_14 57 rfl)
theorem dL_law_954 : decode cL_law 954 = .ok (.iload 6, 2) := dqo_21 6 (kb_14 58 rfl) (kb_14 59 rfl)
theorem dL_law_956 : decode cL_law 956 = .ok (.i2l, 1) := dqo_133 (kb_14 60 rfl)
theorem dL_law_957 : decode cL_law 957 = .ok (.lcmp, 1) := dqo_148 (kb_14 61 rfl)
theorem dL_law_958 : decode cL_law 958 = .ok (.ifCond .eq 5, 3) := dqo_153 0 5 (by decide) (kb_14 62 rfl) (kb_14 63 rfl) (kb_15 0 rfl)
theorem dL_law_963 : decode cL_law 963 = .ok (.goto 2493, 3) := dqo_167 9 189 (by decide) (kb_15 3 rfl) (kb_15 4 rfl) (kb_15 5 rfl)
theorem dL_law_966 : decode cL_law 966 = .ok (.aload_n 1, 1) := dqo_43 (kb_15 6 rfl)
theorem dL_law_967 : decode cL_law 967 = .ok (.aload_n 0, 1) := dqo_42 (kb_15 7 rfl)
theorem dL_law_968 : decode cL_law 968 = .ok (.iload 4, 2) := dqo_21 4 (kb_15 8 rfl) (kb_15 9 rfl)
theorem dL_law_970 : decode cL_law 970 = .ok (.iconst 1, 1) := dqo_4 (kb_15 10 rfl)
theorem dL_law_971 : decode cL_law 971 = .ok (.iadd, 1) := dqo_96 (kb_15 11 rfl)
theorem dL_law_972 : decode cL_law 972 = .ok (.iaload, 1) := dqo_46 (kb_15 12 rfl)
theorem dL_law_973 : decode cL_law 973 = .ok (.aload_n 3, 1) := dqo_45 (kb_15 13 rfl)
theorem dL_law_974 : decode cL_law 974 = .ok (.invokestatic 215, 3) := dqo_184 0 215 (kb_15 14 rfl) (kb_15 15 rfl) (kb_15 16 rfl)
theorem dL_law_977 : decode cL_law 977 = .ok (.istore 5, 2) := dqo_54 5 (kb_15 17 rfl) (kb_15 18 rfl)
theorem dL_law_979 : decode cL_law 979 = .ok (.aload_n 2, 1) := dqo_44 (kb_15 19 rfl)
theorem dL_law_980 : decode cL_law 980 = .ok (.aload_n 0, 1) := dqo_42 (kb_15 20 rfl)
theorem dL_law_981 : decode cL_law 981 = .ok (.iload 4, 2) := dqo_21 4 (kb_15 21 rfl) (kb_15 22 rfl)
theorem dL_law_983 : decode cL_law 983 = .ok (.iconst 1, 1) := dqo_4 (kb_15 23 rfl)
theorem dL_law_984 : decode cL_law 984 = .ok (.iadd, 1) := dqo_96 (kb_15 24 rfl)
theorem dL_law_985 : decode cL_law 985 = .ok (.iaload, 1) := dqo_46 (kb_15 25 rfl)
theorem dL_law_986 : decode cL_law 986 = .ok (.invokevirtual 217, 3) := dqo_182 0 217 (kb_15 26 rfl) (kb_15 27 rfl) (kb_15 28 rfl)
theorem dL_law_989 : decode cL_law 989 = .ok (.istore 6, 2) := dqo_54 6 (kb_15 29 rfl) (kb_15 30 rfl)
theorem dL_law_991 : decode cL_law 991 = .ok (.aload_n 2, 1) := dqo_44 (kb_15 31 rfl)
theorem dL_law_992 : decode cL_law 992 = .ok (.invokevirtual 181, 3) := dqo_182 0 181 (kb_15 32 rfl) (kb_15 33 rfl) (kb_15 34 rfl)
theorem dL_law_995 : decode cL_law 995 = .ok (.iload 5, 2) := dqo_21 5 (kb_15 35 rfl) (kb_15 36 rfl)
theorem dL_law_997 : decode cL_law 997 = .ok (.if_icmp .eq 5, 3) := dqo_159 0 5 (by decide) (kb_15 37 rfl) (kb_15 38 rfl) (kb_15 39 rfl)
theorem dL_law_1002 : decode cL_law 1002 = .ok (.iload 5, 2) := dqo_21 5 (kb_15 42 rfl) (kb_15 43 rfl)
theorem dL_law_1004 : decode cL_law 1004 = .ok (.ifCond .ne 16, 3) := dqo_154 0 16 (by decide) (kb_15 44 rfl) (kb_15 45 rfl) (kb_15 46 rfl)
theorem dL_law_1007 : decode cL_law 1007 = .ok (.aload_n 3, 1) := dqo_45 (kb_15 47 rfl)
theorem dL_law_1008 : decode cL_law 1008 = .ok (.getfield 13, 3) := dqo_180 0 13 (kb_15 48 rfl) (kb_15 49 rfl) (kb_15 50 rfl)
theorem dL_law_1011 : decode cL_law 1011 = .ok (.iload 6, 2) := dqo_21 6 (kb_15 51 rfl) (kb_15 52 rfl)
theorem dL_law_1013 : decode cL_law 1013 = .ok (.i2l, 1) := dqo_133 (kb_15 53 rfl)
theorem dL_law_1014 : decode cL_law 1014 = .ok (.lcmp, 1) := dqo_148 (kb_15 54 rfl)
theorem dL_law_1015 : decode cL_law 1015 = .ok (.ifCond .eq 5, 3) := dqo_153 0 5 (by decide) (kb_15 55 rfl) (kb_15 56 rfl) (kb_15 57 rfl)
theorem dL_law_1020 : decode cL_law 1020 = .ok (.goto 2436, 3) := dqo_167 9 132 (by decide) (kb_15 60 rfl) (kb_15 61 rfl) (kb_15 62 rfl)
theorem dL_law_1023 : decode cL_law 1023 = .ok (.aload_n 1, 1) := dqo_43 (kb_15 63 rfl)
theorem dL_law_1024 : decode cL_law 1024 = .ok (.aload_n 0, 1) := dqo_42 (kb_16 0 rfl)
theorem dL_law_1025 : decode cL_law 1025 = .ok (.iload 4, 2) := dqo_21 4 (kb_16 1 rfl) (kb_16 2 rfl)
theorem dL_law_1027 : decode cL_law 1027 = .ok (.iconst 1, 1) := dqo_4 (kb_16 3 rfl)
theorem dL_law_1028 : decode cL_law 1028 = .ok (.iadd, 1) := dqo_96 (kb_16 4 rfl)
theorem dL_law_1029 : decode cL_law 1029 = .ok (.iaload, 1) := dqo_46 (kb_16 5 rfl)
theorem dL_law_1030 : decode cL_law 1030 = .ok (.aload_n 3, 1) := dqo_45 (kb_16 6 rfl)
theorem dL_law_1031 : decode cL_law 1031 = .ok (.invokestatic 218, 3) := dqo_184 0 218 (kb_16 7 rfl) (kb_16 8 rfl) (kb_16 9 rfl)
theorem dL_law_1034 : decode cL_law 1034 = .ok (.istore 5, 2) := dqo_54 5 (kb_16 10 rfl) (kb_16 11 rfl)
theorem dL_law_1036 : decode cL_law 1036 = .ok (.aload_n 2, 1) := dqo_44 (kb_16 12 rfl)
theorem dL_law_1037 : decode cL_law 1037 = .ok (.aload_n 0, 1) := dqo_42 (kb_16 13 rfl)
theorem dL_law_1038 : decode cL_law 1038 = .ok (.iload 4, 2) := dqo_21 4 (kb_16 14 rfl) (kb_16 15 rfl)
theorem dL_law_1040 : decode cL_law 1040 = .ok (.iconst 1, 1) := dqo_4 (kb_16 16 rfl)
theorem dL_law_1041 : decode cL_law 1041 = .ok (.iadd, 1) := dqo_96 (kb_16 17 rfl)
theorem dL_law_1042 : decode cL_law 1042 = .ok (.iaload, 1) := dqo_46 (kb_16 18 rfl)
theorem dL_law_1043 : decode cL_law 1043 = .ok (.invokevirtual 220, 3) := dqo_182 0 220 (kb_16 19 rfl) (kb_16 20 rfl) (kb_16 21 rfl)
theorem dL_law_1046 : decode cL_law 1046 = .ok (.istore 6, 2) := dqo_54 6 (kb_16 22 rfl) (kb_16 23 rfl)
theorem dL_law_1048 : decode cL_law 1048 = .ok (.aload_n 2, 1) := dqo_44 (kb_16 24 rfl)
theorem dL_law_1049 : decode cL_law 1049 = .ok (.invokevirtual 181, 3) := dqo_182 0 181 (kb_16 25 rfl) (kb_16 26 rfl) (kb_16 27 rfl)
theorem dL_law_1052 : decode cL_law 1052 = .ok (.iload 5, 2) := dqo_21 5 (kb_16 28 rfl) (kb_16 29 rfl)
theorem dL_law_1054 : decode cL_law 1054 = .ok (.if_icmp .eq 5, 3) := dqo_159 0 5 (by decide) (kb_16 30 rfl) (kb_16 31 rfl) (kb_16 32 rfl)
theorem dL_law_1059 : decode cL_law 1059 = .ok (.iload 5, 2) := dqo_21 5 (kb_16 35 rfl) (kb_16 36 rfl)
theorem dL_law_1061 : decode cL_law 1061 = .ok (.ifCond .ne 16, 3) := dqo_154 0 16 (by decide) (kb_16 37 rfl) (kb_16 38 rfl) (kb_16 39 rfl)
theorem dL_law_1064 : decode cL_law 1064 = .ok (.aload_n 3, 1) := dqo_45 (kb_16 40 rfl)
theorem dL_law_1065 : decode cL_law 1065 = .ok (.getfield 13, 3) := dqo_180 0 13 (kb_16 41 rfl) (kb_16 42 rfl) (kb_16 43 rfl)
theorem dL_law_1068 : decode cL_law 1068 = .ok (.iload 6, 2) := dqo_21 6 (kb_16 44 rfl) (kb_16 45 rfl)
theorem dL_law_1070 : decode cL_law 1070 = .ok (.i2l, 1) := dqo_133 (kb_16 46 rfl)
theorem dL_law_1071 : decode cL_law 1071 = .ok (.lcmp, 1) := dqo_148 (kb_16 47 rfl)
theorem dL_law_1072 : decode cL_law 1072 = .ok (.ifCond .eq 5, 3) := dqo_153 0 5 (by decide) (kb_16 48 rfl) (kb_16 49 rfl) (kb_16 50 rfl)
theorem dL_law_1077 : decode cL_law 1077 = .ok (.goto 2379, 3) := dqo_167 9 75 (by decide) (kb_16 53 rfl) (kb_16 54 rfl) (kb_16 55 rfl)
theorem S_add {p : Program} {l : Launch} {e : Env} {s : State} {m : MethodId} {args : Array Value} {below : List Frame} {meth : Method} {c : Code} {D : va_G} {cy : Nat → ClassId} {A : Nat → Prop} {Q : State → Prop} {X : (Nat → Prop) → State → Heap → Prop} {aK aV : Nat → Nat} {tO tT : Nat} {gO gT : Nat → Int32} {a : Nat → Nat → Nat} {ba : Nat → Nat} {o b L i cells slots : Nat} {xs : Nat → Int32} {w : va_W} (C : Fg p s m args meth c cL_law 7 RL D cy A) (hE : X A s s.heap) (hT : EnvT X cy aK aV tO tT gO gT) (hN : EnvN X) (hl : l.stackTraces = false) (hx : va_X b L xs s s.heap) (hbl : b < s.heap.size) (hbA : ¬ A b) (hi : i + 5 ≤ L) (hL : L ≤ 2560) (hc : cells + 500 ≤ room_1.cells) (hs : slots + 10000 ≤ room_1.slots) (hJ : JW cy a ba o w) (kk : ∀ w' : va_W, JW cy a ba o w' → vW p l e room_1 s m args below meth c D vwCl A Q 7 (cells + 500) (slots + 10000) w' [some (.ref b), some (.ref (a 0 0)), some (.ref (ba 9)), some (.ref o), some (.int (nI i)), none, none] 3456 []) : vW p l e room_1 s m args below meth c D vwCl A Q 7 cells slots w [some (.ref b), some (.ref (a 0 0)), some (.ref (ba 9)), some (.ref o), some (.int (nI i)), none, none] 252 [] := by
  have hX := hT.1.1
  obtain ⟨f, r, hf, hq, kn, ra, th, sm, n, v, hC, hB, hM, rfl⟩ := hJ
  refine r_aload_n C dL_law_252 rfl ?_
  refine r_aload_n C dL_law_253 rfl ?_
  refine r_iload C dL_law_254 rfl ?_
  refine r_iconst (v := nI 1) C dL_law_256 (by decide) ?_
  refine r_iaddN C dL_law_257 ?_
  refine r_sld C hx hbl hbA (show i + 1 < L by omega) (by omega) dL_law_258 ?_
  refine r_aload_n C dL_law_259 rfl ?_
  refine r_iload C dL_law_260 rfl ?_
  refine r_iconst (v := nI 2) C dL_law_262 (by decide) ?_
  refine r_iaddN C dL_law_263 ?_
  refine r_sld C hx hbl hbA (show i + 2 < L by omega) (by omega) dL_law_264 ?_
  refine r_aload_n C dL_law_265 rfl ?_
  refine c_SH (st := []) hX.1.stb C hE (W_add hX.1 hN hC hB hM (P_add hX hl hC hB hM (xs (i + 1)) (xs (i + 2)))) pk_L_add qm_L_175 rfl rfl (Nat.le_of_ble_eq_true rfl) dL_law_266 ⟨(Nat.le_of_ble_eq_true rfl), (Nat.le_of_ble_eq_true rfl)⟩ ⟨show cells + 1 ≤ room_1.cells by omega, show slots + 6 ≤ room_1.slots by omega⟩ (fun v9 w9 h9 => ?_) (fun _ h9 => h9.elim)
  obtain ⟨f', r', k, n1, rfl, rfl, hf', hq', n2, hC', hB', hM', hk0, hk4, h2⟩ := h9
  refine r_istore C dL_law_269 (by decide) rfl ?_
  refine r_aload_n C dL_law_271 rfl ?_
  refine r_aload_n C dL_law_272 rfl ?_
  refine r_iload C dL_law_273 rfl ?_
  refine r_iconst (v := nI 1) C dL_law_275 (by decide) ?_
  refine r_iaddN C dL_law_276 ?_
  refine r_sld C hx hbl hbA (show i + 1 < L by omega) (by omega) dL_law_277 ?_
  refine r_aload_n C dL_law_278 rfl ?_
  refine r_iload C dL_law_279 rfl ?_
  refine r_iconst (v := nI 2) C dL_law_281 (by decide) ?_
  refine r_iaddN C dL_law_282 ?_
  refine r_sld C hx hbl hbA (show i + 2 < L by omega) (by omega) dL_law_283 ?_
  refine t_swap3 ?_
  refine c_V (st := []) hX.1.stb C hE (h2 _) pk_X4_add qm_L_180 0 8 rfl rfl wm_0 rfl rfl (Nat.le_of_ble_eq_true rfl) dL_law_284 ⟨(Nat.le_of_ble_eq_true rfl), (Nat.le_of_ble_eq_true rfl)⟩ ⟨show cells + 1 + 4 ≤ room_1.cells by omega, show slots + 6 + 48 ≤ room_1.slots by omega⟩ (fun v9 w9 h9 => ?_) (fun _ h9 => h9.elim)
  obtain ⟨ra9, rfl, rfl⟩ := h9
  refine r_istore C dL_law_287 (by decide) rfl ?_
  refine r_aload_n C dL_law_289 rfl ?_
  refine d_V (st := []) hX.1.stb C hE (D_thrown hX) pk_X4_thrown qm_L_181 0 8 rfl rfl wm_0 rfl rfl (Nat.le_of_ble_eq_true rfl) dL_law_290 ⟨(Nat.le_of_ble_eq_true rfl), (Nat.le_of_ble_eq_true rfl)⟩ ⟨show cells + 1 + 4 + 0 ≤ room_1.cells by omega, show slots + 6 + 48 + 0 ≤ room_1.slots by omega⟩ ?_
  refine r_iload C dL_law_293 rfl ?_
  refine r_ic_eq (tgt := 300) C dL_law_295 (by decide) (fun _ => ?_) (fun hne => absurd rfl hne)
  refine t_swap3 ?_
  refine r_iload C dL_law_300 rfl ?_
  refine r_ifN_ne (a := k) (tgt := 318) C (by omega) dL_law_302 (by decide) (fun hk => ?_) (fun hk => ?_)
  · skip
    refine r_goto (tgt := 3456) C dL_law_318 (by decide) ?_
    refine r_widen (k := cells + 500) (n := slots + 10000) (show cells + 1 + 4 + 0 ≤ cells + 500 by omega) (show slots + 6 + 48 + 0 ≤ slots + 10000 by omega) ?_
    refine r_drop 5 ?_
    refine r_drop 6 ?_
    exact kk _ ⟨f', r', hf', hq', kn, ra9, _, sm, _, _, hC', hB', hM', rfl⟩
  · subst hk
    have e1 := hk0 rfl
    subst e1
    refine r_aload_n C dL_law_305 rfl ?_
    refine g_getN hX.1 C hE qu_X3 (ci := 7) rfl 38 outo_at 0 (by decide) qn_L_13 rfl rfl dL_law_306 ?_
    refine r_iload C dL_law_309 rfl ?_
    refine r_i2l C dL_law_311 ?_
    refine r_lcmpE C dL_law_312 ?_
    refine r_if_eq (tgt := 318) C dL_law_313 (by decide) (fun _ => ?_) (fun hne => absurd rfl hne)
    refine r_goto (tgt := 3456) C dL_law_318 (by decide) ?_
    refine r_widen (k := cells + 500) (n := slots + 10000) (show cells + 1 + 4 + 0 ≤ cells + 500 by omega) (show slots + 6 + 48 + 0 ≤ slots + 10000 by omega) ?_
    refine r_drop 5 ?_
    refine r_drop 6 ?_
    exact kk _ ⟨f', r', hf', hq', kn, ra9, _, sm, _, _, hC', hB', hM', rfl⟩
theorem S_insert {p : Program} {l : Launch} {e : Env} {s : State} {m : MethodId} {args : Array Value} {below : List Frame} {meth : Method} {c : Code} {D : va_G} {cy : Nat → ClassId} {A : Nat → Prop} {Q : State → Prop} {X : (Nat → Prop) → State → Heap → Prop} {aK aV : Nat → Nat} {tO tT : Nat} {gO gT : Nat → Int32} {a : Nat → Nat → Nat} {ba : Nat → Nat} {o b L i cells slots : Nat} {xs : Nat → Int32} {w : va_W} (C : Fg p s m args meth c cL_law 7 RL D cy A) (hE : X A s s.heap) (hT : EnvT X cy aK aV tO tT gO gT) (hN : EnvN X) (hl : l.stackTraces = false) (hx : va_X b L xs s s.heap) (hbl : b < s.heap.size) (hbA : ¬ A b) (hi : i + 5 ≤ L) (hL : L ≤ 2560) (hc : cells + 500 ≤ room_1.cells) (hs : slots + 10000 ≤ room_1.slots) (hJ : JW cy a ba o w) (kk : ∀ w' : va_W, JW cy a ba o w' → vW p l e room_1 s m args below meth c D vwCl A Q 7 (cells + 500) (slots + 10000) w' [some (.ref b), some (.ref (a 0 0)), some (.ref (ba 9)), some (.ref o), some (.int (nI i)), none, none] 3456 []) : vW p l e room_1 s m args below meth c D vwCl A Q 7 cells slots w [some (.ref b), some (.ref (a 0 0)), some (.ref (ba 9)), some (.ref o), some (.int (nI i)), none, none] 321 [] := by
  have hX := hT.1.1
  obtain ⟨f, r, hf, hq, kn, ra, th, sm, n, v, hC, hB, hM, rfl⟩ := hJ
  refine r_aload_n C dL_law_321 rfl ?_
  refine r_aload_n C dL_law_322 rfl ?_
  refine r_iload C dL_law_323 rfl ?_
  refine r_iconst (v := nI 1) C dL_law_325 (by decide) ?_
  refine r_iaddN C dL_law_326 ?_
  refine r_sld C hx hbl hbA (show i + 1 < L by omega) (by omega) dL_law_327 ?_
  refine r_aload_n C dL_law_328 rfl ?_
  refine r_iload C dL_law_329 rfl ?_
  refine r_iconst (v := nI 2) C dL_law_331 (by decide) ?_
  refine r_iaddN C dL_law_332 ?_
  refine r_sld C hx hbl hbA (show i + 2 < L by omega) (by omega) dL_law_333 ?_
  refine r_aload_n C dL_law_334 rfl ?_
  refine r_iload C dL_law_335 rfl ?_
  refine r_iconst (v := nI 3) C dL_law_337 (by decide) ?_
  refine r_iaddN C dL_law_338 ?_
  refine r_sld C hx hbl hbA (show i + 3 < L by omega) (by omega) dL_law_339 ?_
  refine r_aload_n C dL_law_340 rfl ?_
  refine c_SH (st := []) hX.1.stb C hE (W_insert hX.1 hN hC hB hM (P_insert hX hl hC hB hM (xs (i + 1)) (xs (i + 2)) (xs (i + 3)))) pk_L_insert qm_L_185 rfl rfl (Nat.le_of_ble_eq_true rfl) dL_law_341 ⟨(Nat.le_of_ble_eq_true rfl), (Nat.le_of_ble_eq_true rfl)⟩ ⟨show cells + 1 ≤ room_1.cells by omega, show slots + 6 ≤ room_1.slots by omega⟩ (fun v9 w9 h9 => ?_) (fun _ h9 => h9.elim)
  obtain ⟨f', r', k, n1, rfl, rfl, hf', hq', n2, hC', hB', hM', hk0, hk4, h2⟩ := h9
  refine r_istore C dL_law_344 (by decide) rfl ?_
  refine r_aload_n C dL_law_346 rfl ?_
  refine r_aload_n C dL_law_347 rfl ?_
  refine r_iload C dL_law_348 rfl ?_
  refine r_iconst (v := nI 1) C dL_law_350 (by decide) ?_
  refine r_iaddN C dL_law_351 ?_
  refine r_sld C hx hbl hbA (show i + 1 < L by omega) (by omega) dL_law_352 ?_
  refine r_aload_n C dL_law_353 rfl ?_
  refine r_iload C dL_law_354 rfl ?_
  refine r_iconst (v := nI 2) C dL_law_356 (by decide) ?_
  refine r_iaddN C dL_law_357 ?_
  refine r_sld C hx hbl hbA (show i + 2 < L by omega) (by omega) dL_law_358 ?_
  refine r_aload_n C dL_law_359 rfl ?_
  refine r_iload C dL_law_360 rfl ?_
  refine r_iconst (v := nI 3) C dL_law_362 (by decide) ?_
  refine r_iaddN C dL_law_363 ?_
  refine r_sld C hx hbl hbA (show i + 3 < L by omega) (by omega) dL_law_364 ?_
  refine t_swap3 ?_
  refine c_V (st := []) hX.1.stb C hE (h2 _) pk_X4_insert qm_L_188 0 8 rfl rfl wm_0 rfl rfl (Nat.le_of_ble_eq_true rfl) dL_law_365 ⟨(Nat.le_of_ble_eq_true rfl), (Nat.le_of_ble_eq_true rfl)⟩ ⟨show cells + 1 + 4 ≤ room_1.cells by omega, show slots + 6 + 48 ≤ room_1.slots by omega⟩ (fun v9 w9 h9 => ?_) (fun _ h9 => h9.elim)
  obtain ⟨ra9, rfl, rfl⟩ := h9
  refine r_istore C dL_law_368 (by decide) rfl ?_
  refine r_aload_n C dL_law_370 rfl ?_
  refine d_V (st := []) hX.1.stb C hE (D_thrown hX) pk_X4_thrown qm_L_181 0 8 rfl rfl wm_0 rfl rfl (Nat.le_of_ble_eq_true rfl) dL_law_371 ⟨(Nat.le_of_ble_eq_true rfl), (Nat.le_of_ble_eq_true rfl)⟩ ⟨show cells + 1 + 4 + 0 ≤ room_1.cells by omega, show slots + 6 + 48 + 0 ≤ room_1.slots by omega⟩ ?_
  refine r_iload C dL_law_374 rfl ?_
  refine r_ic_eq (tgt := 381) C dL_law_376 (by decide) (fun _ => ?_) (fun hne => absurd rfl hne)
  refine t_swap3 ?_
  refine r_iload C dL_law_381 rfl ?_
  refine r_ifN_ne (a := k) (tgt := 399) C (by omega) dL_law_383 (by decide) (fun hk => ?_) (fun hk => ?_)
  · skip
    refine r_goto (tgt := 3456) C dL_law_399 (by decide) ?_
    refine r_widen (k := cells + 500) (n := slots + 10000) (show cells + 1 + 4 + 0 ≤ cells + 500 by omega) (show slots + 6 + 48 + 0 ≤ slots + 10000 by omega) ?_
    refine r_drop 5 ?_
    refine r_drop 6 ?_
    exact kk _ ⟨f', r', hf', hq', kn, ra9, _, sm, _, _, hC', hB', hM', rfl⟩
  · subst hk
    have e1 := hk0 rfl
    subst e1
    refine r_aload_n C dL_law_386 rfl ?_
    refine g_getN hX.1 C hE qu_X3 (ci := 7) rfl 38 outo_at 0 (by decide) qn_L_13 rfl rfl dL_law_387 ?_
    refine r_iload C dL_law_390 rfl ?_
    refine r_i2l C dL_law_392 ?_
    refine r_lcmpE C dL_law_393 ?_
    refine r_if_eq (tgt := 399) C dL_law_394 (by decide) (fun _ => ?_) (fun hne => absurd rfl hne)
    refine r_goto (tgt := 3456) C dL_law_399 (by decide) ?_
    refine r_widen (k := cells + 500) (n := slots + 10000) (show cells + 1 + 4 + 0 ≤ cells + 500 by omega) (show slots + 6 + 48 + 0 ≤ slots + 10000 by omega) ?_
    refine r_drop 5 ?_
    refine r_drop 6 ?_
    exact kk _ ⟨f', r', hf', hq', kn, ra9, _, sm, _, _, hC', hB', hM', rfl⟩
theorem S_set {p : Program} {l : Launch} {e : Env} {s : State} {m : MethodId} {args : Array Value} {below : List Frame} {meth : Method} {c : Code} {D : va_G} {cy : Nat → ClassId} {A : Nat → Prop} {Q : State → Prop} {X : (Nat → Prop) → State → Heap → Prop} {aK aV : Nat → Nat} {tO tT : Nat} {gO gT : Nat → Int32} {a : Nat → Nat → Nat} {ba : Nat → Nat} {o b L i cells slots : Nat} {xs : Nat → Int32} {w : va_W} (C : Fg p s m args meth c cL_law 7 RL D cy A) (hE : X A s s.heap) (hT : EnvT X cy aK aV tO tT gO gT) (hN : EnvN X) (hl : l.stackTraces = false) (hx : va_X b L xs s s.heap) (hbl : b < s.heap.size) (hbA : ¬ A b) (hi : i + 5 ≤ L) (hL : L ≤ 2560) (hc : cells + 500 ≤ room_1.cells) (hs : slots + 10000 ≤ room_1.slots) (hJ : JW cy a ba o w) (kk : ∀ w' : va_W, JW cy a ba o w' → vW p l e room_1 s m args below meth c D vwCl A Q 7 (cells + 500) (slots + 10000) w' [some (.ref b), some (.ref (a 0 0)), some (.ref (ba 9)), some (.ref o), some (.int (nI i)), none, none] 3456 []) : vW p l e room_1 s m args below meth c D vwCl A Q 7 cells slots w [some (.ref b), some (.ref (a 0 0)), some (.ref (ba 9)), some (.ref o), some (.int (nI i)), none, none] 402 [] := by
  have hX := hT.1.1
  obtain ⟨f, r, hf, hq, kn, ra, th, sm, n, v, hC, hB, hM, rfl⟩ := hJ
  refine r_aload_n C dL_law_402 rfl ?_
  refine r_aload_n C dL_law_403 rfl ?_
  refine r_iload C dL_law_404 rfl ?_
  refine r_iconst (v := nI 1) C dL_law_406 (by decide) ?_
  refine r_iaddN C dL_law_407 ?_
  refine r_sld C hx hbl hbA (show i + 1 < L by omega) (by omega) dL_law_408 ?_
  refine r_aload_n C dL_law_409 rfl ?_
  refine r_iload C dL_law_410 rfl ?_
  refine r_iconst (v := nI 2) C dL_law_412 (by decide) ?_
  refine r_iaddN C dL_law_413 ?_
  refine r_sld C hx hbl hbA (show i + 2 < L by omega) (by omega) dL_law_414 ?_
  refine r_aload_n C dL_law_415 rfl ?_
  refine r_iload C dL_law_416 rfl ?_
  refine r_iconst (v := nI 3) C dL_law_418 (by decide) ?_
  refine r_iaddN C dL_law_419 ?_
  refine r_sld C hx hbl hbA (show i + 3 < L by omega) (by omega) dL_law_420 ?_
  refine r_aload_n C dL_law_421 rfl ?_
  refine c_SH (st := []) hX.1.stb C hE (W_set hX.1 hN hC hB hM (P_set hX hl hC hB hM (xs (i + 1)) (xs (i + 2)) (xs (i + 3)))) pk_L_set qm_L_189 rfl rfl (Nat.le_of_ble_eq_true rfl) dL_law_422 ⟨(Nat.le_of_ble_eq_true rfl), (Nat.le_of_ble_eq_true rfl)⟩ ⟨show cells + 1 ≤ room_1.cells by omega, show slots + 6 ≤ room_1.slots by omega⟩ (fun v9 w9 h9 => ?_) (fun _ h9 => h9.elim)
  obtain ⟨f', r', k, n1, rfl, rfl, hf', hq', n2, hC', hB', hM', hk0, hk4, h2⟩ := h9
  refine r_istore C dL_law_425 (by decide) rfl ?_
  refine r_aload_n C dL_law_427 rfl ?_
  refine r_aload_n C dL_law_428 rfl ?_
  refine r_iload C dL_law_429 rfl ?_
  refine r_iconst (v := nI 1) C dL_law_431 (by decide) ?_
  refine r_iaddN C dL_law_432 ?_
  refine r_sld C hx hbl hbA (show i + 1 < L by omega) (by omega) dL_law_433 ?_
  refine r_aload_n C dL_law_434 rfl ?_
  refine r_iload C dL_law_435 rfl ?_
  refine r_iconst (v := nI 2) C dL_law_437 (by decide) ?_
  refine r_iaddN C dL_law_438 ?_
  refine r_sld C hx hbl hbA (show i + 2 < L by omega) (by omega) dL_law_439 ?_
  refine r_aload_n C dL_law_440 rfl ?_
  refine r_iload C dL_law_441 rfl ?_
  refine r_iconst (v := nI 3) C dL_law_443 (by decide) ?_
  refine r_iaddN C dL_law_444 ?_
  refine r_sld C hx hbl hbA (show i + 3 < L by omega) (by omega) dL_law_445 ?_
  refine t_swap3 ?_
  refine c_V (st := []) hX.1.stb C hE (h2 _) pk_X4_set qm_L_191 0 8 rfl rfl wm_0 rfl rfl (Nat.le_of_ble_eq_true rfl) dL_law_446 ⟨(Nat.le_of_ble_eq_true rfl), (Nat.le_of_ble_eq_true rfl)⟩ ⟨show cells + 1 + 4 ≤ room_1.cells by omega, show slots + 6 + 48 ≤ room_1.slots by omega⟩ (fun v9 w9 h9 => ?_) (fun _ h9 => h9.elim)
  obtain ⟨ra9, rfl, rfl⟩ := h9
  refine r_istore C dL_law_449 (by decide) rfl ?_
  refine r_aload_n C dL_law_451 rfl ?_
  refine d_V (st := []) hX.1.stb C hE (D_thrown hX) pk_X4_thrown qm_L_181 0 8 rfl rfl wm_0 rfl rfl (Nat.le_of_ble_eq_true rfl) dL_law_452 ⟨(Nat.le_of_ble_eq_true rfl), (Nat.le_of_ble_eq_true rfl)⟩ ⟨show cells + 1 + 4 + 0 ≤ room_1.cells by omega, show slots + 6 + 48 + 0 ≤ room_1.slots by omega⟩ ?_
  refine r_iload C dL_law_455 rfl ?_
  refine r_ic_eq (tgt := 462) C dL_law_457 (by decide) (fun _ => ?_) (fun hne => absurd rfl hne)
  refine t_swap3 ?_
  refine r_iload C dL_law_462 rfl ?_
  refine r_ifN_ne (a := k) (tgt := 480) C (by omega) dL_law_464 (by decide) (fun hk => ?_) (fun hk => ?_)
  · skip
    refine r_goto (tgt := 3456) C dL_law_480 (by decide) ?_
    refine r_widen (k := cells + 500) (n := slots + 10000) (show cells + 1 + 4 + 0 ≤ cells + 500 by omega) (show slots + 6 + 48 + 0 ≤ slots + 10000 by omega) ?_
    refine r_drop 5 ?_
    refine r_drop 6 ?_
    exact kk _ ⟨f', r', hf', hq', kn, ra9, _, sm, _, _, hC', hB', hM', rfl⟩
  · subst hk
    have e1 := hk0 rfl
    subst e1
    refine r_aload_n C dL_law_467 rfl ?_
    refine g_getN hX.1 C hE qu_X3 (ci := 7) rfl 38 outo_at 0 (by decide) qn_L_13 rfl rfl dL_law_468 ?_
    refine r_iload C dL_law_471 rfl ?_
    refine r_i2l C dL_law_473 ?_
    refine r_lcmpE C dL_law_474 ?_
    refine r_if_eq (tgt := 480) C dL_law_475 (by decide) (fun _ => ?_) (fun hne => absurd rfl hne)
    refine r_goto (tgt := 3456) C dL_law_480 (by decide) ?_
    refine r_widen (k := cells + 500) (n := slots + 10000) (show cells + 1 + 4 + 0 ≤ cells + 500 by omega) (show slots + 6 + 48 + 0 ≤ slots + 10000 by omega) ?_
    refine r_drop 5 ?_
    refine r_drop 6 ?_
    exact kk _ ⟨f', r', hf', hq', kn, ra9, _, sm, _, _, hC', hB', hM', rfl⟩
theorem S_remove {p : Program} {l : Launch} {e : Env} {s : State} {m : MethodId} {args : Array Value} {below : List Frame} {meth : Method} {c : Code} {D : va_G} {cy : Nat → ClassId} {A : Nat → Prop} {Q : State → Prop} {X : (Nat → Prop) → State → Heap → Prop} {aK aV : Nat → Nat} {tO tT : Nat} {gO gT : Nat → Int32} {a : Nat → Nat → Nat} {ba : Nat → Nat} {o b L i cells slots : Nat} {xs : Nat → Int32} {w : va_W} (C : Fg p s m args meth c cL_law 7 RL D cy A) (hE : X A s s.heap) (hT : EnvT X cy aK aV tO tT gO gT) (hN : EnvN X) (hl : l.stackTraces = false) (hx : va_X b L xs s s.heap) (hbl : b < s.heap.size) (hbA : ¬ A b) (hi : i + 5 ≤ L) (hL : L ≤ 2560) (hc : cells + 500 ≤ room_1.cells) (hs : slots + 10000 ≤ room_1.slots) (hJ : JW cy a ba o w) (kk : ∀ w' : va_W, JW cy a ba o w' → vW p l e room_1 s m args below meth c D vwCl A Q 7 (cells + 500) (slots + 10000) w' [some (.ref b), some (.ref (a 0 0)), some (.ref (ba 9)), some (.ref o), some (.int (nI i)), none, none] 3456 []) : vW p l e room_1 s m args below meth c D vwCl A Q 7 cells slots w [some (.ref b), some (.ref (a 0 0)), some (.ref (ba 9)), some (.ref o), some (.int (nI i)), none, none] 483 [] := by
  have hX := hT.1.1
  obtain ⟨f, r, hf, hq, kn, ra, th, sm, n, v, hC, hB, hM, rfl⟩ := hJ
  refine r_aload_n C dL_law_483 rfl ?_
  refine r_aload_n C dL_law_484 rfl ?_
  refine r_iload C dL_law_485 rfl ?_
  refine r_iconst (v := nI 1) C dL_law_487 (by decide) ?_
  refine r_iaddN C dL_law_488 ?_
  refine r_sld C hx hbl hbA (show i + 1 < L by omega) (by omega) dL_law_489 ?_
  refine r_aload_n C dL_law_490 rfl ?_
  refine r_iload C dL_law_491 rfl ?_
  refine r_iconst (v := nI 2) C dL_law_493 (by decide) ?_
  refine r_iaddN C dL_law_494 ?_
  refine r_sld C hx hbl hbA (show i + 2 < L by omega) (by omega) dL_law_495 ?_
  refine r_aload_n C dL_law_496 rfl ?_
  refine c_SH (st := []) hX.1.stb C hE (W_remove hX.1 hN hC hB hM (P_remove hX hl hC hB hM (xs (i + 1)) (xs (i + 2)))) pk_L_remove qm_L_192 rfl rfl (Nat.le_of_ble_eq_true rfl) dL_law_497 ⟨(Nat.le_of_ble_eq_true rfl), (Nat.le_of_ble_eq_true rfl)⟩ ⟨show cells + 1 ≤ room_1.cells by omega, show slots + 6 ≤ room_1.slots by omega⟩ (fun v9 w9 h9 => ?_) (fun _ h9 => h9.elim)
  obtain ⟨f', r', k, n1, rfl, rfl, hf', hq', n2, hC', hB', hM', hk0, hk4, h2⟩ := h9
  refine r_istore C dL_law_500 (by decide) rfl ?_
  refine r_aload_n C dL_law_502 rfl ?_
  refine r_aload_n C dL_law_503 rfl ?_
  refine r_iload C dL_law_504 rfl ?_
  refine r_iconst (v := nI 1) C dL_law_506 (by decide) ?_
  refine r_iaddN C dL_law_507 ?_
  refine r_sld C hx hbl hbA (show i + 1 < L by omega) (by omega) dL_law_508 ?_
  refine r_aload_n C dL_law_509 rfl ?_
  refine r_iload C dL_law_510 rfl ?_
  refine r_iconst (v := nI 2) C dL_law_512 (by decide) ?_
  refine r_iaddN C dL_law_513 ?_
  refine r_sld C hx hbl hbA (show i + 2 < L by omega) (by omega) dL_law_514 ?_
  refine t_swap3 ?_
  refine c_V (st := []) hX.1.stb C hE (h2 _) pk_X4_remove qm_L_194 0 8 rfl rfl wm_0 rfl rfl (Nat.le_of_ble_eq_true rfl) dL_law_515 ⟨(Nat.le_of_ble_eq_true rfl), (Nat.le_of_ble_eq_true rfl)⟩ ⟨show cells + 1 + 4 ≤ room_1.cells by omega, show slots + 6 + 48 ≤ room_1.slots by omega⟩ (fun v9 w9 h9 => ?_) (fun _ h9 => h9.elim)
  obtain ⟨ra9, rfl, rfl⟩ := h9
  refine r_istore C dL_law_518 (by decide) rfl ?_
  refine r_aload_n C dL_law_520 rfl ?_
  refine d_V (st := []) hX.1.stb C hE (D_thrown hX) pk_X4_thrown qm_L_181 0 8 rfl rfl wm_0 rfl rfl (Nat.le_of_ble_eq_true rfl) dL_law_521 ⟨(Nat.le_of_ble_eq_true rfl), (Nat.le_of_ble_eq_true rfl)⟩ ⟨show cells + 1 + 4 + 0 ≤ room_1.cells by omega, show slots + 6 + 48 + 0 ≤ room_1.slots by omega⟩ ?_
  refine r_iload C dL_law_524 rfl ?_
  refine r_ic_eq (tgt := 531) C dL_law_526 (by decide) (fun _ => ?_) (fun hne => absurd rfl hne)
  refine t_swap3 ?_
  refine r_iload C dL_law_531 rfl ?_
  refine r_ifN_ne (a := k) (tgt := 549) C (by omega) dL_law_533 (by decide) (fun hk => ?_) (fun hk => ?_)
  · skip
    refine r_goto (tgt := 3456) C dL_law_549 (by decide) ?_
    refine r_widen (k := cells + 500) (n := slots + 10000) (show cells + 1 + 4 + 0 ≤ cells + 500 by omega) (show slots + 6 + 48 + 0 ≤ slots + 10000 by omega) ?_
    refine r_drop 5 ?_
    refine r_drop 6 ?_
    exact kk _ ⟨f', r', hf', hq', kn, ra9, _, sm, _, _, hC', hB', hM', rfl⟩
  · subst hk
    have e1 := hk0 rfl
    subst e1
    refine r_aload_n C dL_law_536 rfl ?_
    refine g_getN hX.1 C hE qu_X3 (ci := 7) rfl 38 outo_at 0 (by decide) qn_L_13 rfl rfl dL_law_537 ?_
    refine r_iload C dL_law_540 rfl ?_
    refine r_i2l C dL_law_542 ?_
    refine r_lcmpE C dL_law_543 ?_
    refine r_if_eq (tgt := 549) C dL_law_544 (by decide) (fun _ => ?_) (fun hne => absurd rfl hne)
    refine r_goto (tgt := 3456) C dL_law_549 (by decide) ?_
    refine r_widen (k := cells + 500) (n := slots + 10000) (show cells + 1 + 4 + 0 ≤ cells + 500 by omega) (show slots + 6 + 48 + 0 ≤ slots + 10000 by omega) ?_
    refine r_drop 5 ?_
    refine r_drop 6 ?_
    exact kk _ ⟨f', r', hf', hq', kn, ra9, _, sm, _, _, hC', hB', hM', rfl⟩
theorem S_clear {p : Program} {l : Launch} {e : Env} {s : State} {m : MethodId} {args : Array Value} {below : List Frame} {meth : Method} {c : Code} {D : va_G} {cy : Nat → ClassId} {A : Nat → Prop} {Q : State → Prop} {X : (Nat → Prop) → State → Heap → Prop} {aK aV : Nat → Nat} {tO tT : Nat} {gO gT : Nat → Int32} {a : Nat → Nat → Nat} {ba : Nat → Nat} {o b L i cells slots : Nat} {xs : Nat → Int32} {w : va_W} (C : Fg p s m args meth c cL_law 7 RL D cy A) (hE : X A s s.heap) (hT : EnvT X cy aK aV tO tT gO gT) (hN : EnvN X) (hl : l.stackTraces = false) (hx : va_X b L xs s s.heap) (hbl : b < s.heap.size) (hbA : ¬ A b) (hi : i + 5 ≤ L) (hL : L ≤ 2560) (hc : cells + 500 ≤ room_1.cells) (hs : slots + 10000 ≤ room_1.slots) (hJ : JW cy a ba o w) (kk : ∀ w' : va_W, JW cy a ba o w' → vW p l e room_1 s m args below meth c D vwCl A Q 7 (cells + 500) (slots + 10000) w' [some (.ref b), some (.ref (a 0 0)), some (.ref (ba 9)), some (.ref o), some (.int (nI i)), none, none] 3456 []) : vW p l e room_1 s m args below meth c D vwCl A Q 7 cells slots w [some (.ref b), some (.ref (a 0 0)), some (.ref (ba 9)), some (.ref o), some (.int (nI i)), none, none] 552 [] := by
  have hX := hT.1.1
  obtain ⟨f, r, hf, hq, kn, ra, th, sm, n, v, hC, hB, hM, rfl⟩ := hJ
  refine r_aload_n C dL_law_552 rfl ?_
  refine r_aload_n C dL_law_553 rfl ?_
  refine r_iload C dL_law_554 rfl ?_
  refine r_iconst (v := nI 1) C dL_law_556 (by decide) ?_
  refine r_iaddN C dL_law_557 ?_
  refine r_sld C hx hbl hbA (show i + 1 < L by omega) (by omega) dL_law_558 ?_
  refine r_aload_n C dL_law_559 rfl ?_
  refine c_SH (st := []) hX.1.stb C hE (W_clear hX.1 hN hC hB hM (P_clear hX hl hC hB hM (xs (i + 1)))) pk_L_clear qm_L_195 rfl rfl (Nat.le_of_ble_eq_true rfl) dL_law_560 ⟨(Nat.le_of_ble_eq_true rfl), (Nat.le_of_ble_eq_true rfl)⟩ ⟨show cells + 1 ≤ room_1.cells by omega, show slots + 6 ≤ room_1.slots by omega⟩ (fun v9 w9 h9 => ?_) (fun _ h9 => h9.elim)
  obtain ⟨f', r', k, n1, rfl, rfl, hf', hq', n2, hC', hB', hM', hk0, hk4, h2⟩ := h9
  refine r_istore C dL_law_563 (by decide) rfl ?_
  refine r_aload_n C dL_law_565 rfl ?_
  refine r_aload_n C dL_law_566 rfl ?_
  refine r_iload C dL_law_567 rfl ?_
  refine r_iconst (v := nI 1) C dL_law_569 (by decide) ?_
  refine r_iaddN C dL_law_570 ?_
  refine r_sld C hx hbl hbA (show i + 1 < L by omega) (by omega) dL_law_571 ?_
  refine t_swap3 ?_
  refine c_V (st := []) hX.1.stb C hE (h2 _) pk_X4_clear qm_L_198 0 8 rfl rfl wm_0 rfl rfl (Nat.le_of_ble_eq_true rfl) dL_law_572 ⟨(Nat.le_of_ble_eq_true rfl), (Nat.le_of_ble_eq_true rfl)⟩ ⟨show cells + 1 + 4 ≤ room_1.cells by omega, show slots + 6 + 48 ≤ room_1.slots by omega⟩ (fun v9 w9 h9 => ?_) (fun _ h9 => h9.elim)
  obtain ⟨ra9, rfl, rfl⟩ := h9
  refine r_istore C dL_law_575 (by decide) rfl ?_
  refine r_aload_n C dL_law_577 rfl ?_
  refine d_V (st := []) hX.1.stb C hE (D_thrown hX) pk_X4_thrown qm_L_181 0 8 rfl rfl wm_0 rfl rfl (Nat.le_of_ble_eq_true rfl) dL_law_578 ⟨(Nat.le_of_ble_eq_true rfl), (Nat.le_of_ble_eq_true rfl)⟩ ⟨show cells + 1 + 4 + 0 ≤ room_1.cells by omega, show slots + 6 + 48 + 0 ≤ room_1.slots by omega⟩ ?_
  refine r_iload C dL_law_581 rfl ?_
  refine r_ic_eq (tgt := 588) C dL_law_583 (by decide) (fun _ => ?_) (fun hne => absurd rfl hne)
  refine t_swap3 ?_
  refine r_iload C dL_law_588 rfl ?_
  refine r_ifN_ne (a := k) (tgt := 606) C (by omega) dL_law_590 (by decide) (fun hk => ?_) (fun hk => ?_)
  · skip
    refine r_goto (tgt := 3456) C dL_law_606 (by decide) ?_
    refine r_widen (k := cells + 500) (n := slots + 10000) (show cells + 1 + 4 + 0 ≤ cells + 500 by omega) (show slots + 6 + 48 + 0 ≤ slots + 10000 by omega) ?_
    refine r_drop 5 ?_
    refine r_drop 6 ?_
    exact kk _ ⟨f', r', hf', hq', kn, ra9, _, sm, _, _, hC', hB', hM', rfl⟩
  · subst hk
    have e1 := hk0 rfl
    subst e1
    refine r_aload_n C dL_law_593 rfl ?_
    refine g_getN hX.1 C hE qu_X3 (ci := 7) rfl 38 outo_at 0 (by decide) qn_L_13 rfl rfl dL_law_594 ?_
    refine r_iload C dL_law_597 rfl ?_
    refine r_i2l C dL_law_599 ?_
    refine r_lcmpE C dL_law_600 ?_
    refine r_if_eq (tgt := 606) C dL_law_601 (by decide) (fun _ => ?_) (fun hne => absurd rfl hne)
    refine r_goto (tgt := 3456) C dL_law_606 (by decide) ?_
    refine r_widen (k := cells + 500) (n := slots + 10000) (show cells + 1 + 4 + 0 ≤ cells + 500 by omega) (show slots + 6 + 48 + 0 ≤ slots + 10000 by omega) ?_
    refine r_drop 5 ?_
    refine r_drop 6 ?_
    exact kk _ ⟨f', r', hf', hq', kn, ra9, _, sm, _, _, hC', hB', hM', rfl⟩
theorem S_splice {p : Program} {l : Launch} {e : Env} {s : State} {m : MethodId} {args : Array Value} {below : List Frame} {meth : Method} {c : Code} {D : va_G} {cy : Nat → ClassId} {A : Nat → Prop} {Q : State → Prop} {X : (Nat → Prop) → State → Heap → Prop} {aK aV : Nat → Nat} {tO tT : Nat} {gO gT : Nat → Int32} {a : Nat → Nat → Nat} {ba : Nat → Nat} {o b L i cells slots : Nat} {xs : Nat → Int32} {w : va_W} (C : Fg p s m args meth c cL_law 7 RL D cy A) (hE : X A s s.heap) (hT : EnvT X cy aK aV tO tT gO gT) (hN : EnvN X) (hl : l.stackTraces = false) (hx : va_X b L xs s s.heap) (hbl : b < s.heap.size) (hbA : ¬ A b) (hi : i + 5 ≤ L) (hL : L ≤ 2560) (hc : cells + 500 ≤ room_1.cells) (hs : slots + 10000 ≤ room_1.slots) (hJ : JW cy a ba o w) (kk : ∀ w' : va_W, JW cy a ba o w' → vW p l e room_1 s m args below meth c D vwCl A Q 7 (cells + 500) (slots + 10000) w' [some (.ref b), some (.ref (a 0 0)), some (.ref (ba 9)), some (.ref o), some (.int (nI i)), none, none] 3456 []) : vW p l e room_1 s m args below meth c D vwCl A Q 7 cells slots w [some (.ref b), some (.ref (a 0 0)), some (.ref (ba 9)), some (.ref o), some (.int (nI i)), none, none] 609 [] := by
  have hX := hT.1.1
  obtain ⟨f, r, hf, hq, kn, ra, th, sm, n, v, hC, hB, hM, rfl⟩ := hJ
  refine r_aload_n C dL_law_609 rfl ?_
  refine r_aload_n C dL_law_610 rfl ?_
  refine r_iload C dL_law_611 rfl ?_
  refine r_iconst (v := nI 1) C dL_law_613 (by decide) ?_
  refine r_iaddN C dL_law_614 ?_
  refine r_sld C hx hbl hbA (show i + 1 < L by omega) (by omega) dL_law_615 ?_
  refine r_aload_n C dL_law_616 rfl ?_
  refine r_iload C dL_law_617 rfl ?_
  refine r_iconst (v := nI 2) C dL_law_619 (by decide) ?_
  refine r_iaddN C dL_law_620 ?_
  refine r_sld C hx hbl hbA (show i + 2 < L by omega) (by omega) dL_law_621 ?_
  refine r_aload_n C dL_law_622 rfl ?_
  refine r_iload C dL_law_623 rfl ?_
  refine r_iconst (v := nI 3) C dL_law_625 (by decide) ?_
  refine r_iaddN C dL_law_626 ?_
  refine r_sld C hx hbl hbA (show i + 3 < L by omega) (by omega) dL_law_627 ?_
  refine r_aload_n C dL_law_628 rfl ?_
  refine r_iload C dL_law_629 rfl ?_
  refine r_iconst (v := nI 4) C dL_law_631 (by decide) ?_
  refine r_iaddN C dL_law_632 ?_
  refine r_sld C hx hbl hbA (show i + 4 < L by omega) (by omega) dL_law_633 ?_
  refine r_aload_n C dL_law_634 rfl ?_
  refine c_SH (st := []) hX.1.stb C hE (W_splice hX.1 hN hC hB hM (P_splice hX hl hC hB hM (xs (i + 1)) (xs (i + 2)) (xs (i + 3)) (xs (i + 4)))) pk_L_splice qm_L_199 rfl rfl (Nat.le_of_ble_eq_true rfl) dL_law_635 ⟨(Nat.le_of_ble_eq_true rfl), (Nat.le_of_ble_eq_true rfl)⟩ ⟨show cells + 1 ≤ room_1.cells by omega, show slots + 6 ≤ room_1.slots by omega⟩ (fun v9 w9 h9 => ?_) (fun _ h9 => h9.elim)
  obtain ⟨f', r', k, n1, rfl, rfl, hf', hq', n2, hC', hB', hM', hk0, hk4, h2⟩ := h9
  refine r_istore C dL_law_638 (by decide) rfl ?_
  refine r_aload_n C dL_law_640 rfl ?_
  refine r_aload_n C dL_law_641 rfl ?_
  refine r_iload C dL_law_642 rfl ?_
  refine r_iconst (v := nI 1) C dL_law_644 (by decide) ?_
  refine r_iaddN C dL_law_645 ?_
  refine r_sld C hx hbl hbA (show i + 1 < L by omega) (by omega) dL_law_646 ?_
  refine r_aload_n C dL_law_647 rfl ?_
  refine r_iload C dL_law_648 rfl ?_
  refine r_iconst (v := nI 2) C dL_law_650 (by decide) ?_
  refine r_iaddN C dL_law_651 ?_
  refine r_sld C hx hbl hbA (show i + 2 < L by omega) (by omega) dL_law_652 ?_
  refine r_aload_n C dL_law_653 rfl ?_
  refine r_iload C dL_law_654 rfl ?_
  refine r_iconst (v := nI 3) C dL_law_656 (by decide) ?_
  refine r_iaddN C dL_law_657 ?_
  refine r_sld C hx hbl hbA (show i + 3 < L by omega) (by omega) dL_law_658 ?_
  refine r_aload_n C dL_law_659 rfl ?_
  refine r_iload C dL_law_660 rfl ?_
  refine r_iconst (v := nI 4) C dL_law_662 (by decide) ?_
  refine r_iaddN C dL_law_663 ?_
  refine r_sld C hx hbl hbA (show i + 4 < L by omega) (by omega) dL_law_664 ?_
  refine t_swap3 ?_
  refine c_V (st := []) hX.1.stb C hE (h2 _) pk_X4_splice qm_L_202 0 8 rfl rfl wm_0 rfl rfl (Nat.le_of_ble_eq_true rfl) dL_law_665 ⟨(Nat.le_of_ble_eq_true rfl), (Nat.le_of_ble_eq_true rfl)⟩ ⟨show cells + 1 + 4 ≤ room_1.cells by omega, show slots + 6 + 48 ≤ room_1.slots by omega⟩ (fun v9 w9 h9 => ?_) (fun _ h9 => h9.elim)
  obtain ⟨ra9, rfl, rfl⟩ := h9
  refine r_istore C dL_law_668 (by decide) rfl ?_
  refine r_aload_n C dL_law_670 rfl ?_
  refine d_V (st := []) hX.1.stb C hE (D_thrown hX) pk_X4_thrown qm_L_181 0 8 rfl rfl wm_0 rfl rfl (Nat.le_of_ble_eq_true rfl) dL_law_671 ⟨(Nat.le_of_ble_eq_true rfl), (Nat.le_of_ble_eq_true rfl)⟩ ⟨show cells + 1 + 4 + 0 ≤ room_1.cells by omega, show slots + 6 + 48 + 0 ≤ room_1.slots by omega⟩ ?_
  refine r_iload C dL_law_674 rfl ?_
  refine r_ic_eq (tgt := 681) C dL_law_676 (by decide) (fun _ => ?_) (fun hne => absurd rfl hne)
  refine t_swap3 ?_
  refine r_iload C dL_law_681 rfl ?_
  refine r_ifN_ne (a := k) (tgt := 699) C (by omega) dL_law_683 (by decide) (fun hk => ?_) (fun hk => ?_)
  · skip
    refine r_goto (tgt := 3456) C dL_law_699 (by decide) ?_
    refine r_widen (k := cells + 500) (n := slots + 10000) (show cells + 1 + 4 + 0 ≤ cells + 500 by omega) (show slots + 6 + 48 + 0 ≤ slots + 10000 by omega) ?_
    refine r_drop 5 ?_
    refine r_drop 6 ?_
    exact kk _ ⟨f', r', hf', hq', kn, ra9, _, sm, _, _, hC', hB', hM', rfl⟩
  · subst hk
    have e1 := hk0 rfl
    subst e1
    refine r_aload_n C dL_law_686 rfl ?_
    refine g_getN hX.1 C hE qu_X3 (ci := 7) rfl 38 outo_at 0 (by decide) qn_L_13 rfl rfl dL_law_687 ?_
    refine r_iload C dL_law_690 rfl ?_
    refine r_i2l C dL_law_692 ?_
    refine r_lcmpE C dL_law_693 ?_
    refine r_if_eq (tgt := 699) C dL_law_694 (by decide) (fun _ => ?_) (fun hne => absurd rfl hne)
    refine r_goto (tgt := 3456) C dL_law_699 (by decide) ?_
    refine r_widen (k := cells + 500) (n := slots + 10000) (show cells + 1 + 4 + 0 ≤ cells + 500 by omega) (show slots + 6 + 48 + 0 ≤ slots + 10000 by omega) ?_
    refine r_drop 5 ?_
    refine r_drop 6 ?_
    exact kk _ ⟨f', r', hf', hq', kn, ra9, _, sm, _, _, hC', hB', hM', rfl⟩
theorem S_rotate {p : Program} {l : Launch} {e : Env} {s : State} {m : MethodId} {args : Array Value} {below : List Frame} {meth : Method} {c : Code} {D : va_G} {cy : Nat → ClassId} {A : Nat → Prop} {Q : State → Prop} {X : (Nat → Prop) → State → Heap → Prop} {aK aV : Nat → Nat} {tO tT : Nat} {gO gT : Nat → Int32} {a : Nat → Nat → Nat} {ba : Nat → Nat} {o b L i cells slots : Nat} {xs : Nat → Int32} {w : va_W} (C : Fg p s m args meth c cL_law 7 RL D cy A) (hE : X A s s.heap) (hT : EnvT X cy aK aV tO tT gO gT) (hN : EnvN X) (hl : l.stackTraces = false) (hx : va_X b L xs s s.heap) (hbl : b < s.heap.size) (hbA : ¬ A b) (hi : i + 5 ≤ L) (hL : L ≤ 2560) (hc : cells + 500 ≤ room_1.cells) (hs : slots + 10000 ≤ room_1.slots) (hJ : JW cy a ba o w) (kk : ∀ w' : va_W, JW cy a ba o w' → vW p l e room_1 s m args below meth c D vwCl A Q 7 (cells + 500) (slots + 10000) w' [some (.ref b), some (.ref (a 0 0)), some (.ref (ba 9)), some (.ref o), some (.int (nI i)), none, none] 3456 []) : vW p l e room_1 s m args below meth c D vwCl A Q 7 cells slots w [some (.ref b), some (.ref (a 0 0)), some (.ref (ba 9)), some (.ref o), some (.int (nI i)), none, none] 702 [] := by
  have hX := hT.1.1
  obtain ⟨f, r, hf, hq, kn, ra, th, sm, n, v, hC, hB, hM, rfl⟩ := hJ
  refine r_aload_n C dL_law_702 rfl ?_
  refine r_aload_n C dL_law_703 rfl ?_
  refine r_iload C dL_law_704 rfl ?_
  refine r_iconst (v := nI 1) C dL_law_706 (by decide) ?_
  refine r_iaddN C dL_law_707 ?_
  refine r_sld C hx hbl hbA (show i + 1 < L by omega) (by omega) dL_law_708 ?_
  refine r_aload_n C dL_law_709 rfl ?_
  refine r_iload C dL_law_710 rfl ?_
  refine r_iconst (v := nI 2) C dL_law_712 (by decide) ?_
  refine r_iaddN C dL_law_713 ?_
  refine r_sld C hx hbl hbA (show i + 2 < L by omega) (by omega) dL_law_714 ?_
  refine r_aload_n C dL_law_715 rfl ?_
  refine c_SH (st := []) hX.1.stb C hE (W_rotate hX.1 hN hC hB hM (P_rotate hX hl hC hB hM (xs (i + 1)) (xs (i + 2)))) pk_L_rotate qm_L_203 rfl rfl (Nat.le_of_ble_eq_true rfl) dL_law_716 ⟨(Nat.le_of_ble_eq_true rfl), (Nat.le_of_ble_eq_true rfl)⟩ ⟨show cells + 1 ≤ room_1.cells by omega, show slots + 6 ≤ room_1.slots by omega⟩ (fun v9 w9 h9 => ?_) (fun _ h9 => h9.elim)
  obtain ⟨f', r', k, n1, rfl, rfl, hf', hq', n2, hC', hB', hM', hk0, hk4, h2⟩ := h9
  refine r_istore C dL_law_719 (by decide) rfl ?_
  refine r_aload_n C dL_law_721 rfl ?_
  refine r_aload_n C dL_law_722 rfl ?_
  refine r_iload C dL_law_723 rfl ?_
  refine r_iconst (v := nI 1) C dL_law_725 (by decide) ?_
  refine r_iaddN C dL_law_726 ?_
  refine r_sld C hx hbl hbA (show i + 1 < L by omega) (by omega) dL_law_727 ?_
  refine r_aload_n C dL_law_728 rfl ?_
  refine r_iload C dL_law_729 rfl ?_
  refine r_iconst (v := nI 2) C dL_law_731 (by decide) ?_
  refine r_iaddN C dL_law_732 ?_
  refine r_sld C hx hbl hbA (show i + 2 < L by omega) (by omega) dL_law_733 ?_
  refine t_swap3 ?_
  refine c_V (st := []) hX.1.stb C hE (h2 _) pk_X4_rotate qm_L_205 0 8 rfl rfl wm_0 rfl rfl (Nat.le_of_ble_eq_true rfl) dL_law_734 ⟨(Nat.le_of_ble_eq_true rfl), (Nat.le_of_ble_eq_true rfl)⟩ ⟨show cells + 1 + 4 ≤ room_1.cells by omega, show slots + 6 + 48 ≤ room_1.slots by omega⟩ (fun v9 w9 h9 => ?_) (fun _ h9 => h9.elim)
  obtain ⟨ra9, rfl, rfl⟩ := h9
  refine r_istore C dL_law_737 (by decide) rfl ?_
  refine r_aload_n C dL_law_739 rfl ?_
  refine d_V (st := []) hX.1.stb C hE (D_thrown hX) pk_X4_thrown qm_L_181 0 8 rfl rfl wm_0 rfl rfl (Nat.le_of_ble_eq_true rfl) dL_law_740 ⟨(Nat.le_of_ble_eq_true rfl), (Nat.le_of_ble_eq_true rfl)⟩ ⟨show cells + 1 + 4 + 0 ≤ room_1.cells by omega, show slots + 6 + 48 + 0 ≤ room_1.slots by omega⟩ ?_
  refine r_iload C dL_law_743 rfl ?_
  refine r_ic_eq (tgt := 750) C dL_law_745 (by decide) (fun _ => ?_) (fun hne => absurd rfl hne)
  refine t_swap3 ?_
  refine r_iload C dL_law_750 rfl ?_
  refine r_ifN_ne (a := k) (tgt := 768) C (by omega) dL_law_752 (by decide) (fun hk => ?_) (fun hk => ?_)
  · skip
    refine r_goto (tgt := 3456) C dL_law_768 (by decide) ?_
    refine r_widen (k := cells + 500) (n := slots + 10000) (show cells + 1 + 4 + 0 ≤ cells + 500 by omega) (show slots + 6 + 48 + 0 ≤ slots + 10000 by omega) ?_
    refine r_drop 5 ?_
    refine r_drop 6 ?_
    exact kk _ ⟨f', r', hf', hq', kn, ra9, _, sm, _, _, hC', hB', hM', rfl⟩
  · subst hk
    have e1 := hk0 rfl
    subst e1
    refine r_aload_n C dL_law_755 rfl ?_
    refine g_getN hX.1 C hE qu_X3 (ci := 7) rfl 38 outo_at 0 (by decide) qn_L_13 rfl rfl dL_law_756 ?_
    refine r_iload C dL_law_759 rfl ?_
    refine r_i2l C dL_law_761 ?_
    refine r_lcmpE C dL_law_762 ?_
    refine r_if_eq (tgt := 768) C dL_law_763 (by decide) (fun _ => ?_) (fun hne => absurd rfl hne)
    refine r_goto (tgt := 3456) C dL_law_768 (by decide) ?_
    refine r_widen (k := cells + 500) (n := slots + 10000) (show cells + 1 + 4 + 0 ≤ cells + 500 by omega) (show slots + 6 + 48 + 0 ≤ slots + 10000 by omega) ?_
    refine r_drop 5 ?_
    refine r_drop 6 ?_
    exact kk _ ⟨f', r', hf', hq', kn, ra9, _, sm, _, _, hC', hB', hM', rfl⟩
theorem S_reverse {p : Program} {l : Launch} {e : Env} {s : State} {m : MethodId} {args : Array Value} {below : List Frame} {meth : Method} {c : Code} {D : va_G} {cy : Nat → ClassId} {A : Nat → Prop} {Q : State → Prop} {X : (Nat → Prop) → State → Heap → Prop} {aK aV : Nat → Nat} {tO tT : Nat} {gO gT : Nat → Int32} {a : Nat → Nat → Nat} {ba : Nat → Nat} {o b L i cells slots : Nat} {xs : Nat → Int32} {w : va_W} (C : Fg p s m args meth c cL_law 7 RL D cy A) (hE : X A s s.heap) (hT : EnvT X cy aK aV tO tT gO gT) (hN : EnvN X) (hl : l.stackTraces = false) (hx : va_X b L xs s s.heap) (hbl : b < s.heap.size) (hbA : ¬ A b) (hi : i + 5 ≤ L) (hL : L ≤ 2560) (hc : cells + 500 ≤ room_1.cells) (hs : slots + 10000 ≤ room_1.slots) (hJ : JW cy a ba o w) (kk : ∀ w' : va_W, JW cy a ba o w' → vW p l e room_1 s m args below meth c D vwCl A Q 7 (cells + 500) (slots + 10000) w' [some (.ref b), some (.ref (a 0 0)), some (.ref (ba 9)), some (.ref o), some (.int (nI i)), none, none] 3456 []) : vW p l e room_1 s m args below meth c D vwCl A Q 7 cells slots w [some (.ref b), some (.ref (a 0 0)), some (.ref (ba 9)), some (.ref o), some (.int (nI i)), none, none] 771 [] := by
  have hX := hT.1.1
  obtain ⟨f, r, hf, hq, kn, ra, th, sm, n, v, hC, hB, hM, rfl⟩ := hJ
  refine r_aload_n C dL_law_771 rfl ?_
  refine r_aload_n C dL_law_772 rfl ?_
  refine r_iload C dL_law_773 rfl ?_
  refine r_iconst (v := nI 1) C dL_law_775 (by decide) ?_
  refine r_iaddN C dL_law_776 ?_
  refine r_sld C hx hbl hbA (show i + 1 < L by omega) (by omega) dL_law_777 ?_
  refine r_aload_n C dL_law_778 rfl ?_
  refine c_SH (st := []) hX.1.stb C hE (W_reverse hX.1 hN hC hB hM (P_reverse hX hl hC hB hM (xs (i + 1)))) pk_L_reverse qm_L_206 rfl rfl (Nat.le_of_ble_eq_true rfl) dL_law_779 ⟨(Nat.le_of_ble_eq_true rfl), (Nat.le_of_ble_eq_true rfl)⟩ ⟨show cells + 1 ≤ room_1.cells by omega, show slots + 6 ≤ room_1.slots by omega⟩ (fun v9 w9 h9 => ?_) (fun _ h9 => h9.elim)
  obtain ⟨f', r', k, n1, rfl, rfl, hf', hq', n2, hC', hB', hM', hk0, hk4, h2⟩ := h9
  refine r_istore C dL_law_782 (by decide) rfl ?_
  refine r_aload_n C dL_law_784 rfl ?_
  refine r_aload_n C dL_law_785 rfl ?_
  refine r_iload C dL_law_786 rfl ?_
  refine r_iconst (v := nI 1) C dL_law_788 (by decide) ?_
  refine r_iaddN C dL_law_789 ?_
  refine r_sld C hx hbl hbA (show i + 1 < L by omega) (by omega) dL_law_790 ?_
  refine t_swap3 ?_
  refine c_V (st := []) hX.1.stb C hE (h2 _) pk_X4_reverse qm_L_208 0 8 rfl rfl wm_0 rfl rfl (Nat.le_of_ble_eq_true rfl) dL_law_791 ⟨(Nat.le_of_ble_eq_true rfl), (Nat.le_of_ble_eq_true rfl)⟩ ⟨show cells + 1 + 4 ≤ room_1.cells by omega, show slots + 6 + 48 ≤ room_1.slots by omega⟩ (fun v9 w9 h9 => ?_) (fun _ h9 => h9.elim)
  obtain ⟨ra9, rfl, rfl⟩ := h9
  refine r_istore C dL_law_794 (by decide) rfl ?_
  refine r_aload_n C dL_law_796 rfl ?_
  refine d_V (st := []) hX.1.stb C hE (D_thrown hX) pk_X4_thrown qm_L_181 0 8 rfl rfl wm_0 rfl rfl (Nat.le_of_ble_eq_true rfl) dL_law_797 ⟨(Nat.le_of_ble_eq_true rfl), (Nat.le_of_ble_eq_true rfl)⟩ ⟨show cells + 1 + 4 + 0 ≤ room_1.cells by omega, show slots + 6 + 48 + 0 ≤ room_1.slots by omega⟩ ?_
  refine r_iload C dL_law_800 rfl ?_
  refine r_ic_eq (tgt := 807) C dL_law_802 (by decide) (fun _ => ?_) (fun hne => absurd rfl hne)
  refine t_swap3 ?_
  refine r_iload C dL_law_807 rfl ?_
  refine r_ifN_ne (a := k) (tgt := 825) C (by omega) dL_law_809 (by decide) (fun hk => ?_) (fun hk => ?_)
  · skip
    refine r_goto (tgt := 3456) C dL_law_825 (by decide) ?_
    refine r_widen (k := cells + 500) (n := slots + 10000) (show cells + 1 + 4 + 0 ≤ cells + 500 by omega) (show slots + 6 + 48 + 0 ≤ slots + 10000 by omega) ?_
    refine r_drop 5 ?_
    refine r_drop 6 ?_
    exact kk _ ⟨f', r', hf', hq', kn, ra9, _, sm, _, _, hC', hB', hM', rfl⟩
  · subst hk
    have e1 := hk0 rfl
    subst e1
    refine r_aload_n C dL_law_812 rfl ?_
    refine g_getN hX.1 C hE qu_X3 (ci := 7) rfl 38 outo_at 0 (by decide) qn_L_13 rfl rfl dL_law_813 ?_
    refine r_iload C dL_law_816 rfl ?_
    refine r_i2l C dL_law_818 ?_
    refine r_lcmpE C dL_law_819 ?_
    refine r_if_eq (tgt := 825) C dL_law_820 (by decide) (fun _ => ?_) (fun hne => absurd rfl hne)
    refine r_goto (tgt := 3456) C dL_law_825 (by decide) ?_
    refine r_widen (k := cells + 500) (n := slots + 10000) (show cells + 1 + 4 + 0 ≤ cells + 500 by omega) (show slots + 6 + 48 + 0 ≤ slots + 10000 by omega) ?_
    refine r_drop 5 ?_
    refine r_drop 6 ?_
    exact kk _ ⟨f', r', hf', hq', kn, ra9, _, sm, _, _, hC', hB', hM', rfl⟩
theorem S_swap {p : Program} {l : Launch} {e : Env} {s : State} {m : MethodId} {args : Array Value} {below : List Frame} {meth : Method} {c : Code} {D : va_G} {cy : Nat → ClassId} {A : Nat → Prop} {Q : State → Prop} {X : (Nat → Prop) → State → Heap → Prop} {aK aV : Nat → Nat} {tO tT : Nat} {gO gT : Nat → Int32} {a : Nat → Nat → Nat} {ba : Nat → Nat} {o b L i cells slots : Nat} {xs : Nat → Int32} {w : va_W} (C : Fg p s m args meth c cL_law 7 RL D cy A) (hE : X A s s.heap) (hT : EnvT X cy aK aV tO tT gO gT) (hN : EnvN X) (hl : l.stackTraces = false) (hx : va_X b L xs s s.heap) (hbl : b < s.heap.size) (hbA : ¬ A b) (hi : i + 5 ≤ L) (hL : L ≤ 2560) (hc : cells + 500 ≤ room_1.cells) (hs : slots + 10000 ≤ room_1.slots) (hJ : JW cy a ba o w) (kk : ∀ w' : va_W, JW cy a ba o w' → vW p l e room_1 s m args below meth c D vwCl A Q 7 (cells + 500) (slots + 10000) w' [some (.ref b), some (.ref (a 0 0)), some (.ref (ba 9)), some (.ref o), some (.int (nI i)), none, none] 3456 []) : vW p l e room_1 s m args below meth c D vwCl A Q 7 cells slots w [some (.ref b), some (.ref (a 0 0)), some (.ref (ba 9)), some (.ref o), some (.int (nI i)), none, none] 828 [] := by
  have hX := hT.1.1
  obtain ⟨f, r, hf, hq, kn, ra, th, sm, n, v, hC, hB, hM, rfl⟩ := hJ
  refine r_aload_n C dL_law_828 rfl ?_
  refine r_aload_n C dL_law_829 rfl ?_
  refine r_iload C dL_law_830 rfl ?_
  refine r_iconst (v := nI 1) C dL_law_832 (by decide) ?_
  refine r_iaddN C dL_law_833 ?_
  refine r_sld C hx hbl hbA (show i + 1 < L by omega) (by omega) dL_law_834 ?_
  refine r_aload_n C dL_law_835 rfl ?_
  refine r_iload C dL_law_836 rfl ?_
  refine r_iconst (v := nI 2) C dL_law_838 (by decide) ?_
  refine r_iaddN C dL_law_839 ?_
  refine r_sld C hx hbl hbA (show i + 2 < L by omega) (by omega) dL_law_840 ?_
  refine r_aload_n C dL_law_841 rfl ?_
  refine r_iload C dL_law_842 rfl ?_
  refine r_iconst (v := nI 3) C dL_law_844 (by decide) ?_
  refine r_iaddN C dL_law_845 ?_
  refine r_sld C hx hbl hbA (show i + 3 < L by omega) (by omega) dL_law_846 ?_
  refine r_aload_n C dL_law_847 rfl ?_
  refine c_SH (st := []) hX.1.stb C hE (W_swap hX.1 hN hC hB hM (P_swap hX hl hC hB hM (xs (i + 1)) (xs (i + 2)) (xs (i + 3)))) pk_L_swap qm_L_209 rfl rfl (Nat.le_of_ble_eq_true rfl) dL_law_848 ⟨(Nat.le_of_ble_eq_true rfl), (Nat.le_of_ble_eq_true rfl)⟩ ⟨show cells + 1 ≤ room_1.cells by omega, show slots + 6 ≤ room_1.slots by omega⟩ (fun v9 w9 h9 => ?_) (fun _ h9 => h9.elim)
  obtain ⟨f', r', k, n1, rfl, rfl, hf', hq', n2, hC', hB', hM', hk0, hk4, h2⟩ := h9
  refine r_istore C dL_law_851 (by decide) rfl ?_
  refine r_aload_n C dL_law_853 rfl ?_
  refine r_aload_n C dL_law_854 rfl ?_
  refine r_iload C dL_law_855 rfl ?_
  refine r_iconst (v := nI 1) C dL_law_857 (by decide) ?_
  refine r_iaddN C dL_law_858 ?_
  refine r_sld C hx hbl hbA (show i + 1 < L by omega) (by omega) dL_law_859 ?_
  refine r_aload_n C dL_law_860 rfl ?_
  refine r_iload C dL_law_861 rfl ?_
  refine r_iconst (v := nI 2) C dL_law_863 (by decide) ?_
  refine r_iaddN C dL_law_864 ?_
  refine r_sld C hx hbl hbA (show i + 2 < L by omega) (by omega) dL_law_865 ?_
  refine r_aload_n C dL_law_866 rfl ?_
  refine r_iload C dL_law_867 rfl ?_
  refine r_iconst (v := nI 3) C dL_law_869 (by decide) ?_
  refine r_iaddN C dL_law_870 ?_
  refine r_sld C hx hbl hbA (show i + 3 < L by omega) (by omega) dL_law_871 ?_
  refine t_swap3 ?_
  refine c_V (st := []) hX.1.stb C hE (h2 _) pk_X4_swap qm_L_211 0 8 rfl rfl wm_0 rfl rfl (Nat.le_of_ble_eq_true rfl) dL_law_872 ⟨(Nat.le_of_ble_eq_true rfl), (Nat.le_of_ble_eq_true rfl)⟩ ⟨show cells + 1 + 4 ≤ room_1.cells by omega, show slots + 6 + 48 ≤ room_1.slots by omega⟩ (fun v9 w9 h9 => ?_) (fun _ h9 => h9.elim)
  obtain ⟨ra9, rfl, rfl⟩ := h9
  refine r_istore C dL_law_875 (by decide) rfl ?_
  refine r_aload_n C dL_law_877 rfl ?_
  refine d_V (st := []) hX.1.stb C hE (D_thrown hX) pk_X4_thrown qm_L_181 0 8 rfl rfl wm_0 rfl rfl (Nat.le_of_ble_eq_true rfl) dL_law_878 ⟨(Nat.le_of_ble_eq_true rfl), (Nat.le_of_ble_eq_true rfl)⟩ ⟨show cells + 1 + 4 + 0 ≤ room_1.cells by omega, show slots + 6 + 48 + 0 ≤ room_1.slots by omega⟩ ?_
  refine r_iload C dL_law_881 rfl ?_
  refine r_ic_eq (tgt := 888) C dL_law_883 (by decide) (fun _ => ?_) (fun hne => absurd rfl hne)
  refine t_swap3 ?_
  refine r_iload C dL_law_888 rfl ?_
  refine r_ifN_ne (a := k) (tgt := 906) C (by omega) dL_law_890 (by decide) (fun hk => ?_) (fun hk => ?_)
  · skip
    refine r_goto (tgt := 3456) C dL_law_906 (by decide) ?_
    refine r_widen (k := cells + 500) (n := slots + 10000) (show cells + 1 + 4 + 0 ≤ cells + 500 by omega) (show slots + 6 + 48 + 0 ≤ slots + 10000 by omega) ?_
    refine r_drop 5 ?_
    refine r_drop 6 ?_
    exact kk _ ⟨f', r', hf', hq', kn, ra9, _, sm, _, _, hC', hB', hM', rfl⟩
  · subst hk
    have e1 := hk0 rfl
    subst e1
    refine r_aload_n C dL_law_893 rfl ?_
    refine g_getN hX.1 C hE qu_X3 (ci := 7) rfl 38 outo_at 0 (by decide) qn_L_13 rfl rfl dL_law_894 ?_
    refine r_iload C dL_law_897 rfl ?_
    refine r_i2l C dL_law_899 ?_
    refine r_lcmpE C dL_law_900 ?_
    refine r_if_eq (tgt := 906) C dL_law_901 (by decide) (fun _ => ?_) (fun hne => absurd rfl hne)
    refine r_goto (tgt := 3456) C dL_law_906 (by decide) ?_
    refine r_widen (k := cells + 500) (n := slots + 10000) (show cells + 1 + 4 + 0 ≤ cells + 500 by omega) (show slots + 6 + 48 + 0 ≤ slots + 10000 by omega) ?_
    refine r_drop 5 ?_
    refine r_drop 6 ?_
    exact kk _ ⟨f', r', hf', hq', kn, ra9, _, sm, _, _, hC', hB', hM', rfl⟩
theorem S_riffle {p : Program} {l : Launch} {e : Env} {s : State} {m : MethodId} {args : Array Value} {below : List Frame} {meth : Method} {c : Code} {D : va_G} {cy : Nat → ClassId} {A : Nat → Prop} {Q : State → Prop} {X : (Nat → Prop) → State → Heap → Prop} {aK aV : Nat → Nat} {tO tT : Nat} {gO gT : Nat → Int32} {a : Nat → Nat → Nat} {ba : Nat → Nat} {o b L i cells slots : Nat} {xs : Nat → Int32} {w : va_W} (C : Fg p s m args meth c cL_law 7 RL D cy A) (hE : X A s s.heap) (hT : EnvT X cy aK aV tO tT gO gT) (hN : EnvN X) (hl : l.stackTraces = false) (hx : va_X b L xs s s.heap) (hbl : b < s.heap.size) (hbA : ¬ A b) (hi : i + 5 ≤ L) (hL : L ≤ 2560) (hc : cells + 500 ≤ room_1.cells) (hs : slots + 10000 ≤ room_1.slots) (hJ : JW cy a ba o w) (kk : ∀ w' : va_W, JW cy a ba o w' → vW p l e room_1 s m args below meth c D vwCl A Q 7 (cells + 500) (slots + 10000) w' [some (.ref b), some (.ref (a 0 0)), some (.ref (ba 9)), some (.ref o), some (.int (nI i)), none, none] 3456 []) : vW p l e room_1 s m args below meth c D vwCl A Q 7 cells slots w [some (.ref b), some (.ref (a 0 0)), some (.ref (ba 9)), some (.ref o), some (.int (nI i)), none, none] 909 [] := by
  have hX := hT.1.1
  obtain ⟨f, r, hf, hq, kn, ra, th, sm, n, v, hC, hB, hM, rfl⟩ := hJ
  refine r_aload_n C dL_law_909 rfl ?_
  refine r_aload_n C dL_law_910 rfl ?_
  refine r_iload C dL_law_911 rfl ?_
  refine r_iconst (v := nI 1) C dL_law_913 (by decide) ?_
  refine r_iaddN C dL_law_914 ?_
  refine r_sld C hx hbl hbA (show i + 1 < L by omega) (by omega) dL_law_915 ?_
  refine r_aload_n C dL_law_916 rfl ?_
  refine c_SH (st := []) hX.1.stb C hE (W_riffle hX.1 hN hC hB hM (P_riffle hX hl hC hB hM (xs (i + 1)))) pk_L_riffle qm_L_212 rfl rfl (Nat.le_of_ble_eq_true rfl) dL_law_917 ⟨(Nat.le_of_ble_eq_true rfl), (Nat.le_of_ble_eq_true rfl)⟩ ⟨show cells + 1 ≤ room_1.cells by omega, show slots + 6 ≤ room_1.slots by omega⟩ (fun v9 w9 h9 => ?_) (fun _ h9 => h9.elim)
  obtain ⟨f', r', k, n1, rfl, rfl, hf', hq', n2, hC', hB', hM', hk0, hk4, h2⟩ := h9
  refine r_istore C dL_law_920 (by decide) rfl ?_
  refine r_aload_n C dL_law_922 rfl ?_
  refine r_aload_n C dL_law_923 rfl ?_
  refine r_iload C dL_law_924 rfl ?_
  refine r_iconst (v := nI 1) C dL_law_926 (by decide) ?_
  refine r_iaddN C dL_law_927 ?_
  refine r_sld C hx hbl hbA (show i + 1 < L by omega) (by omega) dL_law_928 ?_
  refine t_swap3 ?_
  refine c_V (st := []) hX.1.stb C hE (h2 _) pk_X4_riffle qm_L_214 0 8 rfl rfl wm_0 rfl rfl (Nat.le_of_ble_eq_true rfl) dL_law_929 ⟨(Nat.le_of_ble_eq_true rfl), (Nat.le_of_ble_eq_true rfl)⟩ ⟨show cells + 1 + 4 ≤ room_1.cells by omega, show slots + 6 + 48 ≤ room_1.slots by omega⟩ (fun v9 w9 h9 => ?_) (fun _ h9 => h9.elim)
  obtain ⟨ra9, rfl, rfl⟩ := h9
  refine r_istore C dL_law_932 (by decide) rfl ?_
  refine r_aload_n C dL_law_934 rfl ?_
  refine d_V (st := []) hX.1.stb C hE (D_thrown hX) pk_X4_thrown qm_L_181 0 8 rfl rfl wm_0 rfl rfl (Nat.le_of_ble_eq_true rfl) dL_law_935 ⟨(Nat.le_of_ble_eq_true rfl), (Nat.le_of_ble_eq_true rfl)⟩ ⟨show cells + 1 + 4 + 0 ≤ room_1.cells by omega, show slots + 6 + 48 + 0 ≤ room_1.slots by omega⟩ ?_
  refine r_iload C dL_law_938 rfl ?_
  refine r_ic_eq (tgt := 945) C dL_law_940 (by decide) (fun _ => ?_) (fun hne => absurd rfl hne)
  refine t_swap3 ?_
  refine r_iload C dL_law_945 rfl ?_
  refine r_ifN_ne (a := k) (tgt := 963) C (by omega) dL_law_947 (by decide) (fun hk => ?_) (fun hk => ?_)
  · skip
    refine r_goto (tgt := 3456) C dL_law_963 (by decide) ?_
    refine r_widen (k := cells + 500) (n := slots + 10000) (show cells + 1 + 4 + 0 ≤ cells + 500 by omega) (show slots + 6 + 48 + 0 ≤ slots + 10000 by omega) ?_
    refine r_drop 5 ?_
    refine r_drop 6 ?_
    exact kk _ ⟨f', r', hf', hq', kn, ra9, _, sm, _, _, hC', hB', hM', rfl⟩
  · subst hk
    have e1 := hk0 rfl
    subst e1
    refine r_aload_n C dL_law_950 rfl ?_
    refine g_getN hX.1 C hE qu_X3 (ci := 7) rfl 38 outo_at 0 (by decide) qn_L_13 rfl rfl dL_law_951 ?_
    refine r_iload C dL_law_954 rfl ?_
    refine r_i2l C dL_law_956 ?_
    refine r_lcmpE C dL_law_957 ?_
    refine r_if_eq (tgt := 963) C dL_law_958 (by decide) (fun _ => ?_) (fun hne => absurd rfl hne)
    refine r_goto (tgt := 3456) C dL_law_963 (by decide) ?_
    refine r_widen (k := cells + 500) (n := slots + 10000) (show cells + 1 + 4 + 0 ≤ cells + 500 by omega) (show slots + 6 + 48 + 0 ≤ slots + 10000 by omega) ?_
    refine r_drop 5 ?_
    refine r_drop 6 ?_
    exact kk _ ⟨f', r', hf', hq', kn, ra9, _, sm, _, _, hC', hB', hM', rfl⟩
theorem S_unriffle {p : Program} {l : Launch} {e : Env} {s : State} {m : MethodId} {args : Array Value} {below : List Frame} {meth : Method} {c : Code} {D : va_G} {cy : Nat → ClassId} {A : Nat → Prop} {Q : State → Prop} {X : (Nat → Prop) → State → Heap → Prop} {aK aV : Nat → Nat} {tO tT : Nat} {gO gT : Nat → Int32} {a : Nat → Nat → Nat} {ba : Nat → Nat} {o b L i cells slots : Nat} {xs : Nat → Int32} {w : va_W} (C : Fg p s m args meth c cL_law 7 RL D cy A) (hE : X A s s.heap) (hT : EnvT X cy aK aV tO tT gO gT) (hN : EnvN X) (hl : l.stackTraces = false) (hx : va_X b L xs s s.heap) (hbl : b < s.heap.size) (hbA : ¬ A b) (hi : i + 5 ≤ L) (hL : L ≤ 2560) (hc : cells + 500 ≤ room_1.cells) (hs : slots + 10000 ≤ room_1.slots) (hJ : JW cy a ba o w) (kk : ∀ w' : va_W, JW cy a ba o w' → vW p l e room_1 s m args below meth c D vwCl A Q 7 (cells + 500) (slots + 10000) w' [some (.ref b), some (.ref (a 0 0)), some (.ref (ba 9)), some (.ref o), some (.int (nI i)), none, none] 3456 []) : vW p l e room_1 s m args below meth c D vwCl A Q 7 cells slots w [some (.ref b), some (.ref (a 0 0)), some (.ref (ba 9)), some (.ref o), some (.int (nI i)), none, none] 966 [] := by
  have hX := hT.1.1
  obtain ⟨f, r, hf, hq, kn, ra, th, sm, n, v, hC, hB, hM, rfl⟩ := hJ
  refine r_aload_n C dL_law_966 rfl ?_
  refine r_aload_n C dL_law_967 rfl ?_
  refine r_iload C dL_law_968 rfl ?_
  refine r_iconst (v := nI 1) C dL_law_970 (by decide) ?_
  refine r_iaddN C dL_law_971 ?_
  refine r_sld C hx hbl hbA (show i + 1 < L by omega) (by omega) dL_law_972 ?_
  refine r_aload_n C dL_law_973 rfl ?_
  refine c_SH (st := []) hX.1.stb C hE (W_unriffle hX.1 hN hC hB hM (P_unriffle hX hl hC hB hM (xs (i + 1)))) pk_L_unriffle qm_L_215 rfl rfl (Nat.le_of_ble_eq_true rfl) dL_law_974 ⟨(Nat.le_of_ble_eq_true rfl), (Nat.le_of_ble_eq_true rfl)⟩ ⟨show cells + 1 ≤ room_1.cells by omega, show slots + 6 ≤ room_1.slots by omega⟩ (fun v9 w9 h9 => ?_) (fun _ h9 => h9.elim)
  obtain ⟨f', r', k, n1, rfl, rfl, hf', hq', n2, hC', hB', hM', hk0, hk4, h2⟩ := h9
  refine r_istore C dL_law_977 (by decide) rfl ?_
  refine r_aload_n C dL_law_979 rfl ?_
  refine r_aload_n C dL_law_980 rfl ?_
  refine r_iload C dL_law_981 rfl ?_
  refine r_iconst (v := nI 1) C dL_law_983 (by decide) ?_
  refine r_iaddN C dL_law_984 ?_
  refine r_sld C hx hbl hbA (show i + 1 < L by omega) (by omega) dL_law_985 ?_
  refine t_swap3 ?_
  refine c_V (st := []) hX.1.stb C hE (h2 _) pk_X4_unriffle qm_L_217 0 8 rfl rfl wm_0 rfl rfl (Nat.le_of_ble_eq_true rfl) dL_law_986 ⟨(Nat.le_of_ble_eq_true rfl), (Nat.le_of_ble_eq_true rfl)⟩ ⟨show cells + 1 + 4 ≤ room_1.cells by omega, show slots + 6 + 48 ≤ room_1.slots by omega⟩ (fun v9 w9 h9 => ?_) (fun _ h9 => h9.elim)
  obtain ⟨ra9, rfl, rfl⟩ := h9
  refine r_istore C dL_law_989 (by decide) rfl ?_
  refine r_aload_n C dL_law_991 rfl ?_
  refine d_V (st := []) hX.1.stb C hE (D_thrown hX) pk_X4_thrown qm_L_181 0 8 rfl rfl wm_0 rfl rfl (Nat.le_of_ble_eq_true rfl) dL_law_992 ⟨(Nat.le_of_ble_eq_true rfl), (Nat.le_of_ble_eq_true rfl)⟩ ⟨show cells + 1 + 4 + 0 ≤ room_1.cells by omega, show slots + 6 + 48 + 0 ≤ room_1.slots by omega⟩ ?_
  refine r_iload C dL_law_995 rfl ?_
  refine r_ic_eq (tgt := 1002) C dL_law_997 (by decide) (fun _ => ?_) (fun hne => absurd rfl hne)
  refine t_swap3 ?_
  refine r_iload C dL_law_1002 rfl ?_
  refine r_ifN_ne (a := k) (tgt := 1020) C (by omega) dL_law_1004 (by decide) (fun hk => ?_) (fun hk => ?_)
  · skip
    refine r_goto (tgt := 3456) C dL_law_1020 (by decide) ?_
    refine r_widen (k := cells + 500) (n := slots + 10000) (show cells + 1 + 4 + 0 ≤ cells + 500 by omega) (show slots + 6 + 48 + 0 ≤ slots + 10000 by omega) ?_
    refine r_drop 5 ?_
    refine r_drop 6 ?_
    exact kk _ ⟨f', r', hf', hq', kn, ra9, _, sm, _, _, hC', hB', hM', rfl⟩
  · subst hk
    have e1 := hk0 rfl
    subst e1
    refine r_aload_n C dL_law_1007 rfl ?_
    refine g_getN hX.1 C hE qu_X3 (ci := 7) rfl 38 outo_at 0 (by decide) qn_L_13 rfl rfl dL_law_1008 ?_
    refine r_iload C dL_law_1011 rfl ?_
    refine r_i2l C dL_law_1013 ?_
    refine r_lcmpE C dL_law_1014 ?_
    refine r_if_eq (tgt := 1020) C dL_law_1015 (by decide) (fun _ => ?_) (fun hne => absurd rfl hne)
    refine r_goto (tgt := 3456) C dL_law_1020 (by decide) ?_
    refine r_widen (k := cells + 500) (n := slots + 10000) (show cells + 1 + 4 + 0 ≤ cells + 500 by omega) (show slots + 6 + 48 + 0 ≤ slots + 10000 by omega) ?_
    refine r_drop 5 ?_
    refine r_drop 6 ?_
    exact kk _ ⟨f', r', hf', hq', kn, ra9, _, sm, _, _, hC', hB', hM', rfl⟩
theorem S_sort {p : Program} {l : Launch} {e : Env} {s : State} {m : MethodId} {args : Array Value} {below : List Frame} {meth : Method} {c : Code} {D : va_G} {cy : Nat → ClassId} {A : Nat → Prop} {Q : State → Prop} {X : (Nat → Prop) → State → Heap → Prop} {aK aV : Nat → Nat} {tO tT : Nat} {gO gT : Nat → Int32} {a : Nat → Nat → Nat} {ba : Nat → Nat} {o b L i cells slots : Nat} {xs : Nat → Int32} {w : va_W} (C : Fg p s m args meth c cL_law 7 RL D cy A) (hE : X A s s.heap) (hT : EnvT X cy aK aV tO tT gO gT) (hN : EnvN X) (hl : l.stackTraces = false) (hx : va_X b L xs s s.heap) (hbl : b < s.heap.size) (hbA : ¬ A b) (hi : i + 5 ≤ L) (hL : L ≤ 2560) (hc : cells + 500 ≤ room_1.cells) (hs : slots + 10000 ≤ room_1.slots) (hJ : JW cy a ba o w) (kk : ∀ w' : va_W, JW cy a ba o w' → vW p l e room_1 s m args below meth c D vwCl A Q 7 (cells + 500) (slots + 10000) w' [some (.ref b), some (.ref (a 0 0)), some (.ref (ba 9)), some (.ref o), some (.int (nI i)), none, none] 3456 []) : vW p l e room_1 s m args below meth c D vwCl A Q 7 cells slots w [some (.ref b), some (.ref (a 0 0)), some (.ref (ba 9)), some (.ref o), some (.int (nI i)), none, none] 1023 [] := by
  have hX := hT.1.1
  obtain ⟨f, r, hf, hq, kn, ra, th, sm, n, v, hC, hB, hM, rfl⟩ := hJ
  refine r_aload_n C dL_law_1023 rfl ?_
  refine r_aload_n C dL_law_1024 rfl ?_
  refine r_iload C dL_law_1025 rfl ?_
  refine r_iconst (v := nI 1) C dL_law_1027 (by decide) ?_
  refine r_iaddN C dL_law_1028 ?_
  refine r_sld C hx hbl hbA (show i + 1 < L by omega) (by omega) dL_law_1029 ?_
  refine r_aload_n C dL_law_1030 rfl ?_
  refine c_SH (st := []) hX.1.stb C hE (W_sort hX.1 hN hC hB hM (P_sort hX hl hC hB hM (xs (i + 1)))) pk_L_sort qm_L_218 rfl rfl (Nat.le_of_ble_eq_true rfl) dL_law_1031 ⟨(Nat.le_of_ble_eq_true rfl), (Nat.le_of_ble_eq_true rfl)⟩ ⟨show cells + 1 ≤ room_1.cells by omega, show slots + 6 ≤ room_1.slots by omega⟩ (fun v9 w9 h9 => ?_) (fun _ h9 => h9.elim)
  obtain ⟨f', r', k, n1, rfl, rfl, hf', hq', n2, hC', hB', hM', hk0, hk4, h2⟩ := h9
  refine r_istore C dL_law_1034 (by decide) rfl ?_
  refine r_aload_n C dL_law_1036 rfl ?_
  refine r_aload_n C dL_law_1037 rfl ?_
  refine r_iload C dL_law_1038 rfl ?_
  refine r_iconst (v := nI 1) C dL_law_1040 (by decide) ?_
  refine r_iaddN C dL_law_1041 ?_
  refine r_sld C hx hbl hbA (show i + 1 < L by omega) (by omega) dL_law_1042 ?_
  refine t_swap3 ?_
  refine c_V (st := []) hX.1.stb C hE (h2 _) pk_X4_sort qm_L_220 0 8 rfl rfl wm_0 rfl rfl (Nat.le_of_ble_eq_true rfl) dL_law_1043 ⟨(Nat.le_of_ble_eq_true rfl), (Nat.le_of_ble_eq_true rfl)⟩ ⟨show cells + 1 + 4 ≤ room_1.cells by omega, show slots + 6 + 48 ≤ room_1.slots by omega⟩ (fun v9 w9 h9 => ?_) (fun _ h9 => h9.elim)
  obtain ⟨ra9, rfl, rfl⟩ := h9
  refine r_istore C dL_law_1046 (by decide) rfl ?_
  refine r_aload_n C dL_law_1048 rfl ?_
  refine d_V (st := []) hX.1.stb C hE (D_thrown hX) pk_X4_thrown qm_L_181 0 8 rfl rfl wm_0 rfl rfl (Nat.le_of_ble_eq_true rfl) dL_law_1049 ⟨(Nat.le_of_ble_eq_true rfl), (Nat.le_of_ble_eq_true rfl)⟩ ⟨show cells + 1 + 4 + 0 ≤ room_1.cells by omega, show slots + 6 + 48 + 0 ≤ room_1.slots by omega⟩ ?_
  refine r_iload C dL_law_1052 rfl ?_
  refine r_ic_eq (tgt := 1059) C dL_law_1054 (by decide) (fun _ => ?_) (fun hne => absurd rfl hne)
  refine t_swap3 ?_
  refine r_iload C dL_law_1059 rfl ?_
  refine r_ifN_ne (a := k) (tgt := 1077) C (by omega) dL_law_1061 (by decide) (fun hk => ?_) (fun hk => ?_)
  · skip
    refine r_goto (tgt := 3456) C dL_law_1077 (by decide) ?_
    refine r_widen (k := cells + 500) (n := slots + 10000) (show cells + 1 + 4 + 0 ≤ cells + 500 by omega) (show slots + 6 + 48 + 0 ≤ slots + 10000 by omega) ?_
    refine r_drop 5 ?_
    refine r_drop 6 ?_
    exact kk _ ⟨f', r', hf', hq', kn, ra9, _, sm, _, _, hC', hB', hM', rfl⟩
  · subst hk
    have e1 := hk0 rfl
    subst e1
    refine r_aload_n C dL_law_1064 rfl ?_
    refine g_getN hX.1 C hE qu_X3 (ci := 7) rfl 38 outo_at 0 (by decide) qn_L_13 rfl rfl dL_law_1065 ?_
    refine r_iload C dL_law_1068 rfl ?_
    refine r_i2l C dL_law_1070 ?_
    refine r_lcmpE C dL_law_1071 ?_
    refine r_if_eq (tgt := 1077) C dL_law_1072 (by decide) (fun _ => ?_) (fun hne => absurd rfl hne)
    refine r_goto (tgt := 3456) C dL_law_1077 (by decide) ?_
    refine r_widen (k := cells + 500) (n := slots + 10000) (show cells + 1 + 4 + 0 ≤ cells + 500 by omega) (show slots + 6 + 48 + 0 ≤ slots + 10000 by omega) ?_
    refine r_drop 5 ?_
    refine r_drop 6 ?_
    exact kk _ ⟨f', r', hf', hq', kn, ra9, _, sm, _, _, hC', hB', hM', rfl⟩
