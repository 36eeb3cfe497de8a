/-! ===== 84.case1 -/
section PT_84
/-! THE LAW'S CASES, 1 -/
theorem dL_law_252 : decode cL_law 252 = .ok (.aload_n 1, 1) := dqo_43 (kb_3 60 rfl)
theorem dL_law_253 : decode cL_law 253 = .ok (.aload_n 0, 1) := dqo_42 (kb_3 61 rfl)
theorem dL_law_254 : decode cL_law 254 = .ok (.iload 4, 2) := dqo_21 4 (kb_3 62 rfl) (kb_3 63 rfl)
theorem dL_law_256 : decode cL_law 256 = .ok (.iconst 1, 1) := dqo_4 (kb_4 0 rfl)
theorem dL_law_257 : decode cL_law 257 = .ok (.iadd, 1) := dqo_96 (kb_4 1 rfl)
theorem dL_law_258 : decode cL_law 258 = .ok (.iaload, 1) := dqo_46 (kb_4 2 rfl)
theorem dL_law_259 : decode cL_law 259 = .ok (.aload_n 0, 1) := dqo_42 (kb_4 3 rfl)
theorem dL_law_260 : decode cL_law 260 = .ok (.iload 4, 2) := dqo_21 4 (kb_4 4 rfl) (kb_4 5 rfl)
theorem dL_law_262 : decode cL_law 262 = .ok (.iconst 2, 1) := dqo_5 (kb_4 6 rfl)
theorem dL_law_263 : decode cL_law 263 = .ok (.iadd, 1) := dqo_96 (kb_4 7 rfl)
theorem dL_law_264 : decode cL_law 264 = .ok (.iaload, 1) := dqo_46 (kb_4 8 rfl)
theorem dL_law_265 : decode cL_law 265 = .ok (.aload_n 3, 1) := dqo_45 (kb_4 9 rfl)
theorem dL_law_266 : decode cL_law 266 = .ok (.invokestatic 175, 3) := dqo_184 0 175 (kb_4 10 rfl) (kb_4 11 rfl) (kb_4 12 rfl)
theorem dL_law_269 : decode cL_law 269 = .ok (.istore 5, 2) := dqo_54 5 (kb_4 13 rfl) (kb_4 14 rfl)
theorem dL_law_271 : decode cL_law 271 = .ok (.aload_n 2, 1) := dqo_44 (kb_4 15 rfl)
theorem dL_law_272 : decode cL_law 272 = .ok (.aload_n 0, 1) := dqo_42 (kb_4 16 rfl)
theorem dL_law_273 : decode cL_law 273 = .ok (.iload 4, 2) := dqo_21 4 (kb_4 17 rfl) (kb_4 18 rfl)
theorem dL_law_275 : decode cL_law 275 = .ok (.iconst 1, 1) := dqo_4 (kb_4 19 rfl)
theorem dL_law_276 : decode cL_law 276 = .ok (.iadd, 1) := dqo_96 (kb_4 20 rfl)
theorem dL_law_277 : decode cL_law 277 = .ok (.iaload, 1) := dqo_46 (kb_4 21 rfl)
theorem dL_law_278 : decode cL_law 278 = .ok (.aload_n 0, 1) := dqo_42 (kb_4 22 rfl)
theorem dL_law_279 : decode cL_law 279 = .ok (.iload 4, 2) := dqo_21 4 (kb_4 23 rfl) (kb_4 24 rfl)
theorem dL_law_281 : decode cL_law 281 = .ok (.iconst 2, 1) := dqo_5 (kb_4 25 rfl)
theorem dL_law_282 : decode cL_law 282 = .ok (.iadd, 1) := dqo_96 (kb_4 26 rfl)
theorem dL_law_283 : decode cL_law 283 = .ok (.iaload, 1) := dqo_46 (kb_4 27 rfl)
theorem dL_law_284 : decode cL_law 284 = .ok (.invokevirtual 180, 3) := dqo_182 0 180 (kb_4 28 rfl) (kb_4 29 rfl) (kb_4 30 rfl)
theorem dL_law_287 : decode cL_law 287 = .ok (.istore 6, 2) := dqo_54 6 (kb_4 31 rfl) (kb_4 32 rfl)
theorem dL_law_289 : decode cL_law 289 = .ok (.goto 1839, 3) := dqo_167 7 47 (by decide) (kb_4 33 rfl) (kb_4 34 rfl) (kb_4 35 rfl)
theorem dL_law_292 : decode cL_law 292 = .ok (.aload_n 1, 1) := dqo_43 (kb_4 36 rfl)
theorem dL_law_293 : decode cL_law 293 = .ok (.aload_n 0, 1) := dqo_42 (kb_4 37 rfl)
theorem dL_law_294 : decode cL_law 294 = .ok (.iload 4, 2) := dqo_21 4 (kb_4 38 rfl) (kb_4 39 rfl)
theorem dL_law_296 : decode cL_law 296 = .ok (.iconst 1, 1) := dqo_4 (kb_4 40 rfl)
theorem dL_law_297 : decode cL_law 297 = .ok (.iadd, 1) := dqo_96 (kb_4 41 rfl)
theorem dL_law_298 : decode cL_law 298 = .ok (.iaload, 1) := dqo_46 (kb_4 42 rfl)
theorem dL_law_299 : decode cL_law 299 = .ok (.aload_n 0, 1) := dqo_42 (kb_4 43 rfl)
theorem dL_law_300 : decode cL_law 300 = .ok (.iload 4, 2) := dqo_21 4 (kb_4 44 rfl) (kb_4 45 rfl)
theorem dL_law_302 : decode cL_law 302 = .ok (.iconst 2, 1) := dqo_5 (kb_4 46 rfl)
theorem dL_law_303 : decode cL_law 303 = .ok (.iadd, 1) := dqo_96 (kb_4 47 rfl)
theorem dL_law_304 : decode cL_law 304 = .ok (.iaload, 1) := dqo_46 (kb_4 48 rfl)
theorem dL_law_305 : decode cL_law 305 = .ok (.aload_n 0, 1) := dqo_42 (kb_4 49 rfl)
theorem dL_law_306 : decode cL_law 306 = .ok (.iload 4, 2) := dqo_21 4 (kb_4 50 rfl) (kb_4 51 rfl)
theorem dL_law_308 : decode cL_law 308 = .ok (.iconst 3, 1) := dqo_6 (kb_4 52 rfl)
theorem dL_law_309 : decode cL_law 309 = .ok (.iadd, 1) := dqo_96 (kb_4 53 rfl)
theorem dL_law_310 : decode cL_law 310 = .ok (.iaload, 1) := dqo_46 (kb_4 54 rfl)
theorem dL_law_311 : decode cL_law 311 = .ok (.aload_n 3, 1) := dqo_45 (kb_4 55 rfl)
theorem dL_law_312 : decode cL_law 312 = .ok (.invokestatic 181, 3) := dqo_184 0 181 (kb_4 56 rfl) (kb_4 57 rfl) (kb_4 58 rfl)
theorem dL_law_315 : decode cL_law 315 = .ok (.istore 5, 2) := dqo_54 5 (kb_4 59 rfl) (kb_4 60 rfl)
theorem dL_law_317 : decode cL_law 317 = .ok (.aload_n 2, 1) := dqo_44 (kb_4 61 rfl)
theorem dL_law_318 : decode cL_law 318 = .ok (.aload_n 0, 1) := dqo_42 (kb_4 62 rfl)
theorem dL_law_319 : decode cL_law 319 = .ok (.iload 4, 2) := dqo_21 4 (kb_4 63 rfl) (kb_5 0 rfl)
theorem dL_law_321 : decode cL_law 321 = .ok (.iconst 1, 1) := dqo_4 (kb_5 1 rfl)
theorem dL_law_322 : decode cL_law 322 = .ok (.iadd, 1) := dqo_96 (kb_5 2 rfl)
theorem dL_law_323 : decode cL_law 323 = .ok (.iaload, 1) := dqo_46 (kb_5 3 rfl)
theorem dL_law_324 : decode cL_law 324 = .ok (.aload_n 0, 1) := dqo_42 (kb_5 4 rfl)
theorem dL_law_325 : decode cL_law 325 = .ok (.iload 4, 2) := dqo_21 4 (kb_5 5 rfl) (kb_5 6 rfl)
theorem dL_law_327 : decode cL_law 327 = .ok (.iconst 2, 1) := dqo_5 (kb_5 7 rfl)
theorem dL_law_328 : decode cL_law 328 = .ok (.iadd, 1) := dqo_96 (kb_5 8 rfl)
theorem dL_law_329 : decode cL_law 329 = .ok (.iaload, 1) := dqo_46 (kb_5 9 rfl)
theorem dL_law_330 : decode cL_law 330 = .ok (.aload_n 0, 1) := dqo_42 (kb_5 10 rfl)
theorem dL_law_331 : decode cL_law 331 = .ok (.iload 4, 2) := dqo_21 4 (kb_5 11 rfl) (kb_5 12 rfl)
theorem dL_law_333 : decode cL_law 333 = .ok (.iconst 3, 1) := dqo_6 (kb_5 13 rfl)
theorem dL_law_334 : decode cL_law 334 = .ok (.iadd, 1) := dqo_96 (kb_5 14 rfl)
theorem dL_law_335 : decode cL_law 335 = .ok (.iaload, 1) := dqo_46 (kb_5 15 rfl)
theorem dL_law_336 : decode cL_law 336 = .ok (.invokevirtual 184, 3) := dqo_182 0 184 (kb_5 16 rfl) (kb_5 17 rfl) (kb_5 18 rfl)
theorem dL_law_339 : decode cL_law 339 = .ok (.istore 6, 2) := dqo_54 6 (kb_5 19 rfl) (kb_5 20 rfl)
theorem dL_law_341 : decode cL_law 341 = .ok (.goto 1787, 3) := dqo_167 6 251 (by decide) (kb_5 21 rfl) (kb_5 22 rfl) (kb_5 23 rfl)
theorem dL_law_344 : decode cL_law 344 = .ok (.aload_n 1, 1) := dqo_43 (kb_5 24 rfl)
theorem dL_law_345 : decode cL_law 345 = .ok (.aload_n 0, 1) := dqo_42 (kb_5 25 rfl)
theorem dL_law_346 : decode cL_law 346 = .ok (.iload 4, 2) := dqo_21 4 (kb_5 26 rfl) (kb_5 27 rfl)
theorem dL_law_348 : decode cL_law 348 = .ok (.iconst 1, 1) := dqo_4 (kb_5 28 rfl)
theorem dL_law_349 : decode cL_law 349 = .ok (.iadd, 1) := dqo_96 (kb_5 29 rfl)
theorem dL_law_350 : decode cL_law 350 = .ok (.iaload, 1) := dqo_46 (kb_5 30 rfl)
theorem dL_law_351 : decode cL_law 351 = .ok (.aload_n 0, 1) := dqo_42 (kb_5 31 rfl)
theorem dL_law_352 : decode cL_law 352 = .ok (.iload 4, 2) := dqo_21 4 (kb_5 32 rfl) (kb_5 33 rfl)
theorem dL_law_354 : decode cL_law 354 = .ok (.iconst 2, 1) := dqo_5 (kb_5 34 rfl)
theorem dL_law_355 : decode cL_law 355 = .ok (.iadd, 1) := dqo_96 (kb_5 35 rfl)
theorem dL_law_356 : decode cL_law 356 = .ok (.iaload, 1) := dqo_46 (kb_5 36 rfl)
theorem dL_law_357 : decode cL_law 357 = .ok (.aload_n 0, 1) := dqo_42 (kb_5 37 rfl)
theorem dL_law_358 : decode cL_law 358 = .ok (.iload 4, 2) := dqo_21 4 (kb_5 38 rfl) (kb_5 39 rfl)
theorem dL_law_360 : decode cL_law 360 = .ok (.iconst 3, 1) := dqo_6 (kb_5 40 rfl)
theorem dL_law_361 : decode cL_law 361 = .ok (.iadd, 1) := dqo_96 (kb_5 41 rfl)
theorem dL_law_362 : decode cL_law 362 = .ok (.iaload, 1) := dqo_46 (kb_5 42 rfl)
theorem dL_law_363 : decode cL_law 363 = .ok (.aload_n 3, 1) := dqo_45 (kb_5 43 rfl)
theorem dL_law_364 : decode cL_law 364 = .ok (.invokestatic 185, 3) := dqo_184 0 185 (kb_5 44 rfl) (kb_5 45 rfl) (kb_5 46 rfl)
theorem dL_law_367 : decode cL_law 367 = .ok (.istore 5, 2) := dqo_54 5 (kb_5 47 rfl) (kb_5 48 rfl)
theorem dL_law_369 : decode cL_law 369 = .ok (.aload_n 2, 1) := dqo_44 (kb_5 49 rfl)
theorem dL_law_370 : decode cL_law 370 = .ok (.aload_n 0, 1) := dqo_42 (kb_5 50 rfl)
theorem dL_law_371 : decode cL_law 371 = .ok (.iload 4, 2) := dqo_21 4 (kb_5 51 rfl) (kb_5 52 rfl)
theorem dL_law_373 : decode cL_law 373 = .ok (.iconst 1, 1) := dqo_4 (kb_5 53 rfl)
theorem dL_law_374 : decode cL_law 374 = .ok (.iadd, 1) := dqo_96 (kb_5 54 rfl)
theorem dL_law_375 : decode cL_law 375 = .ok (.iaload, 1) := dqo_46 (kb_5 55 rfl)
theorem dL_law_376 : decode cL_law 376 = .ok (.aload_n 0, 1) := dqo_42 (kb_5 56 rfl)
theorem dL_law_377 : decode cL_law 377 = .ok (.iload 4, 2) := dqo_21 4 (kb_5 57 rfl) (kb_5 58 rfl)
theorem dL_law_379 : decode cL_law 379 = .ok (.iconst 2, 1) := dqo_5 (kb_5 59 rfl)
theorem dL_law_380 : decode cL_law 380 = .ok (.iadd, 1) := dqo_96 (kb_5 60 rfl)
theorem dL_law_381 : decode cL_law 381 = .ok (.iaload, 1) := dqo_46 (kb_5 61 rfl)
theorem dL_law_382 : decode cL_law 382 = .ok (.aload_n 0, 1) := dqo_42 (kb_5 62 rfl)
theorem dL_law_383 : decode cL_law 383 = .ok (.iload 4, 2) := dqo_21 4 (kb_5 63 rfl) (kb_6 0 rfl)
theorem dL_law_385 : decode cL_law 385 = .ok (.iconst 3, 1) := dqo_6 (kb_6 1 rfl)
theorem dL_law_386 : decode cL_law 386 = .ok (.iadd, 1) := dqo_96 (kb_6 2 rfl)
theorem dL_law_387 : decode cL_law 387 = .ok (.iaload, 1) := dqo_46 (kb_6 3 rfl)
theorem dL_law_388 : decode cL_law 388 = .ok (.invokevirtual 187, 3) := dqo_182 0 187 (kb_6 4 rfl) (kb_6 5 rfl) (kb_6 6 rfl)
theorem dL_law_391 : decode cL_law 391 = .ok (.istore 6, 2) := dqo_54 6 (kb_6 7 rfl) (kb_6 8 rfl)
theorem dL_law_393 : decode cL_law 393 = .ok (.goto 1735, 3) := dqo_167 6 199 (by decide) (kb_6 9 rfl) (kb_6 10 rfl) (kb_6 11 rfl)
theorem dL_law_396 : decode cL_law 396 = .ok (.aload_n 1, 1) := dqo_43 (kb_6 12 rfl)
theorem dL_law_397 : decode cL_law 397 = .ok (.aload_n 0, 1) := dqo_42 (kb_6 13 rfl)
theorem dL_law_398 : decode cL_law 398 = .ok (.iload 4, 2) := dqo_21 4 (kb_6 14 rfl) (kb_6 15 rfl)
theorem dL_law_400 : decode cL_law 400 = .ok (.iconst 1, 1) := dqo_4 (kb_6 16 rfl)
theorem dL_law_401 : decode cL_law 401 = .ok (.iadd, 1) := dqo_96 (kb_6 17 rfl)
theorem dL_law_402 : decode cL_law 402 = .ok (.iaload, 1) := dqo_46 (kb_6 18 rfl)
theorem dL_law_403 : decode cL_law 403 = .ok (.aload_n 0, 1) := dqo_42 (kb_6 19 rfl)
theorem dL_law_404 : decode cL_law 404 = .ok (.iload 4, 2) := dqo_21 4 (kb_6 20 rfl) (kb_6 21 rfl)
theorem dL_law_406 : decode cL_law 406 = .ok (.iconst 2, 1) := dqo_5 (kb_6 22 rfl)
theorem dL_law_407 : decode cL_law 407 = .ok (.iadd, 1) := dqo_96 (kb_6 23 rfl)
theorem dL_law_408 : decode cL_law 408 = .ok (.iaload, 1) := dqo_46 (kb_6 24 rfl)
theorem dL_law_409 : decode cL_law 409 = .ok (.aload_n 3, 1) := dqo_45 (kb_6 25 rfl)
theorem dL_law_410 : decode cL_law 410 = .ok (.invokestatic 188, 3) := dqo_184 0 188 (kb_6 26 rfl) (kb_6 27 rfl) (kb_6 28 rfl)
theorem dL_law_413 : decode cL_law 413 = .ok (.istore 5, 2) := dqo_54 5 (kb_6 29 rfl) (kb_6 30 rfl)
theorem dL_law_415 : decode cL_law 415 = .ok (.aload_n 2, 1) := dqo_44 (kb_6 31 rfl)
theorem dL_law_416 : decode cL_law 416 = .ok (.aload_n 0, 1) := dqo_42 (kb_6 32 rfl)
theorem dL_law_417 : decode cL_law 417 = .ok (.iload 4, 2) := dqo_21 4 (kb_6 33 rfl) (kb_6 34 rfl)
theorem dL_law_419 : decode cL_law 419 = .ok (.iconst 1, 1) := dqo_4 (kb_6 35 rfl)
theorem dL_law_420 : decode cL_law 420 = .ok (.iadd, 1) := dqo_96 (kb_6 36 rfl)
theorem dL_law_421 : decode cL_law 421 = .ok (.iaload, 1) := dqo_46 (kb_6 37 rfl)
theorem dL_law_422 : decode cL_law 422 = .ok (.aload_n 0, 1) := dqo_42 (kb_6 38 rfl)
theorem dL_law_423 : decode cL_law 423 = .ok (.iload 4, 2) := dqo_21 4 (kb_6 39 rfl) (kb_6 40 rfl)
theorem dL_law_425 : decode cL_law 425 = .ok (.iconst 2, 1) := dqo_5 (kb_6 41 rfl)
theorem dL_law_426 : decode cL_law 426 = .ok (.iadd, 1) := dqo_96 (kb_6 42 rfl)
theorem dL_law_427 : decode cL_law 427 = .ok (.iaload, 1) := dqo_46 (kb_6 43 rfl)
theorem dL_law_428 : decode cL_law 428 = .ok (.invokevirtual 190, 3) := dqo_182 0 190 (kb_6 44 rfl) (kb_6 45 rfl) (kb_6 46 rfl)
theorem dL_law_431 : decode cL_law 431 = .ok (.istore 6, 2) := dqo_54 6 (kb_6 47 rfl) (kb_6 48 rfl)
theorem dL_law_433 : decode cL_law 433 = .ok (.goto 1695, 3) := dqo_167 6 159 (by decide) (kb_6 49 rfl) (kb_6 50 rfl) (kb_6 51 rfl)
theorem dL_law_436 : decode cL_law 436 = .ok (.aload_n 1, 1) := dqo_43 (kb_6 52 rfl)
theorem dL_law_437 : decode cL_law 437 = .ok (.aload_n 0, 1) := dqo_42 (kb_6 53 rfl)
theorem dL_law_438 : decode cL_law 438 = .ok (.iload 4, 2) := dqo_21 4 (kb_6 54 rfl) (kb_6 55 rfl)
theorem dL_law_440 : decode cL_law 440 = .ok (.iconst 1, 1) := dqo_4 (kb_6 56 rfl)
theorem dL_law_441 : decode cL_law 441 = .ok (.iadd, 1) := dqo_96 (kb_6 57 rfl)
theorem dL_law_442 : decode cL_law 442 = .ok (.iaload, 1) := dqo_46 (kb_6 58 rfl)
theorem dL_law_443 : decode cL_law 443 = .ok (.aload_n 3, 1) := dqo_45 (kb_6 59 rfl)
theorem dL_law_444 : decode cL_law 444 = .ok (.invokestatic 191, 3) := dqo_184 0 191 (kb_6 60 rfl) (kb_6 61 rfl) (kb_6 62 rfl)
theorem dL_law_447 : decode cL_law 447 = .ok (.istore 5, 2) := dqo_54 5 (kb_6 63 rfl) (kb_7 0 rfl)
theorem dL_law_449 : decode cL_law 449 = .ok (.aload_n 2, 1) := dqo_44 (kb_7 1 rfl)
theorem dL_law_450 : decode cL_law 450 = .ok (.aload_n 0, 1) := dqo_42 (kb_7 2 rfl)
theorem dL_law_451 : decode cL_law 451 = .ok (.iload 4, 2) := dqo_21 4 (kb_7 3 rfl) (kb_7 4 rfl)
theorem dL_law_453 : decode cL_law 453 = .ok (.iconst 1, 1) := dqo_4 (kb_7 5 rfl)
theorem dL_law_454 : decode cL_law 454 = .ok (.iadd, 1) := dqo_96 (kb_7 6 rfl)
theorem dL_law_455 : decode cL_law 455 = .ok (.iaload, 1) := dqo_46 (kb_7 7 rfl)
theorem dL_law_456 : decode cL_law 456 = .ok (.invokevirtual 194, 3) := dqo_182 0 194 (kb_7 8 rfl) (kb_7 9 rfl) (kb_7 10 rfl)
theorem dL_law_459 : decode cL_law 459 = .ok (.istore 6, 2) := dqo_54 6 (kb_7 11 rfl) (kb_7 12 rfl)
theorem dL_law_461 : decode cL_law 461 = .ok (.goto 1667, 3) := dqo_167 6 131 (by decide) (kb_7 13 rfl) (kb_7 14 rfl) (kb_7 15 rfl)
theorem dL_law_464 : decode cL_law 464 = .ok (.aload_n 1, 1) := dqo_43 (kb_7 16 rfl)
theorem dL_law_465 : decode cL_law 465 = .ok (.aload_n 0, 1) := dqo_42 (kb_7 17 rfl)
theorem dL_law_466 : decode cL_law 466 = .ok (.iload 4, 2) := dqo_21 4 (kb_7 18 rfl) (kb_7 19 rfl)
theorem dL_law_468 : decode cL_law 468 = .ok (.iconst 1, 1) := dqo_4 (kb_7 20 rfl)
theorem dL_law_469 : decode cL_law 469 = .ok (.iadd, 1) := dqo_96 (kb_7 21 rfl)
theorem dL_law_470 : decode cL_law 470 = .ok (.iaload, 1) := dqo_46 (kb_7 22 rfl)
theorem dL_law_471 : decode cL_law 471 = .ok (.aload_n 0, 1) := dqo_42 (kb_7 23 rfl)
theorem dL_law_472 : decode cL_law 472 = .ok (.iload 4, 2) := dqo_21 4 (kb_7 24 rfl) (kb_7 25 rfl)
theorem dL_law_474 : decode cL_law 474 = .ok (.iconst 2, 1) := dqo_5 (kb_7 26 rfl)
theorem dL_law_475 : decode cL_law 475 = .ok (.iadd, 1) := dqo_96 (kb_7 27 rfl)
theorem dL_law_476 : decode cL_law 476 = .ok (.iaload, 1) := dqo_46 (kb_7 28 rfl)
theorem dL_law_477 : decode cL_law 477 = .ok (.aload_n 0, 1) := dqo_42 (kb_7 29 rfl)
theorem dL_law_478 : decode cL_law 478 = .ok (.iload 4, 2) := dqo_21 4 (kb_7 30 rfl) (kb_7 31 rfl)
theorem dL_law_480 : decode cL_law 480 = .ok (.iconst 3, 1) := dqo_6 (kb_7 32 rfl)
theorem dL_law_481 : decode cL_law 481 = .ok (.iadd, 1) := dqo_96 (kb_7 33 rfl)
theorem dL_law_482 : decode cL_law 482 = .ok (.iaload, 1) := dqo_46 (kb_7 34 rfl)
theorem dL_law_483 : decode cL_law 483 = .ok (.aload_n 0, 1) := dqo_42 (kb_7 35 rfl)
theorem dL_law_484 : decode cL_law 484 = .ok (.iload 4, 2) := dqo_21 4 (kb_7 36 rfl) (kb_7 37 rfl)
theorem dL_law_486 : decode cL_law 486 = .ok (.iconst 4, 1) := dqo_7 (kb_7 38 rfl)
theorem dL_law_487 : decode cL_law 487 = .ok (.iadd, 1) := dqo_96 (kb_7 39 rfl)
theorem dL_law_488 : decode cL_law 488 = .ok (.iaload, 1) := dqo_46 (kb_7 40 rfl)
theorem dL_law_489 : decode cL_law 489 = .ok (.aload_n 3, 1) := dqo_45 (kb_7 41 rfl)
theorem dL_law_490 : decode cL_law 490 = .ok (.invokestatic 195, 3) := dqo_184 0 195 (kb_7 42 rfl) (kb_7 43 rfl) (kb_7 44 rfl)
theorem dL_law_493 : decode cL_law 493 = .ok (.istore 5, 2) := dqo_54 5 (kb_7 45 rfl) (kb_7 46 rfl)
theorem dL_law_495 : decode cL_law 495 = .ok (.aload_n 2, 1) := dqo_44 (kb_7 47 rfl)
theorem dL_law_496 : decode cL_law 496 = .ok (.aload_n 0, 1) := dqo_42 (kb_7 48 rfl)
theorem dL_law_497 : decode cL_law 497 = .ok (.iload 4, 2) := dqo_21 4 (kb_7 49 rfl) (kb_7 50 rfl)
theorem dL_law_499 : decode cL_law 499 = .ok (.iconst 1, 1) := dqo_4 (kb_7 51 rfl)
theorem dL_law_500 : decode cL_law 500 = .ok (.iadd, 1) := dqo_96 (kb_7 52 rfl)
theorem dL_law_501 : decode cL_law 501 = .ok (.iaload, 1) := dqo_46 (kb_7 53 rfl)
theorem dL_law_502 : decode cL_law 502 = .ok (.aload_n 0, 1) := dqo_42 (kb_7 54 rfl)
theorem dL_law_503 : decode cL_law 503 = .ok (.iload 4, 2) := dqo_21 4 (kb_7 55 rfl) (kb_7 56 rfl)
theorem dL_law_505 : decode cL_law 505 = .ok (.iconst 2, 1) := dqo_5 (kb_7 57 rfl)
theorem dL_law_506 : decode cL_law 506 = .ok (.iadd, 1) := dqo_96 (kb_7 58 rfl)
theorem dL_law_507 : decode cL_law 507 = .ok (.iaload, 1) := dqo_46 (kb_7 59 rfl)
theorem dL_law_508 : decode cL_law 508 = .ok (.aload_n 0, 1) := dqo_42 (kb_7 60 rfl)
theorem dL_law_509 : decode cL_law 509 = .ok (.iload 4, 2) := dqo_21 4 (kb_7 61 rfl) (kb_7 62 rfl)
theorem dL_law_511 : decode cL_law 511 = .ok (.iconst 3, 1) := dqo_6 (kb_7 63 rfl)
theorem dL_law_512 : decode cL_law 512 = .ok (.iadd, 1) := dqo_96 (kb_8 0 rfl)
theorem dL_law_513 : decode cL_law 513 = .ok (.iaload, 1) := dqo_46 (kb_8 1 rfl)
theorem dL_law_514 : decode cL_law 514 = .ok (.aload_n 0, 1) := dqo_42 (kb_8 2 rfl)
theorem dL_law_515 : decode cL_law 515 = .ok (.iload 4, 2) := dqo_21 4 (kb_8 3 rfl) (kb_8 4 rfl)
theorem dL_law_517 : decode cL_law 517 = .ok (.iconst 4, 1) := dqo_7 (kb_8 5 rfl)
theorem dL_law_518 : decode cL_law 518 = .ok (.iadd, 1) := dqo_96 (kb_8 6 rfl)
theorem dL_law_519 : decode cL_law 519 = .ok (.iaload, 1) := dqo_46 (kb_8 7 rfl)
theorem dL_law_520 : decode cL_law 520 = .ok (.invokevirtual 198, 3) := dqo_182 0 198 (kb_8 8 rfl) (kb_8 9 rfl) (kb_8 10 rfl)
theorem dL_law_523 : decode cL_law 523 = .ok (.istore 6, 2) := dqo_54 6 (kb_8 11 rfl) (kb_8 12 rfl)
theorem dL_law_525 : decode cL_law 525 = .ok (.goto 1603, 3) := dqo_167 6 67 (by decide) (kb_8 13 rfl) (kb_8 14 rfl) (kb_8 15 rfl)
theorem dL_law_528 : decode cL_law 528 = .ok (.aload_n 1, 1) := dqo_43 (kb_8 16 rfl)
theorem dL_law_529 : decode cL_law 529 = .ok (.aload_n 0, 1) := dqo_42 (kb_8 17 rfl)
theorem dL_law_530 : decode cL_law 530 = .ok (.iload 4, 2) := dqo_21 4 (kb_8 18 rfl) (kb_8 19 rfl)
theorem dL_law_532 : decode cL_law 532 = .ok (.iconst 1, 1) := dqo_4 (kb_8 20 rfl)
theorem dL_law_533 : decode cL_law 533 = .ok (.iadd, 1) := dqo_96 (kb_8 21 rfl)
theorem dL_law_534 : decode cL_law 534 = .ok (.iaload, 1) := dqo_46 (kb_8 22 rfl)
theorem dL_law_535 : decode cL_law 535 = .ok (.aload_n 0, 1) := dqo_42 (kb_8 23 rfl)
theorem dL_law_536 : decode cL_law 536 = .ok (.iload 4, 2) := dqo_21 4 (kb_8 24 rfl) (kb_8 25 rfl)
theorem dL_law_538 : decode cL_law 538 = .ok (.iconst 2, 1) := dqo_5 (kb_8 26 rfl)
theorem dL_law_539 : decode cL_law 539 = .ok (.iadd, 1) := dqo_96 (kb_8 27 rfl)
theorem dL_law_540 : decode cL_law 540 = .ok (.iaload, 1) := dqo_46 (kb_8 28 rfl)
theorem dL_law_541 : decode cL_law 541 = .ok (.aload_n 3, 1) := dqo_45 (kb_8 29 rfl)
theorem dL_law_542 : decode cL_law 542 = .ok (.invokestatic 199, 3) := dqo_184 0 199 (kb_8 30 rfl) (kb_8 31 rfl) (kb_8 32 rfl)
theorem dL_law_545 : decode cL_law 545 = .ok (.istore 5, 2) := dqo_54 5 (kb_8 33 rfl) (kb_8 34 rfl)
theorem dL_law_547 : decode cL_law 547 = .ok (.aload_n 2, 1) := dqo_44 (kb_8 35 rfl)
theorem dL_law_548 : decode cL_law 548 = .ok (.aload_n 0, 1) := dqo_42 (kb_8 36 rfl)
theorem dL_law_549 : decode cL_law 549 = .ok (.iload 4, 2) := dqo_21 4 (kb_8 37 rfl) (kb_8 38 rfl)
theorem dL_law_551 : decode cL_law 551 = .ok (.iconst 1, 1) := dqo_4 (kb_8 39 rfl)
theorem dL_law_552 : decode cL_law 552 = .ok (.iadd, 1) := dqo_96 (kb_8 40 rfl)
theorem dL_law_553 : decode cL_law 553 = .ok (.iaload, 1) := dqo_46 (kb_8 41 rfl)
theorem dL_law_554 : decode cL_law 554 = .ok (.aload_n 0, 1) := dqo_42 (kb_8 42 rfl)
theorem dL_law_555 : decode cL_law 555 = .ok (.iload 4, 2) := dqo_21 4 (kb_8 43 rfl) (kb_8 44 rfl)
theorem dL_law_557 : decode cL_law 557 = .ok (.iconst 2, 1) := dqo_5 (kb_8 45 rfl)
theorem dL_law_558 : decode cL_law 558 = .ok (.iadd, 1) := dqo_96 (kb_8 46 rfl)
theorem dL_law_559 : decode cL_law 559 = .ok (.iaload, 1) := dqo_46 (kb_8 47 rfl)
theorem dL_law_560 : decode cL_law 560 = .ok (.invokevirtual 201, 3) := dqo_182 0 201 (kb_8 48 rfl) (kb_8 49 rfl) (kb_8 50 rfl)
theorem dL_law_563 : decode cL_law 563 = .ok (.istore 6, 2) := dqo_54 6 (kb_8 51 rfl) (kb_8 52 rfl)
theorem dL_law_565 : decode cL_law 565 = .ok (.goto 1563, 3) := dqo_167 6 27 (by decide) (kb_8 53 rfl) (kb_8 54 rfl) (kb_8 55 rfl)
theorem dL_law_568 : decode cL_law 568 = .ok (.aload_n 1, 1) := dqo_43 (kb_8 56 rfl)
theorem dL_law_569 : decode cL_law 569 = .ok (.aload_n 0, 1) := dqo_42 (kb_8 57 rfl)
theorem dL_law_570 : decode cL_law 570 = .ok (.iload 4, 2) := dqo_21 4 (kb_8 58 rfl) (kb_8 59 rfl)
theorem dL_law_572 : decode cL_law 572 = .ok (.iconst 1, 1) := dqo_4 (kb_8 60 rfl)
theorem dL_law_573 : decode cL_law 573 = .ok (.iadd, 1) := dqo_96 (kb_8 61 rfl)
theorem dL_law_574 : decode cL_law 574 = .ok (.iaload, 1) := dqo_46 (kb_8 62 rfl)
theorem dL_law_575 : decode cL_law 575 = .ok (.aload_n 3, 1) := dqo_45 (kb_8 63 rfl)
theorem dL_law_576 : decode cL_law 576 = .ok (.invokestatic 202, 3) := dqo_184 0 202 (kb_9 0 rfl) (kb_9 1 rfl) (kb_9 2 rfl)
theorem dL_law_579 : decode cL_law 579 = .ok (.istore 5, 2) := dqo_54 5 (kb_9 3 rfl) (kb_9 4 rfl)
theorem dL_law_581 : decode cL_law 581 = .ok (.aload_n 2, 1) := dqo_44 (kb_9 5 rfl)
theorem dL_law_582 : decode cL_law 582 = .ok (.aload_n 0, 1) := dqo_42 (kb_9 6 rfl)
theorem dL_law_583 : decode cL_law 583 = .ok (.iload 4, 2) := dqo_21 4 (kb_9 7 rfl) (kb_9 8 rfl)
theorem dL_law_585 : decode cL_law 585 = .ok (.iconst 1, 1) := dqo_4 (kb_9 9 rfl)
theorem dL_law_586 : decode cL_law 586 = .ok (.iadd, 1) := dqo_96 (kb_9 10 rfl)
theorem dL_law_587 : decode cL_law 587 = .ok (.iaload, 1) := dqo_46 (kb_9 11 rfl)
theorem dL_law_588 : decode cL_law 588 = .ok (.invokevirtual 204, 3) := dqo_182 0 204 (kb_9 12 rfl) (kb_9 13 rfl) (kb_9 14 rfl)
theorem dL_law_591 : decode cL_law 591 = .ok (.istore 6, 2) := dqo_54 6 (kb_9 15 rfl) (kb_9 16 rfl)
theorem dL_law_593 : decode cL_law 593 = .ok (.goto 1535, 3) := dqo_167 5 255 (by decide) (kb_9 17 rfl) (kb_9 18 rfl) (kb_9 19 rfl)
theorem dL_law_596 : decode cL_law 596 = .ok (.aload_n 1, 1) := dqo_43 (kb_9 20 rfl)
theorem dL_law_597 : decode cL_law 597 = .ok (.aload_n 0, 1) := dqo_42 (kb_9 21 rfl)
theorem dL_law_598 : decode cL_law 598 = .ok (.iload 4, 2) := dqo_21 4 (kb_9 22 rfl) (kb_9 23 rfl)
theorem dL_law_600 : decode cL_law 600 = .ok (.iconst 1, 1) := dqo_4 (kb_9 24 rfl)
theorem dL_law_601 : decode cL_law 601 = .ok (.iadd, 1) := dqo_96 (kb_9 25 rfl)
theorem dL_law_602 : decode cL_law 602 = .ok (.iaload, 1) := dqo_46 (kb_9 26 rfl)
theorem dL_law_603 : decode cL_law 603 = .ok (.aload_n 0, 1) := dqo_42 (kb_9 27 rfl)
theorem dL_law_604 : decode cL_law 604 = .ok (.iload 4, 2) := dqo_21 4 (kb_9 28 rfl) (kb_9 29 rfl)
theorem dL_law_606 : decode cL_law 606 = .ok (.iconst 2, 1) := dqo_5 (kb_9 30 rfl)
theorem dL_law_607 : decode cL_law 607 = .ok (.iadd, 1) := dqo_96 (kb_9 31 rfl)
theorem dL_law_608 : decode cL_law 608 = .ok (.iaload, 1) := dqo_46 (kb_9 32 rfl)
theorem dL_law_609 : decode cL_law 609 = .ok (.aload_n 0, 1) := dqo_42 (kb_9 33 rfl)
theorem dL_law_610 : decode cL_law 610 = .ok (.iload 4, 2) := dqo_21 4 (kb_9 34 rfl) (kb_9 35 rfl)
theorem dL_law_612 : decode cL_law 612 = .ok (.iconst 3, 1) := dqo_6 (kb_9 36 rfl)
theorem dL_law_613 : decode cL_law 613 = .ok (.iadd, 1) := dqo_96 (kb_9 37 rfl)
theorem dL_law_614 : decode cL_law 614 = .ok (.iaload, 1) := dqo_46 (kb_9 38 rfl)
theorem dL_law_615 : decode cL_law 615 = .ok (.aload_n 3, 1) := dqo_45 (kb_9 39 rfl)
theorem dL_law_616 : decode cL_law 616 = .ok (.invokestatic 205, 3) := dqo_184 0 205 (kb_9 40 rfl) (kb_9 41 rfl) (kb_9 42 rfl)
theorem dL_law_619 : decode cL_law 619 = .ok (.istore 5, 2) := dqo_54 5 (kb_9 43 rfl) (kb_9 44 rfl)
theorem dL_law_621 : decode cL_law 621 = .ok (.aload_n 2, 1) := dqo_44 (kb_9 45 rfl)
theorem dL_law_622 : decode cL_law 622 = .ok (.aload_n 0, 1) := dqo_42 (kb_9 46 rfl)
theorem dL_law_623 : decode cL_law 623 = .ok (.iload 4, 2) := dqo_21 4 (kb_9 47 rfl) (kb_9 48 rfl)
theorem dL_law_625 : decode cL_law 625 = .ok (.iconst 1, 1) := dqo_4 (kb_9 49 rfl)
theorem dL_law_626 : decode cL_law 626 = .ok (.iadd, 1) := dqo_96 (kb_9 50 rfl)
theorem dL_law_627 : decode cL_law 627 = .ok (.iaload, 1) := dqo_46 (kb_9 51 rfl)
theorem dL_law_628 : decode cL_law 628 = .ok (.aload_n 0, 1) := dqo_42 (kb_9 52 rfl)
theorem dL_law_629 : decode cL_law 629 = .ok (.iload 4, 2) := dqo_21 4 (kb_9 53 rfl) (kb_9 54 rfl)
theorem dL_law_631 : decode cL_law 631 = .ok (.iconst 2, 1) := dqo_5 (kb_9 55 rfl)
theorem dL_law_632 : decode cL_law 632 = .ok (.iadd, 1) := dqo_96 (kb_9 56 rfl)
theorem dL_law_633 : decode cL_law 633 = .ok (.iaload, 1) := dqo_46 (kb_9 57 rfl)
theorem dL_law_634 : decode cL_law 634 = .ok (.aload_n 0, 1) := dqo_42 (kb_9 58 rfl)
theorem dL_law_635 : decode cL_law 635 = .ok (.iload 4, 2) := dqo_21 4 (kb_9 59 rfl) (kb_9 60 rfl)
theorem dL_law_637 : decode cL_law 637 = .ok (.iconst 3, 1) := dqo_6 (kb_9 61 rfl)
theorem dL_law_638 : decode cL_law 638 = .ok (.iadd, 1) := dqo_96 (kb_9 62 rfl)
theorem dL_law_639 : decode cL_law 639 = .ok (.iaload, 1) := dqo_46 (kb_9 63 rfl)
theorem dL_law_640 : decode cL_law 640 = .ok (.invokevirtual 207, 3) := dqo_182 0 207 (kb_10 0 rfl) (kb_10 1 rfl) (kb_10 2 rfl)
theorem dL_law_643 : decode cL_law 643 = .ok (.istore 6, 2) := dqo_54 6 (kb_10 3 rfl) (kb_10 4 rfl)
theorem dL_law_645 : decode cL_law 645 = .ok (.goto 1483, 3) := dqo_167 5 203 (by decide) (kb_10 5 rfl) (kb_10 6 rfl) (kb_10 7 rfl)
theorem dL_law_648 : decode cL_law 648 = .ok (.aload_n 1, 1) := dqo_43 (kb_10 8 rfl)
theorem dL_law_649 : decode cL_law 649 = .ok (.aload_n 0, 1) := dqo_42 (kb_10 9 rfl)
theorem dL_law_650 : decode cL_law 650 = .ok (.iload 4, 2) := dqo_21 4 (kb_10 10 rfl) (kb_10 11 rfl)
theorem dL_law_652 : decode cL_law 652 = .ok (.iconst 1, 1) := dqo_4 (kb_10 12 rfl)
theorem dL_law_653 : decode cL_law 653 = .ok (.iadd, 1) := dqo_96 (kb_10 13 rfl)
theorem dL_law_654 : decode cL_law 654 = .ok (.iaload, 1) := dqo_46 (kb_10 14 rfl)
theorem dL_law_655 : decode cL_law 655 = .ok (.aload_n 3, 1) := dqo_45 (kb_10 15 rfl)
theorem dL_law_656 : decode cL_law 656 = .ok (.invokestatic 208, 3) := dqo_184 0 208 (kb_10 16 rfl) (kb_10 17 rfl) (kb_10 18 rfl)
theorem dL_law_659 : decode cL_law 659 = .ok (.istore 5, 2) := dqo_54 5 (kb_10 19 rfl) (kb_10 20 rfl)
theorem dL_law_661 : decode cL_law 661 = .ok (.aload_n 2, 1) := dqo_44 (kb_10 21 rfl)
theorem dL_law_662 : decode cL_law 662 = .ok (.aload_n 0, 1) := dqo_42 (kb_10 22 rfl)
theorem dL_law_663 : decode cL_law 663 = .ok (.iload 4, 2) := dqo_21 4 (kb_10 23 rfl) (kb_10 24 rfl)
theorem dL_law_665 : decode cL_law 665 = .ok (.iconst 1, 1) := dqo_4 (kb_10 25 rfl)
theorem dL_law_666 : decode cL_law 666 = .ok (.iadd, 1) := dqo_96 (kb_10 26 rfl)
theorem dL_law_667 : decode cL_law 667 = .ok (.iaload, 1) := dqo_46 (kb_10 27 rfl)
theorem dL_law_668 : decode cL_law 668 = .ok (.invokevirtual 210, 3) := dqo_182 0 210 (kb_10 28 rfl) (kb_10 29 rfl) (kb_10 30 rfl)
theorem dL_law_671 : decode cL_law 671 = .ok (.istore 6, 2) := dqo_54 6 (kb_10 31 rfl) (kb_10 32 rfl)
theorem dL_law_673 : decode cL_law 673 = .ok (.goto 1455, 3) := dqo_167 5 175 (by decide) (kb_10 33 rfl) (kb_10 34 rfl) (kb_10 35 rfl)
theorem dL_law_676 : decode cL_law 676 = .ok (.aload_n 1, 1) := dqo_43 (kb_10 36 rfl)
theorem dL_law_677 : decode cL_law 677 = .ok (.aload_n 0, 1) := dqo_42 (kb_10 37 rfl)
theorem dL_law_678 : decode cL_law 678 = .ok (.iload 4, 2) := dqo_21 4 (kb_10 38 rfl) (kb_10 39 rfl)
theorem dL_law_680 : decode cL_law 680 = .ok (.iconst 1, 1) := dqo_4 (kb_10 40 rfl)
theorem dL_law_681 : decode cL_law 681 = .ok (.iadd, 1) := dqo_96 (kb_10 41 rfl)
theorem dL_law_682 : decode cL_law 682 = .ok (.iaload, 1) := dqo_46 (kb_10 42 rfl)
theorem dL_law_683 : decode cL_law 683 = .ok (.aload_n 3, 1) := dqo_45 (kb_10 43 rfl)
theorem dL_law_684 : decode cL_law 684 = .ok (.invokestatic 211, 3) := dqo_184 0 211 (kb_10 44 rfl) (kb_10 45 rfl) (kb_10 46 rfl)
theorem dL_law_687 : decode cL_law 687 = .ok (.istore 5, 2) := dqo_54 5 (kb_10 47 rfl) (kb_10 48 rfl)
theorem dL_law_689 : decode cL_law 689 = .ok (.aload_n 2, 1) := dqo_44 (kb_10 49 rfl)
theorem dL_law_690 : decode cL_law 690 = .ok (.aload_n 0, 1) := dqo_42 (kb_10 50 rfl)
theorem dL_law_691 : decode cL_law 691 = .ok (.iload 4, 2) := dqo_21 4 (kb_10 51 rfl) (kb_10 52 rfl)
theorem dL_law_693 : decode cL_law 693 = .ok (.iconst 1, 1) := dqo_4 (kb_10 53 rfl)
theorem dL_law_694 : decode cL_law 694 = .ok (.iadd, 1) := dqo_96 (kb_10 54 rfl)
theorem dL_law_695 : decode cL_law 695 = .ok (.iaload, 1) := dqo_46 (kb_10 55 rfl)
theorem dL_law_696 : decode cL_law 696 = .ok (.invokevirtual 213, 3) := dqo_182 0 213 (kb_10 56 rfl) (kb_10 57 rfl) (kb_10 58 rfl)
theorem dL_law_699 : decode cL_law 699 = .ok (.istore 6, 2) := dqo_54 6 (kb_10 59 rfl) (kb_10 60 rfl)
theorem dL_law_701 : decode cL_law 701 = .ok (.goto 1427, 3) := dqo_167 5 147 (by decide) (kb_10 61 rfl) (kb_10 62 rfl) (kb_10 63 rfl)
theorem dL_law_704 : decode cL_law 704 = .ok (.aload_n 1, 1) := dqo_43 (kb_11 0 rfl)
theorem dL_law_705 : decode cL_law 705 = .ok (.aload_n 0, 1) := dqo_42 (kb_11 1 rfl)
theorem dL_law_706 : decode cL_law 706 = .ok (.iload 4, 2) := dqo_21 4 (kb_11 2 rfl) (kb_11 3 rfl)
theorem dL_law_708 : decode cL_law 708 = .ok (.iconst 1, 1) := dqo_4 (kb_11 4 rfl)
theorem dL_law_709 : decode cL_law 709 = .ok (.iadd, 1) := dqo_96 (kb_11 5 rfl)
theorem dL_law_710 : decode cL_law 710 = .ok (.iaload, 1) := dqo_46 (kb_11 6 rfl)
theorem dL_law_711 : decode cL_law 711 = .ok (.aload_n 3, 1) := dqo_45 (kb_11 7 rfl)
theorem dL_law_712 : decode cL_law 712 = .ok (.invokestatic 214, 3) := dqo_184 0 214 (kb_11 8 rfl) (kb_11 9 rfl) (kb_11 10 rfl)
theorem dL_law_715 : decode cL_law 715 = .ok (.istore 5, 2) := dqo_54 5 (kb_11 11 rfl) (kb_11 12 rfl)
theorem dL_law_717 : decode cL_law 717 = .ok (.aload_n 2, 1) := dqo_44 (kb_11 13 rfl)
theorem dL_law_718 : decode cL_law 718 = .ok (.aload_n 0, 1) := dqo_42 (kb_11 14 rfl)
theorem dL_law_719 : decode cL_law 719 = .ok (.iload 4, 2) := dqo_21 4 (kb_11 15 rfl) (kb_11 16 rfl)
theorem dL_law_721 : decode cL_law 721 = .ok (.iconst 1, 1) := dqo_4 (kb_11 17 rfl)
theorem dL_law_722 : decode cL_law 722 = .ok (.iadd, 1) := dqo_96 (kb_11 18 rfl)
theorem dL_law_723 : decode cL_law 723 = .ok (.iaload, 1) := dqo_46 (kb_11 19 rfl)
theorem dL_law_724 : decode cL_law 724 = .ok (.invokevirtual 216, 3) := dqo_182 0 216 (kb_11 20 rfl) (kb_11 21 rfl) (kb_11 22 rfl)
theorem dL_law_727 : decode cL_law 727 = .ok (.istore 6, 2) := dqo_54 6 (kb_11 23 rfl) (kb_11 24 rfl)
theorem dL_law_729 : decode cL_law 729 = .ok (.goto 1399, 3) := dqo_167 5 119 (by decide) (kb_11 25 rfl) (kb_11 26 rfl) (kb_11 27 rfl)
theorem S_add {p : Program} {l : Launch} {e : Env} {s : State} {m : MethodId} {args : Array Value} {below : List Frame} {meth : Method} {c : Code} {D : va_G} {cy : Nat → ClassId} {A : Nat → Prop} {Q : State → Prop} {X : (Nat → Prop) → State → Heap → Prop} {aK aV : Nat → Nat} {tO tT : Nat} {gO gT : Nat → Int32} {a : Nat → Nat → Nat} {ba : Nat → Nat} {o b L i cells slots : Nat} {xs : Nat → Int32} {w : va_W} (C : Fg p s m args meth c cL_law 7 RL D cy A) (hE : X A s s.heap) (hT : EnvT X cy aK aV tO tT gO gT) (hN : EnvN X) (hl : l.stackTraces = false) (hx : va_X b L xs s s.heap) (hbl : b < s.heap.size) (hbA : ¬ A b) (hi : i + 5 ≤ L) (hL : L ≤ 2560) (hc : cells + 500 ≤ room_1.cells) (hs : slots + 10000 ≤ room_1.slots) (hJ : JW cy a ba o w) (kk : ∀ w' : va_W, JW cy a ba o w' → vW p l e room_1 s m args below meth c D vwCl A Q 7 (cells + 500) (slots + 10000) w' [some (.ref b), some (.ref (a 0 0)), some (.ref (ba 9)), some (.ref o), some (.int (nI i)), none, none] 2128 []) : vW p l e room_1 s m args below meth c D vwCl A Q 7 cells slots w [some (.ref b), some (.ref (a 0 0)), some (.ref (ba 9)), some (.ref o), some (.int (nI i)), none, none] 252 [] := by
  have hX := hT.1.1
  obtain ⟨f, r, hf, hq, kn, ra, th, sm, n, v, hC, hB, hM, rfl⟩ := hJ
  refine r_aload_n C dL_law_252 rfl ?_
  refine r_aload_n C dL_law_253 rfl ?_
  refine r_iload C dL_law_254 rfl ?_
  refine r_iconst (v := nI 1) C dL_law_256 (by decide) ?_
  refine r_iaddN C dL_law_257 ?_
  refine r_sld C hx hbl hbA (show i + 1 < L by omega) (by omega) dL_law_258 ?_
  refine r_aload_n C dL_law_259 rfl ?_
  refine r_iload C dL_law_260 rfl ?_
  refine r_iconst (v := nI 2) C dL_law_262 (by decide) ?_
  refine r_iaddN C dL_law_263 ?_
  refine r_sld C hx hbl hbA (show i + 2 < L by omega) (by omega) dL_law_264 ?_
  refine r_aload_n C dL_law_265 rfl ?_
  refine c_SH (st := []) hX.1.stb C hE (W_add hX.1 hN hC hB hM (P_add hX hl hC hB hM (xs (i + 1)) (xs (i + 2)))) pk_L_add qm_L_175 rfl rfl (Nat.le_of_ble_eq_true rfl) dL_law_266 ⟨(Nat.le_of_ble_eq_true rfl), (Nat.le_of_ble_eq_true rfl)⟩ ⟨show cells + 1 ≤ room_1.cells by omega, show slots + 6 ≤ room_1.slots by omega⟩ (fun v9 w9 h9 => ?_) (fun _ h9 => h9.elim)
  obtain ⟨f', r', k, n1, rfl, rfl, hf', hq', n2, hC', hB', hM', hk0, hk4, h2⟩ := h9
  refine r_istore C dL_law_269 (by decide) rfl ?_
  refine r_aload_n C dL_law_271 rfl ?_
  refine r_aload_n C dL_law_272 rfl ?_
  refine r_iload C dL_law_273 rfl ?_
  refine r_iconst (v := nI 1) C dL_law_275 (by decide) ?_
  refine r_iaddN C dL_law_276 ?_
  refine r_sld C hx hbl hbA (show i + 1 < L by omega) (by omega) dL_law_277 ?_
  refine r_aload_n C dL_law_278 rfl ?_
  refine r_iload C dL_law_279 rfl ?_
  refine r_iconst (v := nI 2) C dL_law_281 (by decide) ?_
  refine r_iaddN C dL_law_282 ?_
  refine r_sld C hx hbl hbA (show i + 2 < L by omega) (by omega) dL_law_283 ?_
  refine t_swap3 ?_
  refine c_V (st := []) hX.1.stb C hE (h2 _) pk_X4_add qm_L_180 0 8 rfl rfl wm_0 rfl rfl (Nat.le_of_ble_eq_true rfl) dL_law_284 ⟨(Nat.le_of_ble_eq_true rfl), (Nat.le_of_ble_eq_true rfl)⟩ ⟨show cells + 1 + 4 ≤ room_1.cells by omega, show slots + 6 + 48 ≤ room_1.slots by omega⟩ (fun v9 w9 h9 => ?_) (fun _ h9 => h9.elim)
  obtain ⟨ra9, rfl, rfl⟩ := h9
  refine r_istore C dL_law_287 (by decide) rfl ?_
  refine t_swap3 ?_
  refine r_goto (tgt := 2128) C dL_law_289 (by decide) ?_
  refine r_widen (k := cells + 500) (n := slots + 10000) (show cells + 1 + 4 ≤ cells + 500 by omega) (show slots + 6 + 48 ≤ slots + 10000 by omega) ?_
  refine r_drop 5 ?_
  refine r_drop 6 ?_
  exact kk _ ⟨f', r', hf', hq', kn, ra9, _, sm, _, _, hC', hB', hM', rfl⟩
theorem S_insert {p : Program} {l : Launch} {e : Env} {s : State} {m : MethodId} {args : Array Value} {below : List Frame} {meth : Method} {c : Code} {D : va_G} {cy : Nat → ClassId} {A : Nat → Prop} {Q : State → Prop} {X : (Nat → Prop) → State → Heap → Prop} {aK aV : Nat → Nat} {tO tT : Nat} {gO gT : Nat → Int32} {a : Nat → Nat → Nat} {ba : Nat → Nat} {o b L i cells slots : Nat} {xs : Nat → Int32} {w : va_W} (C : Fg p s m args meth c cL_law 7 RL D cy A) (hE : X A s s.heap) (hT : EnvT X cy aK aV tO tT gO gT) (hN : EnvN X) (hl : l.stackTraces = false) (hx : va_X b L xs s s.heap) (hbl : b < s.heap.size) (hbA : ¬ A b) (hi : i + 5 ≤ L) (hL : L ≤ 2560) (hc : cells + 500 ≤ room_1.cells) (hs : slots + 10000 ≤ room_1.slots) (hJ : JW cy a ba o w) (kk : ∀ w' : va_W, JW cy a ba o w' → vW p l e room_1 s m args below meth c D vwCl A Q 7 (cells + 500) (slots + 10000) w' [some (.ref b), some (.ref (a 0 0)), some (.ref (ba 9)), some (.ref o), some (.int (nI i)), none, none] 2128 []) : vW p l e room_1 s m args below meth c D vwCl A Q 7 cells slots w [some (.ref b), some (.ref (a 0 0)), some (.ref (ba 9)), some (.ref o), some (.int (nI i)), none, none] 292 [] := by
  have hX := hT.1.1
  obtain ⟨f, r, hf, hq, kn, ra, th, sm, n, v, hC, hB, hM, rfl⟩ := hJ
  refine r_aload_n C dL_law_292 rfl ?_
  refine r_aload_n C dL_law_293 rfl ?_
  refine r_iload C dL_law_294 rfl ?_
  refine r_iconst (v := nI 1) C dL_law_296 (by decide) ?_
  refine r_iaddN C dL_law_297 ?_
  refine r_sld C hx hbl hbA (show i + 1 < L by omega) (by omega) dL_law_298 ?_
  refine r_aload_n C dL_law_299 rfl ?_
  refine r_iload C dL_law_300 rfl ?_
  refine r_iconst (v := nI 2) C dL_law_302 (by decide) ?_
  refine r_iaddN C dL_law_303 ?_
  refine r_sld C hx hbl hbA (show i + 2 < L by omega) (by omega) dL_law_304 ?_
  refine r_aload_n C dL_law_305 rfl ?_
  refine r_iload C dL_law_306 rfl ?_
  refine r_iconst (v := nI 3) C dL_law_308 (by decide) ?_
  refine r_iaddN C dL_law_309 ?_
  refine r_sld C hx hbl hbA (show i + 3 < L by omega) (by omega) dL_law_310 ?_
  refine r_aload_n C dL_law_311 rfl ?_
  refine c_SH (st := []) hX.1.stb C hE (W_insert hX.1 hN hC hB hM (P_insert hX hl hC hB hM (xs (i + 1)) (xs (i + 2)) (xs (i + 3)))) pk_L_insert qm_L_181 rfl rfl (Nat.le_of_ble_eq_true rfl) dL_law_312 ⟨(Nat.le_of_ble_eq_true rfl), (Nat.le_of_ble_eq_true rfl)⟩ ⟨show cells + 1 ≤ room_1.cells by omega, show slots + 6 ≤ room_1.slots by omega⟩ (fun v9 w9 h9 => ?_) (fun _ h9 => h9.elim)
  obtain ⟨f', r', k, n1, rfl, rfl, hf', hq', n2, hC', hB', hM', hk0, hk4, h2⟩ := h9
  refine r_istore C dL_law_315 (by decide) rfl ?_
  refine r_aload_n C dL_law_317 rfl ?_
  refine r_aload_n C dL_law_318 rfl ?_
  refine r_iload C dL_law_319 rfl ?_
  refine r_iconst (v := nI 1) C dL_law_321 (by decide) ?_
  refine r_iaddN C dL_law_322 ?_
  refine r_sld C hx hbl hbA (show i + 1 < L by omega) (by omega) dL_law_323 ?_
  refine r_aload_n C dL_law_324 rfl ?_
  refine r_iload C dL_law_325 rfl ?_
  refine r_iconst (v := nI 2) C dL_law_327 (by decide) ?_
  refine r_iaddN C dL_law_328 ?_
  refine r_sld C hx hbl hbA (show i + 2 < L by omega) (by omega) dL_law_329 ?_
  refine r_aload_n C dL_law_330 rfl ?_
  refine r_iload C dL_law_331 rfl ?_
  refine r_iconst (v := nI 3) C dL_law_333 (by decide) ?_
  refine r_iaddN C dL_law_334 ?_
  refine r_sld C hx hbl hbA (show i + 3 < L by omega) (by omega) dL_law_335 ?_
  refine t_swap3 ?_
  refine c_V (st := []) hX.1.stb C hE (h2 _) pk_X4_insert qm_L_184 0 8 rfl rfl wm_0 rfl rfl (Nat.le_of_ble_eq_true rfl) dL_law_336 ⟨(Nat.le_of_ble_eq_true rfl), (Nat.le_of_ble_eq_true rfl)⟩ ⟨show cells + 1 + 4 ≤ room_1.cells by omega, show slots + 6 + 48 ≤ room_1.slots by omega⟩ (fun v9 w9 h9 => ?_) (fun _ h9 => h9.elim)
  obtain ⟨ra9, rfl, rfl⟩ := h9
  refine r_istore C dL_law_339 (by decide) rfl ?_
  refine t_swap3 ?_
  refine r_goto (tgt := 2128) C dL_law_341 (by decide) ?_
  refine r_widen (k := cells + 500) (n := slots + 10000) (show cells + 1 + 4 ≤ cells + 500 by omega) (show slots + 6 + 48 ≤ slots + 10000 by omega) ?_
  refine r_drop 5 ?_
  refine r_drop 6 ?_
  exact kk _ ⟨f', r', hf', hq', kn, ra9, _, sm, _, _, hC', hB', hM', rfl⟩
theorem S_set {p : Program} {l : Launch} {e : Env} {s : State} {m : MethodId} {args : Array Value} {below : List Frame} {meth : Method} {c : Code} {D : va_G} {cy : Nat → ClassId} {A : Nat → Prop} {Q : State → Prop} {X : (Nat → Prop) → State → Heap → Prop} {aK aV : Nat → Nat} {tO tT : Nat} {gO gT : Nat → Int32} {a : Nat → Nat → Nat} {ba : Nat → Nat} {o b L i cells slots : Nat} {xs : Nat → Int32} {w : va_W} (C : Fg p s m args meth c cL_law 7 RL D cy A) (hE : X A s s.heap) (hT : EnvT X cy aK aV tO tT gO gT) (hN : EnvN X) (hl : l.stackTraces = false) (hx : va_X b L xs s s.heap) (hbl : b < s.heap.size) (hbA : ¬ A b) (hi : i + 5 ≤ L) (hL : L ≤ 2560) (hc : cells + 500 ≤ room_1.cells) (hs : slots + 10000 ≤ room_1.slots) (hJ : JW cy a ba o w) (kk : ∀ w' : va_W, JW cy a ba o w' → vW p l e room_1 s m args below meth c D vwCl A Q 7 (cells + 500) (slots + 10000) w' [some (.ref b), some (.ref (a 0 0)), some (.ref (ba 9)), some (.ref o), some (.int (nI i)), none, none] 2128 []) : vW p l e room_1 s m args below meth c D vwCl A Q 7 cells slots w [some (.ref b), some (.ref (a 0 0)), some (.ref (ba 9)), some (.ref o), some (.int (nI i)), none, none] 344 [] := by
  have hX := hT.1.1
  obtain ⟨f, r, hf, hq, kn, ra, th, sm, n, v, hC, hB, hM, rfl⟩ := hJ
  refine r_aload_n C dL_law_344 rfl ?_
  refine r_aload_n C dL_law_345 rfl ?_
  refine r_iload C dL_law_346 rfl ?_
  refine r_iconst (v := nI 1) C dL_law_348 (by decide) ?_
  refine r_iaddN C dL_law_349 ?_
  refine r_sld C hx hbl hbA (show i + 1 < L by omega) (by omega) dL_law_350 ?_
  refine r_aload_n C dL_law_351 rfl ?_
  refine r_iload C dL_law_352 rfl ?_
  refine r_iconst (v := nI 2) C dL_law_354 (by decide) ?_
  refine r_iaddN C dL_law_355 ?_
  refine r_sld C hx hbl hbA (show i + 2 < L by omega) (by omega) dL_law_356 ?_
  refine r_aload_n C dL_law_357 rfl ?_
  refine r_iload C dL_law_358 rfl ?_
  refine r_iconst (v := nI 3) C dL_law_360 (by decide) ?_
  refine r_iaddN C dL_law_361 ?_
  refine r_sld C hx hbl hbA (show i + 3 < L by omega) (by omega) dL_law_362 ?_
  refine r_aload_n C dL_law_363 rfl ?_
  refine c_SH (st := []) hX.1.stb C hE (W_set hX.1 hN hC hB hM (P_set hX hl hC hB hM (xs (i + 1)) (xs (i + 2)) (xs (i + 3)))) pk_L_set qm_L_185 rfl rfl (Nat.le_of_ble_eq_true rfl) dL_law_364 ⟨(Nat.le_of_ble_eq_true rfl), (Nat.le_of_ble_eq_true rfl)⟩ ⟨show cells + 1 ≤ room_1.cells by omega, show slots + 6 ≤ room_1.slots by omega⟩ (fun v9 w9 h9 => ?_) (fun _ h9 => h9.elim)
  obtain ⟨f', r', k, n1, rfl, rfl, hf', hq', n2, hC', hB', hM', hk0, hk4, h2⟩ := h9
  refine r_istore C dL_law_367 (by decide) rfl ?_
  refine r_aload_n C dL_law_369 rfl ?_
  refine r_aload_n C dL_law_370 rfl ?_
  refine r_iload C dL_law_371 rfl ?_
  refine r_iconst (v := nI 1) C dL_law_373 (by decide) ?_
  refine r_iaddN C dL_law_374 ?_
  refine r_sld C hx hbl hbA (show i + 1 < L by omega) (by omega) dL_law_375 ?_
  refine r_aload_n C dL_law_376 rfl ?_
  refine r_iload C dL_law_377 rfl ?_
  refine r_iconst (v := nI 2) C dL_law_379 (by decide) ?_
  refine r_iaddN C dL_law_380 ?_
  refine r_sld C hx hbl hbA (show i + 2 < L by omega) (by omega) dL_law_381 ?_
  refine r_aload_n C dL_law_382 rfl ?_
  refine r_iload C dL_law_383 rfl ?_
  refine r_iconst (v := nI 3) C dL_law_385 (by decide) ?_
  refine r_iaddN C dL_law_386 ?_
  refine r_sld C hx hbl hbA (show i + 3 < L by omega) (by omega) dL_law_387 ?_
  refine t_swap3 ?_
  refine c_V (st := []) hX.1.stb C hE (h2 _) pk_X4_set qm_L_187 0 8 rfl rfl wm_0 rfl rfl (Nat.le_of_ble_eq_true rfl) dL_law_388 ⟨(Nat.le_of_ble_eq_true rfl), (Nat.le_of_ble_eq_true rfl)⟩ ⟨show cells + 1 + 4 ≤ room_1.cells by omega, show slots + 6 + 48 ≤ room_1.slots by omega⟩ (fun v9 w9 h9 => ?_) (fun _ h9 => h9.elim)
  obtain ⟨ra9, rfl, rfl⟩ := h9
  refine r_istore C dL_law_391 (by decide) rfl ?_
  refine t_swap3 ?_
  refine r_goto (tgt := 2128) C dL_law_393 (by decide) ?_
  refine r_widen (k := cells + 500) (n := slots + 10000) (show cells + 1 + 4 ≤ cells + 500 by omega) (show slots + 6 + 48 ≤ slots + 10000 by omega) ?_
  refine r_drop 5 ?_
  refine r_drop 6 ?_
  exact kk _ ⟨f', r', hf', hq', kn, ra9, _, sm, _, _, hC', hB', hM', rfl⟩
theorem S_remove {p : Program} {l : Launch} {e : Env} {s : State} {m : MethodId} {args : Array Value} {below : List Frame} {meth : Method} {c : Code} {D : va_G} {cy : Nat → ClassId} {A : Nat → Prop} {Q : State → Prop} {X : (Nat → Prop) → State → Heap → Prop} {aK aV : Nat → Nat} {tO tT : Nat} {gO gT : Nat → Int32} {a : Nat → Nat → Nat} {ba : Nat → Nat} {o b L i cells slots : Nat} {xs : Nat → Int32} {w : va_W} (C : Fg p s m args meth c cL_law 7 RL D cy A) (hE : X A s s.heap) (hT : EnvT X cy aK aV tO tT gO gT) (hN : EnvN X) (hl : l.stackTraces = false) (hx : va_X b L xs s s.heap) (hbl : b < s.heap.size) (hbA : ¬ A b) (hi : i + 5 ≤ L) (hL : L ≤ 2560) (hc : cells + 500 ≤ room_1.cells) (hs : slots + 10000 ≤ room_1.slots) (hJ : JW cy a ba o w) (kk : ∀ w' : va_W, JW cy a ba o w' → vW p l e room_1 s m args below meth c D vwCl A Q 7 (cells + 500) (slots + 10000) w' [some (.ref b), some (.ref (a 0 0)), some (.ref (ba 9)), some (.ref o), some (.int (nI i)), none, none] 2128 []) : vW p l e room_1 s m args below meth c D vwCl A Q 7 cells slots w [some (.ref b), some (.ref (a 0 0)), some (.ref (ba 9)), some (.ref o), some (.int (nI i)), none, none] 396 [] := by
  have hX := hT.1.1
  obtain ⟨f, r, hf, hq, kn, ra, th, sm, n, v, hC, hB, hM, rfl⟩ := hJ
  refine r_aload_n C dL_law_396 rfl ?_
  refine r_aload_n C dL_law_397 rfl ?_
  refine r_iload C dL_law_398 rfl ?_
  refine r_iconst (v := nI 1) C dL_law_400 (by decide) ?_
  refine r_iaddN C dL_law_401 ?_
  refine r_sld C hx hbl hbA (show i + 1 < L by omega) (by omega) dL_law_402 ?_
  refine r_aload_n C dL_law_403 rfl ?_
  refine r_iload C dL_law_404 rfl ?_
  refine r_iconst (v := nI 2) C dL_law_406 (by decide) ?_
  refine r_iaddN C dL_law_407 ?_
  refine r_sld C hx hbl hbA (show i + 2 < L by omega) (by omega) dL_law_408 ?_
  refine r_aload_n C dL_law_409 rfl ?_
  refine c_SH (st := []) hX.1.stb C hE (W_remove hX.1 hN hC hB hM (P_remove hX hl hC hB hM (xs (i + 1)) (xs (i + 2)))) pk_L_remove qm_L_188 rfl rfl (Nat.le_of_ble_eq_true rfl) dL_law_410 ⟨(Nat.le_of_ble_eq_true rfl), (Nat.le_of_ble_eq_true rfl)⟩ ⟨show cells + 1 ≤ room_1.cells by omega, show slots + 6 ≤ room_1.slots by omega⟩ (fun v9 w9 h9 => ?_) (fun _ h9 => h9.elim)
  obtain ⟨f', r', k, n1, rfl, rfl, hf', hq', n2, hC', hB', hM', hk0, hk4, h2⟩ := h9
  refine r_istore C dL_law_413 (by decide) rfl ?_
  refine r_aload_n C dL_law_415 rfl ?_
  refine r_aload_n C dL_law_416 rfl ?_
  refine r_iload C dL_law_417 rfl ?_
  refine r_iconst (v := nI 1) C dL_law_419 (by decide) ?_
  refine r_iaddN C dL_law_420 ?_
  refine r_sld C hx hbl hbA (show i + 1 < L by omega) (by omega) dL_law_421 ?_
  refine r_aload_n C dL_law_422 rfl ?_
  refine r_iload C dL_law_423 rfl ?_
  refine r_iconst (v := nI 2) C dL_law_425 (by decide) ?_
  refine r_iaddN C dL_law_426 ?_
  refine r_sld C hx hbl hbA (show i + 2 < L by omega) (by omega) dL_law_427 ?_
  refine t_swap3 ?_
  refine c_V (st := []) hX.1.stb C hE (h2 _) pk_X4_remove qm_L_190 0 8 rfl rfl wm_0 rfl rfl (Nat.le_of_ble_eq_true rfl) dL_law_428 ⟨(Nat.le_of_ble_eq_true rfl), (Nat.le_of_ble_eq_true rfl)⟩ ⟨show cells + 1 + 4 ≤ room_1.cells by omega, show slots + 6 + 48 ≤ room_1.slots by omega⟩ (fun v9 w9 h9 => ?_) (fun _ h9 => h9.elim)
  obtain ⟨ra9, rfl, rfl⟩ := h9
  refine r_istore C dL_law_431 (by decide) rfl ?_
  refine t_swap3 ?_
  refine r_goto (tgt := 2128) C dL_law_433 (by decide) ?_
  refine r_widen (k := cells + 500) (n := slots + 10000) (show cells + 1 + 4 ≤ cells + 500 by omega) (show slots + 6 + 48 ≤ slots + 10000 by omega) ?_
  refine r_drop 5 ?_
  refine r_drop 6 ?_
  exact kk _ ⟨f', r', hf', hq', kn, ra9, _, sm, _, _, hC', hB', hM', rfl⟩
theorem S_clear {p : Program} {l : Launch} {e : Env} {s : State} {m : MethodId} {args : Array Value} {below : List Frame} {meth : Method} {c : Code} {D : va_G} {cy : Nat → ClassId} {A : Nat → Prop} {Q : State → Prop} {X : (Nat → Prop) → State → Heap → Prop} {aK aV : Nat → Nat} {tO tT : Nat} {gO gT : Nat → Int32} {a : Nat → Nat → Nat} {ba : Nat → Nat} {o b L i cells slots : Nat} {xs : Nat → Int32} {w : va_W} (C : Fg p s m args meth c cL_law 7 RL D cy A) (hE : X A s s.heap) (hT : EnvT X cy aK aV tO tT gO gT) (hN : EnvN X) (hl : l.stackTraces = false) (hx : va_X b L xs s s.heap) (hbl : b < s.heap.size) (hbA : ¬ A b) (hi : i + 5 ≤ L) (hL : L ≤ 2560) (hc : cells + 500 ≤ room_1.cells) (hs : slots + 10000 ≤ room_1.slots) (hJ : JW cy a ba o w) (kk : ∀ w' : va_W, JW cy a ba o w' → vW p l e room_1 s m args below meth c D vwCl A Q 7 (cells + 500) (slots + 10000) w' [some (.ref b), some (.ref (a 0 0)), some (.ref (ba 9)), some (.ref o), some (.int (nI i)), none, none] 2128 []) : vW p l e room_1 s m args below meth c D vwCl A Q 7 cells slots w [some (.ref b), some (.ref (a 0 0)), some (.ref (ba 9)), some (.ref o), some (.int (nI i)), none, none] 436 [] := by
  have hX := hT.1.1
  obtain ⟨f, r, hf, hq, kn, ra, th, sm, n, v, hC, hB, hM, rfl⟩ := hJ
  refine r_aload_n C dL_law_436 rfl ?_
  refine r_aload_n C dL_law_437 rfl ?_
  refine r_iload C dL_law_438 rfl ?_
  refine r_iconst (v := nI 1) C dL_law_440 (by decide) ?_
  refine r_iaddN C dL_law_441 ?_
  refine r_sld C hx hbl hbA (show i + 1 < L by omega) (by omega) dL_law_442 ?_
  refine r_aload_n C dL_law_443 rfl ?_
  refine c_SH (st := []) hX.1.stb C hE (W_clear hX.1 hN hC hB hM (P_clear hX hl hC hB hM (xs (i + 1)))) pk_L_clear qm_L_191 rfl rfl (Nat.le_of_ble_eq_true rfl) dL_law_444 ⟨(Nat.le_of_ble_eq_true rfl), (Nat.le_of_ble_eq_true rfl)⟩ ⟨show cells + 1 ≤ room_1.cells by omega, show slots + 6 ≤ room_1.slots by omega⟩ (fun v9 w9 h9 => ?_) (fun _ h9 => h9.elim)
  obtain ⟨f', r', k, n1, rfl, rfl, hf', hq', n2, hC', hB', hM', hk0, hk4, h2⟩ := h9
  refine r_istore C dL_law_447 (by decide) rfl ?_
  refine r_aload_n C dL_law_449 rfl ?_
  refine r_aload_n C dL_law_450 rfl ?_
  refine r_iload C dL_law_451 rfl ?_
  refine r_iconst (v := nI 1) C dL_law_453 (by decide) ?_
  refine r_iaddN C dL_law_454 ?_
  refine r_sld C hx hbl hbA (show i + 1 < L by omega) (by omega) dL_law_455 ?_
  refine t_swap3 ?_
  refine c_V (st := []) hX.1.stb C hE (h2 _) pk_X4_clear qm_L_194 0 8 rfl rfl wm_0 rfl rfl (Nat.le_of_ble_eq_true rfl) dL_law_456 ⟨(Nat.le_of_ble_eq_true rfl), (Nat.le_of_ble_eq_true rfl)⟩ ⟨show cells + 1 + 4 ≤ room_1.cells by omega, show slots + 6 + 48 ≤ room_1.slots by omega⟩ (fun v9 w9 h9 => ?_) (fun _ h9 => h9.elim)
  obtain ⟨ra9, rfl, rfl⟩ := h9
  refine r_istore C dL_law_459 (by decide) rfl ?_
  refine t_swap3 ?_
  refine r_goto (tgt := 2128) C dL_law_461 (by decide) ?_
  refine r_widen (k := cells + 500) (n := slots + 10000) (show cells + 1 + 4 ≤ cells + 500 by omega) (show slots + 6 + 48 ≤ slots + 10000 by omega) ?_
  refine r_drop 5 ?_
  refine r_drop 6 ?_
  exact kk _ ⟨f', r', hf', hq', kn, ra9, _, sm, _, _, hC', hB', hM', rfl⟩
theorem S_splice {p : Program} {l : Launch} {e : Env} {s : State} {m : MethodId} {args : Array Value} {below : List Frame} {meth : Method} {c : Code} {D : va_G} {cy : Nat → ClassId} {A : Nat → Prop} {Q : State → Prop} {X : (Nat → Prop) → State → Heap → Prop} {aK aV : Nat → Nat} {tO tT : Nat} {gO gT : Nat → Int32} {a : Nat → Nat → Nat} {ba : Nat → Nat} {o b L i cells slots : Nat} {xs : Nat → Int32} {w : va_W} (C : Fg p s m args meth c cL_law 7 RL D cy A) (hE : X A s s.heap) (hT : EnvT X cy aK aV tO tT gO gT) (hN : EnvN X) (hl : l.stackTraces = false) (hx : va_X b L xs s s.heap) (hbl : b < s.heap.size) (hbA : ¬ A b) (hi : i + 5 ≤ L) (hL : L ≤ 2560) (hc : cells + 500 ≤ room_1.cells) (hs : slots + 10000 ≤ room_1.slots) (hJ : JW cy a ba o w) (kk : ∀ w' : va_W, JW cy a ba o w' → vW p l e room_1 s m args below meth c D vwCl A Q 7 (cells + 500) (slots + 10000) w' [some (.ref b), some (.ref (a 0 0)), some (.ref (ba 9)), some (.ref o), some (.int (nI i)), none, none] 2128 []) : vW p l e room_1 s m args below meth c D vwCl A Q 7 cells slots w [some (.ref b), some (.ref (a 0 0)), some (.ref (ba 9)), some (.ref o), some (.int (nI i)), none, none] 464 [] := by
  have hX := hT.1.1
  obtain ⟨f, r, hf, hq, kn, ra, th, sm, n, v, hC, hB, hM, rfl⟩ := hJ
  refine r_aload_n C dL_law_464 rfl ?_
  refine r_aload_n C dL_law_465 rfl ?_
  refine r_iload C dL_law_466 rfl ?_
  refine r_iconst (v := nI 1) C dL_law_468 (by decide) ?_
  refine r_iaddN C dL_law_469 ?_
  refine r_sld C hx hbl hbA (show i + 1 < L by omega) (by omega) dL_law_470 ?_
  refine r_aload_n C dL_law_471 rfl ?_
  refine r_iload C dL_law_472 rfl ?_
  refine r_iconst (v := nI 2) C dL_law_474 (by decide) ?_
  refine r_iaddN C dL_law_475 ?_
  refine r_sld C hx hbl hbA (show i + 2 < L by omega) (by omega) dL_law_476 ?_
  refine r_aload_n C dL_law_477 rfl ?_
  refine r_iload C dL_law_478 rfl ?_
  refine r_iconst (v := nI 3) C dL_law_480 (by decide) ?_
  refine r_iaddN C dL_law_481 ?_
  refine r_sld C hx hbl hbA (show i + 3 < L by omega) (by omega) dL_law_482 ?_
  refine r_aload_n C dL_law_483 rfl ?_
  refine r_iload C dL_law_484 rfl ?_
  refine r_iconst (v := nI 4) C dL_law_486 (by decide) ?_
  refine r_iaddN C dL_law_487 ?_
  refine r_sld C hx hbl hbA (show i + 4 < L by omega) (by omega) dL_law_488 ?_
  refine r_aload_n C dL_law_489 rfl ?_
  refine c_SH (st := []) hX.1.stb C hE (W_splice hX.1 hN hC hB hM (P_splice hX hl hC hB hM (xs (i + 1)) (xs (i + 2)) (xs (i + 3)) (xs (i + 4)))) pk_L_splice qm_L_195 rfl rfl (Nat.le_of_ble_eq_true rfl) dL_law_490 ⟨(Nat.le_of_ble_eq_true rfl), (Nat.le_of_ble_eq_true rfl)⟩ ⟨show cells + 1 ≤ room_1.cells by omega, show slots + 6 ≤ room_1.slots by omega⟩ (fun v9 w9 h9 => ?_) (fun _ h9 => h9.elim)
  obtain ⟨f', r', k, n1, rfl, rfl, hf', hq', n2, hC', hB', hM', hk0, hk4, h2⟩ := h9
  refine r_istore C dL_law_493 (by decide) rfl ?_
  refine r_aload_n C dL_law_495 rfl ?_
  refine r_aload_n C dL_law_496 rfl ?_
  refine r_iload C dL_law_497 rfl ?_
  refine r_iconst (v := nI 1) C dL_law_499 (by decide) ?_
  refine r_iaddN C dL_law_500 ?_
  refine r_sld C hx hbl hbA (show i + 1 < L by omega) (by omega) dL_law_501 ?_
  refine r_aload_n C dL_law_502 rfl ?_
  refine r_iload C dL_law_503 rfl ?_
  refine r_iconst (v := nI 2) C dL_law_505 (by decide) ?_
  refine r_iaddN C dL_law_506 ?_
  refine r_sld C hx hbl hbA (show i + 2 < L by omega) (by omega) dL_law_507 ?_
  refine r_aload_n C dL_law_508 rfl ?_
  refine r_iload C dL_law_509 rfl ?_
  refine r_iconst (v := nI 3) C dL_law_511 (by decide) ?_
  refine r_iaddN C dL_law_512 ?_
  refine r_sld C hx hbl hbA (show i + 3 < L by omega) (by omega) dL_law_513 ?_
  refine r_aload_n C dL_law_514 rfl ?_
  refine r_iload C dL_law_515 rfl ?_
  refine r_iconst (v := nI 4) C dL_law_517 (by decide) ?_
  refine r_iaddN C dL_law_518 ?_
  refine r_sld C hx hbl hbA (show i + 4 < L by omega) (by omega) dL_law_519 ?_
  refine t_swap3 ?_
  refine c_V (st := []) hX.1.stb C hE (h2 _) pk_X4_splice qm_L_198 0 8 rfl rfl wm_0 rfl rfl (Nat.le_of_ble_eq_true rfl) dL_law_520 ⟨(Nat.le_of_ble_eq_true rfl), (Nat.le_of_ble_eq_true rfl)⟩ ⟨show cells + 1 + 4 ≤ room_1.cells by omega, show slots + 6 + 48 ≤ room_1.slots by omega⟩ (fun v9 w9 h9 => ?_) (fun _ h9 => h9.elim)
  obtain ⟨ra9, rfl, rfl⟩ := h9
  refine r_istore C dL_law_523 (by decide) rfl ?_
  refine t_swap3 ?_
  refine r_goto (tgt := 2128) C dL_law_525 (by decide) ?_
  refine r_widen (k := cells + 500) (n := slots + 10000) (show cells + 1 + 4 ≤ cells + 500 by omega) (show slots + 6 + 48 ≤ slots + 10000 by omega) ?_
  refine r_drop 5 ?_
  refine r_drop 6 ?_
  exact kk _ ⟨f', r', hf', hq', kn, ra9, _, sm, _, _, hC', hB', hM', rfl⟩
theorem S_rotate {p : Program} {l : Launch} {e : Env} {s : State} {m : MethodId} {args : Array Value} {below : List Frame} {meth : Method} {c : Code} {D : va_G} {cy : Nat → ClassId} {A : Nat → Prop} {Q : State → Prop} {X : (Nat → Prop) → State → Heap → Prop} {aK aV : Nat → Nat} {tO tT : Nat} {gO gT : Nat → Int32} {a : Nat → Nat → Nat} {ba : Nat → Nat} {o b L i cells slots : Nat} {xs : Nat → Int32} {w : va_W} (C : Fg p s m args meth c cL_law 7 RL D cy A) (hE : X A s s.heap) (hT : EnvT X cy aK aV tO tT gO gT) (hN : EnvN X) (hl : l.stackTraces = false) (hx : va_X b L xs s s.heap) (hbl : b < s.heap.size) (hbA : ¬ A b) (hi : i + 5 ≤ L) (hL : L ≤ 2560) (hc : cells + 500 ≤ room_1.cells) (hs : slots + 10000 ≤ room_1.slots) (hJ : JW cy a ba o w) (kk : ∀ w' : va_W, JW cy a ba o w' → vW p l e room_1 s m args below meth c D vwCl A Q 7 (cells + 500) (slots + 10000) w' [some (.ref b), some (.ref (a 0 0)), some (.ref (ba 9)), some (.ref o), some (.int (nI i)), none, none] 2128 []) : vW p l e room_1 s m args below meth c D vwCl A Q 7 cells slots w [some (.ref b), some (.ref (a 0 0)), some (.ref (ba 9)), some (.ref o), some (.int (nI i)), none, none] 528 [] := by
  have hX := hT.1.1
  obtain ⟨f, r, hf, hq, kn, ra, th, sm, n, v, hC, hB, hM, rfl⟩ := hJ
  refine r_aload_n C dL_law_528 rfl ?_
  refine r_aload_n C dL_law_529 rfl ?_
  refine r_iload C dL_law_530 rfl ?_
  refine r_iconst (v := nI 1) C dL_law_532 (by decide) ?_
  refine r_iaddN C dL_law_533 ?_
  refine r_sld C hx hbl hbA (show i + 1 < L by omega) (by omega) dL_law_534 ?_
  refine r_aload_n C dL_law_535 rfl ?_
  refine r_iload C dL_law_536 rfl ?_
  refine r_iconst (v := nI 2) C dL_law_538 (by decide) ?_
  refine r_iaddN C dL_law_539 ?_
  refine r_sld C hx hbl hbA (show i + 2 < L by omega) (by omega) dL_law_540 ?_
  refine r_aload_n C dL_law_541 rfl ?_
  refine c_SH (st := []) hX.1.stb C hE (W_rotate hX.1 hN hC hB hM (P_rotate hX hl hC hB hM (xs (i + 1)) (xs (i + 2)))) pk_L_rotate qm_L_199 rfl rfl (Nat.le_of_ble_eq_true rfl) dL_law_542 ⟨(Nat.le_of_ble_eq_true rfl), (Nat.le_of_ble_eq_true rfl)⟩ ⟨show cells + 1 ≤ room_1.cells by omega, show slots + 6 ≤ room_1.slots by omega⟩ (fun v9 w9 h9 => ?_) (fun _ h9 => h9.elim)
  obtain ⟨f', r', k, n1, rfl, rfl, hf', hq', n2, hC', hB', hM', hk0, hk4, h2⟩ := h9
  refine r_istore C dL_law_545 (by decide) rfl ?_
  refine r_aload_n C dL_law_547 rfl ?_
  refine r_aload_n C dL_law_548 rfl ?_
  refine r_iload C dL_law_549 rfl ?_
  refine r_iconst (v := nI 1) C dL_law_551 (by decide) ?_
  refine r_iaddN C dL_law_552 ?_
  refine r_sld C hx hbl hbA (show i + 1 < L by omega) (by omega) dL_law_553 ?_
  refine r_aload_n C dL_law_554 rfl ?_
  refine r_iload C dL_law_555 rfl ?_
  refine r_iconst (v := nI 2) C dL_law_557 (by decide) ?_
  refine r_iaddN C dL_law_558 ?_
  refine r_sld C hx hbl hbA (show i + 2 < L by omega) (by omega) dL_law_559 ?_
  refine t_swap3 ?_
  refine c_V (st := []) hX.1.stb C hE (h2 _) pk_X4_rotate qm_L_201 0 8 rfl rfl wm_0 rfl rfl (Nat.le_of_ble_eq_true rfl) dL_law_560 ⟨(Nat.le_of_ble_eq_true rfl), (Nat.le_of_ble_eq_true rfl)⟩ ⟨show cells + 1 + 4 ≤ room_1.cells by omega, show slots + 6 + 48 ≤ room_1.slots by omega⟩ (fun v9 w9 h9 => ?_) (fun _ h9 => h9.elim)
  obtain ⟨ra9, rfl, rfl⟩ := h9
  refine r_istore C dL_law_563 (by decide) rfl ?_
  refine t_swap3 ?_
  refine r_goto (tgt := 2128) C dL_law_565 (by decide) ?_
  refine r_widen (k := cells + 500) (n := slots + 10000) (show cells + 1 + 4 ≤ cells + 500 by omega) (show slots + 6 + 48 ≤ slots + 10000 by omega) ?_
  refine r_drop 5 ?_
  refine r_drop 6 ?_
  exact kk _ ⟨f', r', hf', hq', kn, ra9, _, sm, _, _, hC', hB', hM', rfl⟩
theorem S_reverse {p : Program} {l : Launch} {e : Env} {s : State} {m : MethodId} {args : Array Value} {below : List Frame} {meth : Method} {c : Code} {D : va_G} {cy : Nat → ClassId} {A : Nat → Prop} {Q : State → Prop} {X : (Nat → Prop) → State → Heap → Prop} {aK aV : Nat → Nat} {tO tT : Nat} {gO gT : Nat → Int32} {a : Nat → Nat → Nat} {ba : Nat → Nat} {o b L i cells slots : Nat} {xs : Nat → Int32} {w : va_W} (C : Fg p s m args meth c cL_law 7 RL D cy A) (hE : X A s s.heap) (hT : EnvT X cy aK aV tO tT gO gT) (hN : EnvN X) (hl : l.stackTraces = false) (hx : va_X b L xs s s.heap) (hbl : b < s.heap.size) (hbA : ¬ A b) (hi : i + 5 ≤ L) (hL : L ≤ 2560) (hc : cells + 500 ≤ room_1.cells) (hs : slots + 10000 ≤ room_1.slots) (hJ : JW cy a ba o w) (kk : ∀ w' : va_W, JW cy a ba o w' → vW p l e room_1 s m args below meth c D vwCl A Q 7 (cells + 500) (slots + 10000) w' [some (.ref b), some (.ref (a 0 0)), some (.ref (ba 9)), some (.ref o), some (.int (nI i)), none, none] 2128 []) : vW p l e room_1 s m args below meth c D vwCl A Q 7 cells slots w [some (.ref b), some (.ref (a 0 0)), some (.ref (ba 9)), some (.ref o), some (.int (nI i)), none, none] 568 [] := by
  have hX := hT.1.1
  obtain ⟨f, r, hf, hq, kn, ra, th, sm, n, v, hC, hB, hM, rfl⟩ := hJ
  refine r_aload_n C dL_law_568 rfl ?_
  refine r_aload_n C dL_law_569 rfl ?_
  refine r_iload C dL_law_570 rfl ?_
  refine r_iconst (v := nI 1) C dL_law_572 (by decide) ?_
  refine r_iaddN C dL_law_573 ?_
  refine r_sld C hx hbl hbA (show i + 1 < L by omega) (by omega) dL_law_574 ?_
  refine r_aload_n C dL_law_575 rfl ?_
  refine c_SH (st := []) hX.1.stb C hE (W_reverse hX.1 hN hC hB hM (P_reverse hX hl hC hB hM (xs (i + 1)))) pk_L_reverse qm_L_202 rfl rfl (Nat.le_of_ble_eq_true rfl) dL_law_576 ⟨(Nat.le_of_ble_eq_true rfl), (Nat.le_of_ble_eq_true rfl)⟩ ⟨show cells + 1 ≤ room_1.cells by omega, show slots + 6 ≤ room_1.slots by omega⟩ (fun v9 w9 h9 => ?_) (fun _ h9 => h9.elim)
  obtain ⟨f', r', k, n1, rfl, rfl, hf', hq', n2, hC', hB', hM', hk0, hk4, h2⟩ := h9
  refine r_istore C dL_law_579 (by decide) rfl ?_
  refine r_aload_n C dL_law_581 rfl ?_
  refine r_aload_n C dL_law_582 rfl ?_
  refine r_iload C dL_law_583 rfl ?_
  refine r_iconst (v := nI 1) C dL_law_585 (by decide) ?_
  refine r_iaddN C dL_law_586 ?_
  refine r_sld C hx hbl hbA (show i + 1 < L by omega) (by omega) dL_law_587 ?_
  refine t_swap3 ?_
  refine c_V (st := []) hX.1.stb C hE (h2 _) pk_X4_reverse qm_L_204 0 8 rfl rfl wm_0 rfl rfl (Nat.le_of_ble_eq_true rfl) dL_law_588 ⟨(Nat.le_of_ble_eq_true rfl), (Nat.le_of_ble_eq_true rfl)⟩ ⟨show cells + 1 + 4 ≤ room_1.cells by omega, show slots + 6 + 48 ≤ room_1.slots by omega⟩ (fun v9 w9 h9 => ?_) (fun _ h9 => h9.elim)
  obtain ⟨ra9, rfl, rfl⟩ := h9
  refine r_istore C dL_law_591 (by decide) rfl ?_
  refine t_swap3 ?_
  refine r_goto (tgt := 2128) C dL_law_593 (by decide) ?_
  refine r_widen (k := cells + 500) (n := slots + 10000) (show cells + 1 + 4 ≤ cells + 500 by omega) (show slots + 6 + 48 ≤ slots + 10000 by omega) ?_
  refine r_drop 5 ?_
  refine r_drop 6 ?_
  exact kk _ ⟨f', r', hf', hq', kn, ra9, _, sm, _, _, hC', hB', hM', rfl⟩
theorem S_swap {p : Program} {l : Launch} {e : Env} {s : State} {m : MethodId} {args : Array Value} {below : List Frame} {meth : Method} {c : Code} {D : va_G} {cy : Nat → ClassId} {A : Nat → Prop} {Q : State → Prop} {X : (Nat → Prop) → State → Heap → Prop} {aK aV : Nat → Nat} {tO tT : Nat} {gO gT : Nat → Int32} {a : Nat → Nat → Nat} {ba : Nat → Nat} {o b L i cells slots : Nat} {xs : Nat → Int32} {w : va_W} (C : Fg p s m args meth c cL_law 7 RL D cy A) (hE : X A s s.heap) (hT : EnvT X cy aK aV tO tT gO gT) (hN : EnvN X) (hl : l.stackTraces = false) (hx : va_X b L xs s s.heap) (hbl : b < s.heap.size) (hbA : ¬ A b) (hi : i + 5 ≤ L) (hL : L ≤ 2560) (hc : cells + 500 ≤ room_1.cells) (hs : slots + 10000 ≤ room_1.slots) (hJ : JW cy a ba o w) (kk : ∀ w' : va_W, JW cy a ba o w' → vW p l e room_1 s m args below meth c D vwCl A Q 7 (cells + 500) (slots + 10000) w' [some (.ref b), some (.ref (a 0 0)), some (.ref (ba 9)), some (.ref o), some (.int (nI i)), none, none] 2128 []) : vW p l e room_1 s m args below meth c D vwCl A Q 7 cells slots w [some (.ref b), some (.ref (a 0 0)), some (.ref (ba 9)), some (.ref o), some (.int (nI i)), none, none] 596 [] := by
  have hX := hT.1.1
  obtain ⟨f, r, hf, hq, kn, ra, th, sm, n, v, hC, hB, hM, rfl⟩ := hJ
  refine r_aload_n C dL_law_596 rfl ?_
  refine r_aload_n C dL_law_597 rfl ?_
  refine r_iload C dL_law_598 rfl ?_
  refine r_iconst (v := nI 1) C dL_law_600 (by decide) ?_
  refine r_iaddN C dL_law_601 ?_
  refine r_sld C hx hbl hbA (show i + 1 < L by omega) (by omega) dL_law_602 ?_
  refine r_aload_n C dL_law_603 rfl ?_
  refine r_iload C dL_law_604 rfl ?_
  refine r_iconst (v := nI 2) C dL_law_606 (by decide) ?_
  refine r_iaddN C dL_law_607 ?_
  refine r_sld C hx hbl hbA (show i + 2 < L by omega) (by omega) dL_law_608 ?_
  refine r_aload_n C dL_law_609 rfl ?_
  refine r_iload C dL_law_610 rfl ?_
  refine r_iconst (v := nI 3) C dL_law_612 (by decide) ?_
  refine r_iaddN C dL_law_613 ?_
  refine r_sld C hx hbl hbA (show i + 3 < L by omega) (by omega) dL_law_614 ?_
  refine r_aload_n C dL_law_615 rfl ?_
  refine c_SH (st := []) hX.1.stb C hE (W_swap hX.1 hN hC hB hM (P_swap hX hl hC hB hM (xs (i + 1)) (xs (i + 2)) (xs (i + 3)))) pk_L_swap qm_L_205 rfl rfl (Nat.le_of_ble_eq_true rfl) dL_law_616 ⟨(Nat.le_of_ble_eq_true rfl), (Nat.le_of_ble_eq_true rfl)⟩ ⟨show cells + 1 ≤ room_1.cells by omega, show slots + 6 ≤ room_1.slots by omega⟩ (fun v9 w9 h9 => ?_) (fun _ h9 => h9.elim)
  obtain ⟨f', r', k, n1, rfl, rfl, hf', hq', n2, hC', hB', hM', hk0, hk4, h2⟩ := h9
  refine r_istore C dL_law_619 (by decide) rfl ?_
  refine r_aload_n C dL_law_621 rfl ?_
  refine r_aload_n C dL_law_622 rfl ?_
  refine r_iload C dL_law_623 rfl ?_
  refine r_iconst (v := nI 1) C dL_law_625 (by decide) ?_
  refine r_iaddN C dL_law_626 ?_
  refine r_sld C hx hbl hbA (show i + 1 < L by omega) (by omega) dL_law_627 ?_
  refine r_aload_n C dL_law_628 rfl ?_
  refine r_iload C dL_law_629 rfl ?_
  refine r_iconst (v := nI 2) C dL_law_631 (by decide) ?_
  refine r_iaddN C dL_law_632 ?_
  refine r_sld C hx hbl hbA (show i + 2 < L by omega) (by omega) dL_law_633 ?_
  refine r_aload_n C dL_law_634 rfl ?_
  refine r_iload C dL_law_635 rfl ?_
  refine r_iconst (v := nI 3) C dL_law_637 (by decide) ?_
  refine r_iaddN C dL_law_638 ?_
  refine r_sld C hx hbl hbA (show i + 3 < L by omega) (by omega) dL_law_639 ?_
  refine t_swap3 ?_
  refine c_V (st := []) hX.1.stb C hE (h2 _) pk_X4_swap qm_L_207 0 8 rfl rfl wm_0 rfl rfl (Nat.le_of_ble_eq_true rfl) dL_law_640 ⟨(Nat.le_of_ble_eq_true rfl), (Nat.le_of_ble_eq_true rfl)⟩ ⟨show cells + 1 + 4 ≤ room_1.cells by omega, show slots + 6 + 48 ≤ room_1.slots by omega⟩ (fun v9 w9 h9 => ?_) (fun _ h9 => h9.elim)
  obtain ⟨ra9, rfl, rfl⟩ := h9
  refine r_istore C dL_law_643 (by decide) rfl ?_
  refine t_swap3 ?_
  refine r_goto (tgt := 2128) C dL_law_645 (by decide) ?_
  refine r_widen (k := cells + 500) (n := slots + 10000) (show cells + 1 + 4 ≤ cells + 500 by omega) (show slots + 6 + 48 ≤ slots + 10000 by omega) ?_
  refine r_drop 5 ?_
  refine r_drop 6 ?_
  exact kk _ ⟨f', r', hf', hq', kn, ra9, _, sm, _, _, hC', hB', hM', rfl⟩
theorem S_riffle {p : Program} {l : Launch} {e : Env} {s : State} {m : MethodId} {args : Array Value} {below : List Frame} {meth : Method} {c : Code} {D : va_G} {cy : Nat → ClassId} {A : Nat → Prop} {Q : State → Prop} {X : (Nat → Prop) → State → Heap → Prop} {aK aV : Nat → Nat} {tO tT : Nat} {gO gT : Nat → Int32} {a : Nat → Nat → Nat} {ba : Nat → Nat} {o b L i cells slots : Nat} {xs : Nat → Int32} {w : va_W} (C : Fg p s m args meth c cL_law 7 RL D cy A) (hE : X A s s.heap) (hT : EnvT X cy aK aV tO tT gO gT) (hN : EnvN X) (hl : l.stackTraces = false) (hx : va_X b L xs s s.heap) (hbl : b < s.heap.size) (hbA : ¬ A b) (hi : i + 5 ≤ L) (hL : L ≤ 2560) (hc : cells + 500 ≤ room_1.cells) (hs : slots + 10000 ≤ room_1.slots) (hJ : JW cy a ba o w) (kk : ∀ w' : va_W, JW cy a ba o w' → vW p l e room_1 s m args below meth c D vwCl A Q 7 (cells + 500) (slots + 10000) w' [some (.ref b), some (.ref (a 0 0)), some (.ref (ba 9)), some (.ref o), some (.int (nI i)), none, none] 2128 []) : vW p l e room_1 s m args below meth c D vwCl A Q 7 cells slots w [some (.ref b), some (.ref (a 0 0)), some (.ref (ba 9)), some (.ref o), some (.int (nI i)), none, none] 648 [] := by
  have hX := hT.1.1
  obtain ⟨f, r, hf, hq, kn, ra, th, sm, n, v, hC, hB, hM, rfl⟩ := hJ
  refine r_aload_n C dL_law_648 rfl ?_
  refine r_aload_n C dL_law_649 rfl ?_
  refine r_iload C dL_law_650 rfl ?_
  refine r_iconst (v := nI 1) C dL_law_652 (by decide) ?_
  refine r_iaddN C dL_law_653 ?_
  refine r_sld C hx hbl hbA (show i + 1 < L by omega) (by omega) dL_law_654 ?_
  refine r_aload_n C dL_law_655 rfl ?_
  refine c_SH (st := []) hX.1.stb C hE (W_riffle hX.1 hN hC hB hM (P_riffle hX hl hC hB hM (xs (i + 1)))) pk_L_riffle qm_L_208 rfl rfl (Nat.le_of_ble_eq_true rfl) dL_law_656 ⟨(Nat.le_of_ble_eq_true rfl), (Nat.le_of_ble_eq_true rfl)⟩ ⟨show cells + 1 ≤ room_1.cells by omega, show slots + 6 ≤ room_1.slots by omega⟩ (fun v9 w9 h9 => ?_) (fun _ h9 => h9.elim)
  obtain ⟨f', r', k, n1, rfl, rfl, hf', hq', n2, hC', hB', hM', hk0, hk4, h2⟩ := h9
  refine r_istore C dL_law_659 (by decide) rfl ?_
  refine r_aload_n C dL_law_661 rfl ?_
  refine r_aload_n C dL_law_662 rfl ?_
  refine r_iload C dL_law_663 rfl ?_
  refine r_iconst (v := nI 1) C dL_law_665 (by decide) ?_
  refine r_iaddN C dL_law_666 ?_
  refine r_sld C hx hbl hbA (show i + 1 < L by omega) (by omega) dL_law_667 ?_
  refine t_swap3 ?_
  refine c_V (st := []) hX.1.stb C hE (h2 _) pk_X4_riffle qm_L_210 0 8 rfl rfl wm_0 rfl rfl (Nat.le_of_ble_eq_true rfl) dL_law_668 ⟨(Nat.le_of_ble_eq_true rfl), (Nat.le_of_ble_eq_true rfl)⟩ ⟨show cells + 1 + 4 ≤ room_1.cells by omega, show slots + 6 + 48 ≤ room_1.slots by omega⟩ (fun v9 w9 h9 => ?_) (fun _ h9 => h9.elim)
  obtain ⟨ra9, rfl, rfl⟩ := h9
  refine r_istore C dL_law_671 (by decide) rfl ?_
  refine t_swap3 ?_
  refine r_goto (tgt := 2128) C dL_law_673 (by decide) ?_
  refine r_widen (k := cells + 500) (n := slots + 10000) (show cells + 1 + 4 ≤ cells + 500 by omega) (show slots + 6 + 48 ≤ slots + 10000 by omega) ?_
  refine r_drop 5 ?_
  refine r_drop 6 ?_
  exact kk _ ⟨f', r', hf', hq', kn, ra9, _, sm, _, _, hC', hB', hM', rfl⟩
theorem S_unriffle {p : Program} {l : Launch} {e : Env} {s : State} {m : MethodId} {args : Array Value} {below : List Frame} {meth : Method} {c : Code} {D : va_G} {cy : Nat → ClassId} {A : Nat → Prop} {Q : State → Prop} {X : (Nat → Prop) → State → Heap → Prop} {aK aV : Nat → Nat} {tO tT : Nat} {gO gT : Nat → Int32} {a : Nat → Nat → Nat} {ba : Nat → Nat} {o b L i cells slots : Nat} {xs : Nat → Int32} {w : va_W} (C : Fg p s m args meth c cL_law 7 RL D cy A) (hE : X A s s.heap) (hT : EnvT X cy aK aV tO tT gO gT) (hN : EnvN X) (hl : l.stackTraces = false) (hx : va_X b L xs s s.heap) (hbl : b < s.heap.size) (hbA : ¬ A b) (hi : i + 5 ≤ L) (hL : L ≤ 2560) (hc : cells + 500 ≤ room_1.cells) (hs : slots + 10000 ≤ room_1.slots) (hJ : JW cy a ba o w) (kk : ∀ w' : va_W, JW cy a ba o w' → vW p l e room_1 s m args below meth c D vwCl A Q 7 (cells + 500) (slots + 10000) w' [some (.ref b), some (.ref (a 0 0)), some (.ref (ba 9)), some (.ref o), some (.int (nI i)), none, none] 2128 []) : vW p l e room_1 s m args below meth c D vwCl A Q 7 cells slots w [some (.ref b), some (.ref (a 0 0)), some (.ref (ba 9)), some (.ref o), some (.int (nI i)), none, none] 676 [] := by
  have hX := hT.1.1
  obtain ⟨f, r, hf, hq, kn, ra, th, sm, n, v, hC, hB, hM, rfl⟩ := hJ
  refine r_aload_n C dL_law_676 rfl ?_
  refine r_aload_n C dL_law_677 rfl ?_
  refine r_iload C dL_law_678 rfl ?_
  refine r_iconst (v := nI 1) C dL_law_680 (by decide) ?_
  refine r_iaddN C dL_law_681 ?_
  refine r_sld C hx hbl hbA (show i + 1 < L by omega) (by omega) dL_law_682 ?_
  refine r_aload_n C dL_law_683 rfl ?_
  refine c_SH (st := []) hX.1.stb C hE (W_unriffle hX.1 hN hC hB hM (P_unriffle hX hl hC hB hM (xs (i + 1)))) pk_L_unriffle qm_L_211 rfl rfl (Nat.le_of_ble_eq_true rfl) dL_law_684 ⟨(Nat.le_of_ble_eq_true rfl), (Nat.le_of_ble_eq_true rfl)⟩ ⟨show cells + 1 ≤ room_1.cells by omega, show slots + 6 ≤ room_1.slots by omega⟩ (fun v9 w9 h9 => ?_) (fun _ h9 => h9.elim)
  obtain ⟨f', r', k, n1, rfl, rfl, hf', hq', n2, hC', hB', hM', hk0, hk4, h2⟩ := h9
  refine r_istore C dL_law_687 (by decide) rfl ?_
  refine r_aload_n C dL_law_689 rfl ?_
  refine r_aload_n C dL_law_690 rfl ?_
  refine r_iload C dL_law_691 rfl ?_
  refine r_iconst (v := nI 1) C dL_law_693 (by decide) ?_
  refine r_iaddN C dL_law_694 ?_
  refine r_sld C hx hbl hbA (show i + 1 < L by omega) (by omega) dL_law_695 ?_
  refine t_swap3 ?_
  refine c_V (st := []) hX.1.stb C hE (h2 _) pk_X4_unriffle qm_L_213 0 8 rfl rfl wm_0 rfl rfl (Nat.le_of_ble_eq_true rfl) dL_law_696 ⟨(Nat.le_of_ble_eq_true rfl), (Nat.le_of_ble_eq_true rfl)⟩ ⟨show cells + 1 + 4 ≤ room_1.cells by omega, show slots + 6 + 48 ≤ room_1.slots by omega⟩ (fun v9 w9 h9 => ?_) (fun _ h9 => h9.elim)
  obtain ⟨ra9, rfl, rfl⟩ := h9
  refine r_istore C dL_law_699 (by decide) rfl ?_
  refine t_swap3 ?_
  refine r_goto (tgt := 2128) C dL_law_701 (by decide) ?_
  refine r_widen (k := cells + 500) (n := slots + 10000) (show cells + 1 + 4 ≤ cells + 500 by omega) (show slots + 6 + 48 ≤ slots + 10000 by omega) ?_
  refine r_drop 5 ?_
  refine r_drop 6 ?_
  exact kk _ ⟨f', r', hf', hq', kn, ra9, _, sm, _, _, hC', hB', hM', rfl⟩
theorem S_sort {p : Program} {l : Launch} {e : Env} {s : State} {m : MethodId} {args : Array Value} {below : List Frame} {meth : Method} {c : Code} {D : va_G} {cy : Nat → ClassId} {A : Nat → Prop} {Q : State → Prop} {X : (Nat → Prop) → State → Heap → Prop} {aK aV : Nat → Nat} {tO tT : Nat} {gO gT : Nat → Int32} {a : Nat → Nat → Nat} {ba : Nat → Nat} {o b L i cells slots : Nat} {xs : Nat → Int32} {w : va_W} (C : Fg p s m args meth c cL_law 7 RL D cy A) (hE : X A s s.heap) (hT : EnvT X cy aK aV tO tT gO gT) (hN : EnvN X) (hl : l.stackTraces = false) (hx : va_X b L xs s s.heap) (hbl : b < s.heap.size) (hbA : ¬ A b) (hi : i + 5 ≤ L) (hL : L ≤ 2560) (hc : cells + 500 ≤ room_1.cells) (hs : slots + 10000 ≤ room_1.slots) (hJ : JW cy a ba o w) (kk : ∀ w' : va_W, JW cy a ba o w' → vW p l e room_1 s m args below meth c D vwCl A Q 7 (cells + 500) (slots + 10000) w' [some (.ref b), some (.ref (a 0 0)), some (.ref (ba 9)), some (.ref o), some (.int (nI i)), none, none] 2128 []) : vW p l e room_1 s m args below meth c D vwCl A Q 7 cells slots w [some (.ref b), some (.ref (a 0 0)), some (.ref (ba 9)), some (.ref o), some (.int (nI i)), none, none] 704 [] := by
  have hX := hT.1.1
  obtain ⟨f, r, hf, hq, kn, ra, th, sm, n, v, hC, hB, hM, rfl⟩ := hJ
  refine r_aload_n C dL_law_704 rfl ?_
  refine r_aload_n C dL_law_705 rfl ?_
  refine r_iload C dL_law_706 rfl ?_
  refine r_iconst (v := nI 1) C dL_law_708 (by decide) ?_
  refine r_iaddN C dL_law_709 ?_
  refine r_sld C hx hbl hbA (show i + 1 < L by omega) (by omega) dL_law_710 ?_
  refine r_aload_n C dL_law_711 rfl ?_
  refine c_SH (st := []) hX.1.stb C hE (W_sort hX.1 hN hC hB hM (P_sort hX hl hC hB hM (xs (i + 1)))) pk_L_sort qm_L_214 rfl rfl (Nat.le_of_ble_eq_true rfl) dL_law_712 ⟨(Nat.le_of_ble_eq_true rfl), (Nat.le_of_ble_eq_true rfl)⟩ ⟨show cells + 1 ≤ room_1.cells by omega, show slots + 6 ≤ room_1.slots by omega⟩ (fun v9 w9 h9 => ?_) (fun _ h9 => h9.elim)
  obtain ⟨f', r', k, n1, rfl, rfl, hf', hq', n2, hC', hB', hM', hk0, hk4, h2⟩ := h9
  refine r_istore C dL_law_715 (by decide) rfl ?_
  refine r_aload_n C dL_law_717 rfl ?_
  refine r_aload_n C dL_law_718 rfl ?_
  refine r_iload C dL_law_719 rfl ?_
  refine r_iconst (v := nI 1) C dL_law_721 (by decide) ?_
  refine r_iaddN C dL_law_722 ?_
  refine r_sld C hx hbl hbA (show i + 1 < L by omega) (by omega) dL_law_723 ?_
  refine t_swap3 ?_
  refine c_V (st := []) hX.1.stb C hE (h2 _) pk_X4_sort qm_L_216 0 8 rfl rfl wm_0 rfl rfl (Nat.le_of_ble_eq_true rfl) dL_law_724 ⟨(Nat.le_of_ble_eq_true rfl), (Nat.le_of_ble_eq_true rfl)⟩ ⟨show cells + 1 + 4 ≤ room_1.cells by omega, show slots + 6 + 48 ≤ room_1.slots by omega⟩ (fun v9 w9 h9 => ?_) (fun _ h9 => h9.elim)
  obtain ⟨ra9, rfl, rfl⟩ := h9
  refine r_istore C dL_law_727 (by decide) rfl ?_
  refine t_swap3 ?_
  refine r_goto (tgt := 2128) C dL_law_729 (by decide) ?_
  refine r_widen (k := cells + 500) (n := slots + 10000) (show cells + 1 + 4 ≤ cells + 500 by omega) (show slots + 6 + 48 ≤ slots + 10000 by omega) ?_
  refine r_drop 5 ?_
  refine r_drop 6 ?_
  exact kk _ ⟨f', r', hf', hq', kn, ra9, _, sm, _, _, hC', hB', hM', rfl⟩
end PT_84
/-! ===== 85.case2 -/
section PT_85
/-! THE LAW'S CASES, 2 -/
theorem dL_law_732 : decode cL_law 732 = .ok (.aload_n 1, 1) := dqo_43 (kb_11 28 rfl)
theorem dL_law_733 : decode cL_law 733 = .ok (.aload_n 0, 1) := dqo_42 (kb_11 29 rfl)
theorem dL_law_734 : decode cL_law 734 = .ok (.iload 4, 2) := dqo_21 4 (kb_11 30 rfl) (kb_11 31 rfl)
theorem dL_law_736 : decode cL_law 736 = .ok (.iconst 1, 1) := dqo_4 (kb_11 32 rfl)
theorem dL_law_737 : decode cL_law 737 = .ok (.iadd, 1) := dqo_96 (kb_11 33 rfl)
theorem dL_law_738 : decode cL_law 738 = .ok (.iaload, 1) := dqo_46 (kb_11 34 rfl)
theorem dL_law_739 : decode cL_law 739 = .ok (.aload_n 0, 1) := dqo_42 (kb_11 35 rfl)
theorem dL_law_740 : decode cL_law 740 = .ok (.iload 4, 2) := dqo_21 4 (kb_11 36 rfl) (kb_11 37 rfl)
theorem dL_law_742 : decode cL_law 742 = .ok (.iconst 2, 1) := dqo_5 (kb_11 38 rfl)
theorem dL_law_743 : decode cL_law 743 = .ok (.iadd, 1) := dqo_96 (kb_11 39 rfl)
theorem dL_law_744 : decode cL_law 744 = .ok (.iaload, 1) := dqo_46 (kb_11 40 rfl)
theorem dL_law_745 : decode cL_law 745 = .ok (.aload_n 3, 1) := dqo_45 (kb_11 41 rfl)
theorem dL_law_746 : decode cL_law 746 = .ok (.invokestatic 217, 3) := dqo_184 0 217 (kb_11 42 rfl) (kb_11 43 rfl) (kb_11 44 rfl)
theorem dL_law_749 : decode cL_law 749 = .ok (.istore 5, 2) := dqo_54 5 (kb_11 45 rfl) (kb_11 46 rfl)
theorem dL_law_751 : decode cL_law 751 = .ok (.aload_n 2, 1) := dqo_44 (kb_11 47 rfl)
theorem dL_law_752 : decode cL_law 752 = .ok (.aload_n 0, 1) := dqo_42 (kb_11 48 rfl)
theorem dL_law_753 : decode cL_law 753 = .ok (.iload 4, 2) := dqo_21 4 (kb_11 49 rfl) (kb_11 50 rfl)
theorem dL_law_755 : decode cL_law 755 = .ok (.iconst 1, 1) := dqo_4 (kb_11 51 rfl)
theorem dL_law_756 : decode cL_law 756 = .ok (.iadd, 1) := dqo_96 (kb_11 52 rfl)
theorem dL_law_757 : decode cL_law 757 = .ok (.iaload, 1) := dqo_46 (kb_11 53 rfl)
theorem dL_law_758 : decode cL_law 758 = .ok (.aload_n 0, 1) := dqo_42 (kb_11 54 rfl)
theorem dL_law_759 : decode cL_law 759 = .ok (.iload 4, 2) := dqo_21 4 (kb_11 55 rfl) (kb_11 56 rfl)
theorem dL_law_761 : decode cL_law 761 = .ok (.iconst 2, 1) := dqo_5 (kb_11 57 rfl)
theorem dL_law_762 : decode cL_law 762 = .ok (.iadd, 1) := dqo_96 (kb_11 58 rfl)
theorem dL_law_763 : decode cL_law 763 = .ok (.iaload, 1) := dqo_46 (kb_11 59 rfl)
theorem dL_law_764 : decode cL_law 764 = .ok (.invokevirtual 219, 3) := dqo_182 0 219 (kb_11 60 rfl) (kb_11 61 rfl) (kb_11 62 rfl)
theorem dL_law_767 : decode cL_law 767 = .ok (.istore 6, 2) := dqo_54 6 (kb_11 63 rfl) (kb_12 0 rfl)
theorem dL_law_769 : decode cL_law 769 = .ok (.goto 1359, 3) := dqo_167 5 79 (by decide) (kb_12 1 rfl) (kb_12 2 rfl) (kb_12 3 rfl)
theorem dL_law_772 : decode cL_law 772 = .ok (.aload_n 1, 1) := dqo_43 (kb_12 4 rfl)
theorem dL_law_773 : decode cL_law 773 = .ok (.aload_n 0, 1) := dqo_42 (kb_12 5 rfl)
theorem dL_law_774 : decode cL_law 774 = .ok (.iload 4, 2) := dqo_21 4 (kb_12 6 rfl) (kb_12 7 rfl)
theorem dL_law_776 : decode cL_law 776 = .ok (.iconst 1, 1) := dqo_4 (kb_12 8 rfl)
theorem dL_law_777 : decode cL_law 777 = .ok (.iadd, 1) := dqo_96 (kb_12 9 rfl)
theorem dL_law_778 : decode cL_law 778 = .ok (.iaload, 1) := dqo_46 (kb_12 10 rfl)
theorem dL_law_779 : decode cL_law 779 = .ok (.aload_n 0, 1) := dqo_42 (kb_12 11 rfl)
theorem dL_law_780 : decode cL_law 780 = .ok (.iload 4, 2) := dqo_21 4 (kb_12 12 rfl) (kb_12 13 rfl)
theorem dL_law_782 : decode cL_law 782 = .ok (.iconst 2, 1) := dqo_5 (kb_12 14 rfl)
theorem dL_law_783 : decode cL_law 783 = .ok (.iadd, 1) := dqo_96 (kb_12 15 rfl)
theorem dL_law_784 : decode cL_law 784 = .ok (.iaload, 1) := dqo_46 (kb_12 16 rfl)
theorem dL_law_785 : decode cL_law 785 = .ok (.aload_n 3, 1) := dqo_45 (kb_12 17 rfl)
theorem dL_law_786 : decode cL_law 786 = .ok (.invokestatic 220, 3) := dqo_184 0 220 (kb_12 18 rfl) (kb_12 19 rfl) (kb_12 20 rfl)
theorem dL_law_789 : decode cL_law 789 = .ok (.istore 5, 2) := dqo_54 5 (kb_12 21 rfl) (kb_12 22 rfl)
theorem dL_law_791 : decode cL_law 791 = .ok (.aload_n 2, 1) := dqo_44 (kb_12 23 rfl)
theorem dL_law_792 : decode cL_law 792 = .ok (.aload_n 0, 1) := dqo_42 (kb_12 24 rfl)
theorem dL_law_793 : decode cL_law 793 = .ok (.iload 4, 2) := dqo_21 4 (kb_12 25 rfl) (kb_12 26 rfl)
theorem dL_law_795 : decode cL_law 795 = .ok (.iconst 1, 1) := dqo_4 (kb_12 27 rfl)
theorem dL_law_796 : decode cL_law 796 = .ok (.iadd, 1) := dqo_96 (kb_12 28 rfl)
theorem dL_law_797 : decode cL_law 797 = .ok (.iaload, 1) := dqo_46 (kb_12 29 rfl)
theorem dL_law_798 : decode cL_law 798 = .ok (.aload_n 0, 1) := dqo_42 (kb_12 30 rfl)
theorem dL_law_799 : decode cL_law 799 = .ok (.iload 4, 2) := dqo_21 4 (kb_12 31 rfl) (kb_12 32 rfl)
theorem dL_law_801 : decode cL_law 801 = .ok (.iconst 2, 1) := dqo_5 (kb_12 33 rfl)
theorem dL_law_802 : decode cL_law 802 = .ok (.iadd, 1) := dqo_96 (kb_12 34 rfl)
theorem dL_law_803 : decode cL_law 803 = .ok (.iaload, 1) := dqo_46 (kb_12 35 rfl)
theorem dL_law_804 : decode cL_law 804 = .ok (.invokevirtual 222, 3) := dqo_182 0 222 (kb_12 36 rfl) (kb_12 37 rfl) (kb_12 38 rfl)
theorem dL_law_807 : decode cL_law 807 = .ok (.istore 6, 2) := dqo_54 6 (kb_12 39 rfl) (kb_12 40 rfl)
theorem dL_law_809 : decode cL_law 809 = .ok (.goto 1319, 3) := dqo_167 5 39 (by decide) (kb_12 41 rfl) (kb_12 42 rfl) (kb_12 43 rfl)
theorem dL_law_812 : decode cL_law 812 = .ok (.aload_n 1, 1) := dqo_43 (kb_12 44 rfl)
theorem dL_law_813 : decode cL_law 813 = .ok (.aload_n 0, 1) := dqo_42 (kb_12 45 rfl)
theorem dL_law_814 : decode cL_law 814 = .ok (.iload 4, 2) := dqo_21 4 (kb_12 46 rfl) (kb_12 47 rfl)
theorem dL_law_816 : decode cL_law 816 = .ok (.iconst 1, 1) := dqo_4 (kb_12 48 rfl)
theorem dL_law_817 : decode cL_law 817 = .ok (.iadd, 1) := dqo_96 (kb_12 49 rfl)
theorem dL_law_818 : decode cL_law 818 = .ok (.iaload, 1) := dqo_46 (kb_12 50 rfl)
theorem dL_law_819 : decode cL_law 819 = .ok (.aload_n 3, 1) := dqo_45 (kb_12 51 rfl)
theorem dL_law_820 : decode cL_law 820 = .ok (.invokestatic 223, 3) := dqo_184 0 223 (kb_12 52 rfl) (kb_12 53 rfl) (kb_12 54 rfl)
theorem dL_law_823 : decode cL_law 823 = .ok (.istore 5, 2) := dqo_54 5 (kb_12 55 rfl) (kb_12 56 rfl)
theorem dL_law_825 : decode cL_law 825 = .ok (.aload_n 2, 1) := dqo_44 (kb_12 57 rfl)
theorem dL_law_826 : decode cL_law 826 = .ok (.aload_n 0, 1) := dqo_42 (kb_12 58 rfl)
theorem dL_law_827 : decode cL_law 827 = .ok (.iload 4, 2) := dqo_21 4 (kb_12 59 rfl) (kb_12 60 rfl)
theorem dL_law_829 : decode cL_law 829 = .ok (.iconst 1, 1) := dqo_4 (kb_12 61 rfl)
theorem dL_law_830 : decode cL_law 830 = .ok (.iadd, 1) := dqo_96 (kb_12 62 rfl)
theorem dL_law_831 : decode cL_law 831 = .ok (.iaload, 1) := dqo_46 (kb_12 63 rfl)
theorem dL_law_832 : decode cL_law 832 = .ok (.invokevirtual 225, 3) := dqo_182 0 225 (kb_13 0 rfl) (kb_13 1 rfl) (kb_13 2 rfl)
theorem dL_law_835 : decode cL_law 835 = .ok (.istore 6, 2) := dqo_54 6 (kb_13 3 rfl) (kb_13 4 rfl)
theorem dL_law_837 : decode cL_law 837 = .ok (.goto 1291, 3) := dqo_167 5 11 (by decide) (kb_13 5 rfl) (kb_13 6 rfl) (kb_13 7 rfl)
theorem dL_law_840 : decode cL_law 840 = .ok (.aload_n 1, 1) := dqo_43 (kb_13 8 rfl)
theorem dL_law_841 : decode cL_law 841 = .ok (.aload_n 0, 1) := dqo_42 (kb_13 9 rfl)
theorem dL_law_842 : decode cL_law 842 = .ok (.iload 4, 2) := dqo_21 4 (kb_13 10 rfl) (kb_13 11 rfl)
theorem dL_law_844 : decode cL_law 844 = .ok (.iconst 1, 1) := dqo_4 (kb_13 12 rfl)
theorem dL_law_845 : decode cL_law 845 = .ok (.iadd, 1) := dqo_96 (kb_13 13 rfl)
theorem dL_law_846 : decode cL_law 846 = .ok (.iaload, 1) := dqo_46 (kb_13 14 rfl)
theorem dL_law_847 : decode cL_law 847 = .ok (.aload_n 0, 1) := dqo_42 (kb_13 15 rfl)
theorem dL_law_848 : decode cL_law 848 = .ok (.iload 4, 2) := dqo_21 4 (kb_13 16 rfl) (kb_13 17 rfl)
theorem dL_law_850 : decode cL_law 850 = .ok (.iconst 2, 1) := dqo_5 (kb_13 18 rfl)
theorem dL_law_851 : decode cL_law 851 = .ok (.iadd, 1) := dqo_96 (kb_13 19 rfl)
theorem dL_law_852 : decode cL_law 852 = .ok (.iaload, 1) := dqo_46 (kb_13 20 rfl)
theorem dL_law_853 : decode cL_law 853 = .ok (.aload_n 3, 1) := dqo_45 (kb_13 21 rfl)
theorem dL_law_854 : decode cL_law 854 = .ok (.invokestatic 226, 3) := dqo_184 0 226 (kb_13 22 rfl) (kb_13 23 rfl) (kb_13 24 rfl)
theorem dL_law_857 : decode cL_law 857 = .ok (.istore 5, 2) := dqo_54 5 (kb_13 25 rfl) (kb_13 26 rfl)
theorem dL_law_859 : decode cL_law 859 = .ok (.aload_n 2, 1) := dqo_44 (kb_13 27 rfl)
theorem dL_law_860 : decode cL_law 860 = .ok (.aload_n 0, 1) := dqo_42 (kb_13 28 rfl)
theorem dL_law_861 : decode cL_law 861 = .ok (.iload 4, 2) := dqo_21 4 (kb_13 29 rfl) (kb_13 30 rfl)
theorem dL_law_863 : decode cL_law 863 = .ok (.iconst 1, 1) := dqo_4 (kb_13 31 rfl)
theorem dL_law_864 : decode cL_law 864 = .ok (.iadd, 1) := dqo_96 (kb_13 32 rfl)
theorem dL_law_865 : decode cL_law 865 = .ok (.iaload, 1) := dqo_46 (kb_13 33 rfl)
theorem dL_law_866 : decode cL_law 866 = .ok (.aload_n 0, 1) := dqo_42 (kb_13 34 rfl)
theorem dL_law_867 : decode cL_law 867 = .ok (.iload 4, 2) := dqo_21 4 (kb_13 35 rfl) (kb_13 36 rfl)
theorem dL_law_869 : decode cL_law 869 = .ok (.iconst 2, 1) := dqo_5 (kb_13 37 rfl)
theorem dL_law_870 : decode cL_law 870 = .ok (.iadd, 1) := dqo_96 (kb_13 38 rfl)
theorem dL_law_871 : decode cL_law 871 = .ok (.iaload, 1) := dqo_46 (kb_13 39 rfl)
theorem dL_law_872 : decode cL_law 872 = .ok (.invokevirtual 228, 3) := dqo_182 0 228 (kb_13 40 rfl) (kb_13 41 rfl) (kb_13 42 rfl)
theorem dL_law_875 : decode cL_law 875 = .ok (.istore 6, 2) := dqo_54 6 (kb_13 43 rfl) (kb_13 44 rfl)
theorem dL_law_877 : decode cL_law 877 = .ok (.goto 1251, 3) := dqo_167 4 227 (by decide) (kb_13 45 rfl) (kb_13 46 rfl) (kb_13 47 rfl)
theorem dL_law_880 : decode cL_law 880 = .ok (.aload_n 1, 1) := dqo_43 (kb_13 48 rfl)
theorem dL_law_881 : decode cL_law 881 = .ok (.aload_n 0, 1) := dqo_42 (kb_13 49 rfl)
theorem dL_law_882 : decode cL_law 882 = .ok (.iload 4, 2) := dqo_21 4 (kb_13 50 rfl) (kb_13 51 rfl)
theorem dL_law_884 : decode cL_law 884 = .ok (.iconst 1, 1) := dqo_4 (kb_13 52 rfl)
theorem dL_law_885 : decode cL_law 885 = .ok (.iadd, 1) := dqo_96 (kb_13 53 rfl)
theorem dL_law_886 : decode cL_law 886 = .ok (.iaload, 1) := dqo_46 (kb_13 54 rfl)
theorem dL_law_887 : decode cL_law 887 = .ok (.aload_n 0, 1) := dqo_42 (kb_13 55 rfl)
theorem dL_law_888 : decode cL_law 888 = .ok (.iload 4, 2) := dqo_21 4 (kb_13 56 rfl) (kb_13 57 rfl)
theorem dL_law_890 : decode cL_law 890 = .ok (.iconst 2, 1) := dqo_5 (kb_13 58 rfl)
theorem dL_law_891 : decode cL_law 891 = .ok (.iadd, 1) := dqo_96 (kb_13 59 rfl)
theorem dL_law_892 : decode cL_law 892 = .ok (.iaload, 1) := dqo_46 (kb_13 60 rfl)
theorem dL_law_893 : decode cL_law 893 = .ok (.aload_n 3, 1) := dqo_45 (kb_13 61 rfl)
theorem dL_law_894 : decode cL_law 894 = .ok (.invokestatic 229, 3) := dqo_184 0 229 (kb_13 62 rfl) (kb_13 63 rfl) (kb_14 0 rfl)
theorem dL_law_897 : decode cL_law 897 = .ok (.istore 5, 2) := dqo_54 5 (kb_14 1 rfl) (kb_14 2 rfl)
theorem dL_law_899 : decode cL_law 899 = .ok (.aload_n 2, 1) := dqo_44 (kb_14 3 rfl)
theorem dL_law_900 : decode cL_law 900 = .ok (.aload_n 0, 1) := dqo_42 (kb_14 4 rfl)
theorem dL_law_901 : decode cL_law 901 = .ok (.iload 4, 2) := dqo_21 4 (kb_14 5 rfl) (kb_14 6 rfl)
theorem dL_law_903 : decode cL_law 903 = .ok (.iconst 1, 1) := dqo_4 (kb_14 7 rfl)
theorem dL_law_904 : decode cL_law 904 = .ok (.iadd, 1) := dqo_96 (kb_14 8 rfl)
theorem dL_law_905 : decode cL_law 905 = .ok (.iaload, 1) := dqo_46 (kb_14 9 rfl)
theorem dL_law_906 : decode cL_law 906 = .ok (.aload_n 0, 1) := dqo_42 (kb_14 10 rfl)
theorem dL_law_907 : decode cL_law 907 = .ok (.iload 4, 2) := dqo_21 4 (kb_14 11 rfl) (kb_14 12 rfl)
theorem dL_law_909 : decode cL_law 909 = .ok (.iconst 2, 1) := dqo_5 (kb_14 13 rfl)
theorem dL_law_910 : decode cL_law 910 = .ok (.iadd, 1) := dqo_96 (kb_14 14 rfl)
theorem dL_law_911 : decode cL_law 911 = .ok (.iaload, 1) := dqo_46 (kb_14 15 rfl)
theorem dL_law_912 : decode cL_law 912 = .ok (.invokevirtual 231, 3) := dqo_182 0 231 (kb_14 16 rfl) (kb_14 17 rfl) (kb_14 18 rfl)
theorem dL_law_915 : decode cL_law 915 = .ok (.istore 6, 2) := dqo_54 6 (kb_14 19 rfl) (kb_14 20 rfl)
theorem dL_law_917 : decode cL_law 917 = .ok (.goto 1211, 3) := dqo_167 4 187 (by decide) (kb_14 21 rfl) (kb_14 22 rfl) (kb_14 23 rfl)
theorem dL_law_920 : decode cL_law 920 = .ok (.aload_n 1, 1) := dqo_43 (kb_14 24 rfl)
theorem dL_law_921 : decode cL_law 921 = .ok (.aload_n 0, 1) := dqo_42 (kb_14 25 rfl)
theorem dL_law_922 : decode cL_law 922 = .ok (.iload 4, 2) := dqo_21 4 (kb_14 26 rfl) (kb_14 27 rfl)
theorem dL_law_924 : decode cL_law 924 = .ok (.iconst 1, 1) := dqo_4 (kb_14 28 rfl)
theorem dL_law_925 : decode cL_law 925 = .ok (.iadd, 1) := dqo_96 (kb_14 29 rfl)
theorem dL_law_926 : decode cL_law 926 = .ok (.iaload, 1) := dqo_46 (kb_14 30 rfl)
theorem dL_law_927 : decode cL_law 927 = .ok (.aload_n 0, 1) := dqo_42 (kb_14 31 rfl)
theorem dL_law_928 : decode cL_law 928 = .ok (.iload 4, 2) := dqo_21 4 (kb_14 32 rfl) (kb_14 33 rfl)
theorem dL_law_930 : decode cL_law 930 = .ok (.iconst 2, 1) := dqo_5 (kb_14 34 rfl)
theorem dL_law_931 : decode cL_law 931 = .ok (.iadd, 1) := dqo_96 (kb_14 35 rfl)
theorem dL_law_932 : decode cL_law 932 = .ok (.iaload, 1) := dqo_46 (kb_14 36 rfl)
theorem dL_law_933 : decode cL_law 933 = .ok (.aload_n 3, 1) := dqo_45 (kb_14 37 rfl)
theorem dL_law_934 : decode cL_law 934 = .ok (.invokestatic 232, 3) := dqo_184 0 232 (kb_14 38 rfl) (kb_14 39 rfl) (kb_14 40 rfl)
theorem dL_law_937 : decode cL_law 937 = .ok (.istore 5, 2) := dqo_54 5 (kb_14 41 rfl) (kb_14 42 rfl)
theorem dL_law_939 : decode cL_law 939 = .ok (.aload_n 2, 1) := dqo_44 (kb_14 43 rfl)
theorem dL_law_940 : decode cL_law 940 = .ok (.aload_n 0, 1) := dqo_42 (kb_14 44 rfl)
theorem dL_law_941 : decode cL_law 941 = .ok (.iload 4, 2) := dqo_21 4 (kb_14 45 rfl) (kb_14 46 rfl)
theorem dL_law_943 : decode cL_law 943 = .ok (.iconst 1, 1) := dqo_4 (kb_14 47 rfl)
theorem dL_law_944 : decode cL_law 944 = .ok (.iadd, 1) := dqo_96 (kb_14 48 rfl)
theorem dL_law_945 : decode cL_law 945 = .ok (.iaload, 1) := dqo_46 (kb_14 49 rfl)
theorem dL_law_946 : decode cL_law 946 = .ok (.aload_n 0, 1) := dqo_42 (kb_14 50 rfl)
theorem dL_law_947 : decode cL_law 947 = .ok (.iload 4, 2) := dqo_21 4 (kb_14 51 rfl) (kb_14 52 rfl)
theorem dL_law_949 : decode cL_law 949 = .ok (.iconst 2, 1) := dqo_5 (kb_14 53 rfl)
theorem dL_law_950 : decode cL_law 950 = .ok (.iadd, 1) := dqo_96 (kb_14 54 rfl)
theorem dL_law_951 : decode cL_law 951 = .ok (.iaload, 1) := dqo_46 (kb_14 55 rfl)
theorem dL_law_952 : decode cL_law 952 = .ok (.invokevirtual 234, 3) := dqo_182 0 234 (kb_14 56 rfl) (kb_14 57 rfl) (kb_14 58 rfl)
theorem dL_law_955 : decode cL_law 955 = .ok (.istore 6, 2) := dqo_54 6 (kb_14 59 rfl) (kb_14 60 rfl)
theorem dL_law_957 : decode cL_law 957 = .ok (.goto 1171, 3) := dqo_167 4 147 (by decide) (kb_14 61 rfl) (kb_14 62 rfl) (kb_14 63 rfl)
theorem dL_law_960 : decode cL_law 960 = .ok (.aload_n 1, 1) := dqo_43 (kb_15 0 rfl)
theorem dL_law_961 : decode cL_law 961 = .ok (.aload_n 0, 1) := dqo_42 (kb_15 1 rfl)
theorem dL_law_962 : decode cL_law 962 = .ok (.iload 4, 2) := dqo_21 4 (kb_15 2 rfl) (kb_15 3 rfl)
theorem dL_law_964 : decode cL_law 964 = .ok (.iconst 1, 1) := dqo_4 (kb_15 4 rfl)
theorem dL_law_965 : decode cL_law 965 = .ok (.iadd, 1) := dqo_96 (kb_15 5 rfl)
theorem dL_law_966 : decode cL_law 966 = .ok (.iaload, 1) := dqo_46 (kb_15 6 rfl)
theorem dL_law_967 : decode cL_law 967 = .ok (.aload_n 0, 1) := dqo_42 (kb_15 7 rfl)
theorem dL_law_968 : decode cL_law 968 = .ok (.iload 4, 2) := dqo_21 4 (kb_15 8 rfl) (kb_15 9 rfl)
theorem dL_law_970 : decode cL_law 970 = .ok (.iconst 2, 1) := dqo_5 (kb_15 10 rfl)
theorem dL_law_971 : decode cL_law 971 = .ok (.iadd, 1) := dqo_96 (kb_15 11 rfl)
theorem dL_law_972 : decode cL_law 972 = .ok (.iaload, 1) := dqo_46 (kb_15 12 rfl)
theorem dL_law_973 : decode cL_law 973 = .ok (.aload_n 0, 1) := dqo_42 (kb_15 13 rfl)
theorem dL_law_974 : decode cL_law 974 = .ok (.iload 4, 2) := dqo_21 4 (kb_15 14 rfl) (kb_15 15 rfl)
theorem dL_law_976 : decode cL_law 976 = .ok (.iconst 3, 1) := dqo_6 (kb_15 16 rfl)
theorem dL_law_977 : decode cL_law 977 = .ok (.iadd, 1) := dqo_96 (kb_15 17 rfl)
theorem dL_law_978 : decode cL_law 978 = .ok (.iaload, 1) := dqo_46 (kb_15 18 rfl)
theorem dL_law_979 : decode cL_law 979 = .ok (.aload_n 3, 1) := dqo_45 (kb_15 19 rfl)
theorem dL_law_980 : decode cL_law 980 = .ok (.invokestatic 235, 3) := dqo_184 0 235 (kb_15 20 rfl) (kb_15 21 rfl) (kb_15 22 rfl)
theorem dL_law_983 : decode cL_law 983 = .ok (.istore 5, 2) := dqo_54 5 (kb_15 23 rfl) (kb_15 24 rfl)
theorem dL_law_985 : decode cL_law 985 = .ok (.aload_n 2, 1) := dqo_44 (kb_15 25 rfl)
theorem dL_law_986 : decode cL_law 986 = .ok (.aload_n 0, 1) := dqo_42 (kb_15 26 rfl)
theorem dL_law_987 : decode cL_law 987 = .ok (.iload 4, 2) := dqo_21 4 (kb_15 27 rfl) (kb_15 28 rfl)
theorem dL_law_989 : decode cL_law 989 = .ok (.iconst 1, 1) := dqo_4 (kb_15 29 rfl)
theorem dL_law_990 : decode cL_law 990 = .ok (.iadd, 1) := dqo_96 (kb_15 30 rfl)
theorem dL_law_991 : decode cL_law 991 = .ok (.iaload, 1) := dqo_46 (kb_15 31 rfl)
theorem dL_law_992 : decode cL_law 992 = .ok (.aload_n 0, 1) := dqo_42 (kb_15 32 rfl)
theorem dL_law_993 : decode cL_law 993 = .ok (.iload 4, 2) := dqo_21 4 (kb_15 33 rfl) (kb_15 34 rfl)
theorem dL_law_995 : decode cL_law 995 = .ok (.iconst 2, 1) := dqo_5 (kb_15 35 rfl)
theorem dL_law_996 : decode cL_law 996 = .ok (.iadd, 1) := dqo_96 (kb_15 36 rfl)
theorem dL_law_997 : decode cL_law 997 = .ok (.iaload, 1) := dqo_46 (kb_15 37 rfl)
theorem dL_law_998 : decode cL_law 998 = .ok (.aload_n 0, 1) := dqo_42 (kb_15 38 rfl)
theorem dL_law_999 : decode cL_law 999 = .ok (.iload 4, 2) := dqo_21 4 (kb_15 39 rfl) (kb_15 40 rfl)
theorem dL_law_1001 : decode cL_law 1001 = .ok (.iconst 3, 1) := dqo_6 (kb_15 41 rfl)
theorem dL_law_1002 : decode cL_law 1002 = .ok (.iadd, 1) := dqo_96 (kb_15 42 rfl)
theorem dL_law_1003 : decode cL_law 1003 = .ok (.iaload, 1) := dqo_46 (kb_15 43 rfl)
theorem dL_law_1004 : decode cL_law 1004 = .ok (.invokevirtual 237, 3) := dqo_182 0 237 (kb_15 44 rfl) (kb_15 45 rfl) (kb_15 46 rfl)
theorem dL_law_1007 : decode cL_law 1007 = .ok (.istore 6, 2) := dqo_54 6 (kb_15 47 rfl) (kb_15 48 rfl)
theorem dL_law_1009 : decode cL_law 1009 = .ok (.goto 1119, 3) := dqo_167 4 95 (by decide) (kb_15 49 rfl) (kb_15 50 rfl) (kb_15 51 rfl)
theorem dL_law_1012 : decode cL_law 1012 = .ok (.aload_n 1, 1) := dqo_43 (kb_15 52 rfl)
theorem dL_law_1013 : decode cL_law 1013 = .ok (.aload_n 0, 1) := dqo_42 (kb_15 53 rfl)
theorem dL_law_1014 : decode cL_law 1014 = .ok (.iload 4, 2) := dqo_21 4 (kb_15 54 rfl) (kb_15 55 rfl)
theorem dL_law_1016 : decode cL_law 1016 = .ok (.iconst 1, 1) := dqo_4 (kb_15 56 rfl)
theorem dL_law_1017 : decode cL_law 1017 = .ok (.iadd, 1) := dqo_96 (kb_15 57 rfl)
theorem dL_law_1018 : decode cL_law 1018 = .ok (.iaload, 1) := dqo_46 (kb_15 58 rfl)
theorem dL_law_1019 : decode cL_law 1019 = .ok (.aload_n 0, 1) := dqo_42 (kb_15 59 rfl)
theorem dL_law_1020 : decode cL_law 1020 = .ok (.iload 4, 2) := dqo_21 4 (kb_15 60 rfl) (kb_15 61 rfl)
theorem dL_law_1022 : decode cL_law 1022 = .ok (.iconst 2, 1) := dqo_5 (kb_15 62 rfl)
theorem dL_law_1023 : decode cL_law 1023 = .ok (.iadd, 1) := dqo_96 (kb_15 63 rfl)
theorem dL_law_1024 : decode cL_law 1024 = .ok (.iaload, 1) := dqo_46 (kb_16 0 rfl)
theorem dL_law_1025 : decode cL_law 1025 = .ok (.aload_n 3, 1) := dqo_45 (kb_16 1 rfl)
theorem dL_law_1026 : decode cL_law 1026 = .ok (.invokestatic 238, 3) := dqo_184 0 238 (kb_16 2 rfl) (kb_16 3 rfl) (kb_16 4 rfl)
theorem dL_law_1029 : decode cL_law 1029 = .ok (.istore 5, 2) := dqo_54 5 (kb_16 5 rfl) (kb_16 6 rfl)
theorem dL_law_1031 : decode cL_law 1031 = .ok (.aload_n 2, 1) := dqo_44 (kb_16 7 rfl)
theorem dL_law_1032 : decode cL_law 1032 = .ok (.aload_n 0, 1) := dqo_42 (kb_16 8 rfl)
theorem dL_law_1033 : decode cL_law 1033 = .ok (.iload 4, 2) := dqo_21 4 (kb_16 9 rfl) (kb_16 10 rfl)
theorem dL_law_1035 : decode cL_law 1035 = .ok (.iconst 1, 1) := dqo_4 (kb_16 11 rfl)
theorem dL_law_1036 : decode cL_law 1036 = .ok (.iadd, 1) := dqo_96 (kb_16 12 rfl)
theorem dL_law_1037 : decode cL_law 1037 = .ok (.iaload, 1) := dqo_46 (kb_16 13 rfl)
theorem dL_law_1038 : decode cL_law 1038 = .ok (.aload_n 0, 1) := dqo_42 (kb_16 14 rfl)
theorem dL_law_1039 : decode cL_law 1039 = .ok (.iload 4, 2) := dqo_21 4 (kb_16 15 rfl) (kb_16 16 rfl)
theorem dL_law_1041 : decode cL_law 1041 = .ok (.iconst 2, 1) := dqo_5 (kb_16 17 rfl)
theorem dL_law_1042 : decode cL_law 1042 = .ok (.iadd, 1) := dqo_96 (kb_16 18 rfl)
theorem dL_law_1043 : decode cL_law 1043 = .ok (.iaload, 1) := dqo_46 (kb_16 19 rfl)
theorem dL_law_1044 : decode cL_law 1044 = .ok (.invokevirtual 240, 3) := dqo_182 0 240 (kb_16 20 rfl) (kb_16 21 rfl) (kb_16 22 rfl)
theorem dL_law_1047 : decode cL_law 1047 = .ok (.istore 6, 2) := dqo_54 6 (kb_16 23 rfl) (kb_16 24 rfl)
theorem dL_law_1049 : decode cL_law 1049 = .ok (.goto 1079, 3) := dqo_167 4 55 (by decide) (kb_16 25 rfl) (kb_16 26 rfl) (kb_16 27 rfl)
theorem dL_law_1052 : decode cL_law 1052 = .ok (.aload_n 1, 1) := dqo_43 (kb_16 28 rfl)
theorem dL_law_1053 : decode cL_law 1053 = .ok (.aload_n 0, 1) := dqo_42 (kb_16 29 rfl)
theorem dL_law_1054 : decode cL_law 1054 = .ok (.iload 4, 2) := dqo_21 4 (kb_16 30 rfl) (kb_16 31 rfl)
theorem dL_law_1056 : decode cL_law 1056 = .ok (.iconst 1, 1) := dqo_4 (kb_16 32 rfl)
theorem dL_law_1057 : decode cL_law 1057 = .ok (.iadd, 1) := dqo_96 (kb_16 33 rfl)
theorem dL_law_1058 : decode cL_law 1058 = .ok (.iaload, 1) := dqo_46 (kb_16 34 rfl)
theorem dL_law_1059 : decode cL_law 1059 = .ok (.aload_n 0, 1) := dqo_42 (kb_16 35 rfl)
theorem dL_law_1060 : decode cL_law 1060 = .ok (.iload 4, 2) := dqo_21 4 (kb_16 36 rfl) (kb_16 37 rfl)
theorem dL_law_1062 : decode cL_law 1062 = .ok (.iconst 2, 1) := dqo_5 (kb_16 38 rfl)
theorem dL_law_1063 : decode cL_law 1063 = .ok (.iadd, 1) := dqo_96 (kb_16 39 rfl)
theorem dL_law_1064 : decode cL_law 1064 = .ok (.iaload, 1) := dqo_46 (kb_16 40 rfl)
theorem dL_law_1065 : decode cL_law 1065 = .ok (.aload_n 3, 1) := dqo_45 (kb_16 41 rfl)
theorem dL_law_1066 : decode cL_law 1066 = .ok (.invokestatic 241, 3) := dqo_184 0 241 (kb_16 42 rfl) (kb_16 43 rfl) (kb_16 44 rfl)
theorem dL_law_1069 : decode cL_law 1069 = .ok (.istore 5, 2) := dqo_54 5 (kb_16 45 rfl) (kb_16 46 rfl)
theorem dL_law_1071 : decode cL_law 1071 = .ok (.aload_n 2, 1) := dqo_44 (kb_16 47 rfl)
theorem dL_law_1072 : decode cL_law 1072 = .ok (.aload_n 0, 1) := dqo_42 (kb_16 48 rfl)
theorem dL_law_1073 : decode cL_law 1073 = .ok (.iload 4, 2) := dqo_21 4 (kb_16 49 rfl) (kb_16 50 rfl)
theorem dL_law_1075 : decode cL_law 1075 = .ok (.iconst 1, 1) := dqo_4 (kb_16 51 rfl)
theorem dL_law_1076 : decode cL_law 1076 = .ok (.iadd, 1) := dqo_96 (kb_16 52 rfl)
theorem dL_law_1077 : decode cL_law 1077 = .ok (.iaload, 1) := dqo_46 (kb_16 53 rfl)
theorem dL_law_1078 : decode cL_law 1078 = .ok (.aload_n 0, 1) := dqo_42 (kb_16 54 rfl)
theorem dL_law_1079 : decode cL_law 1079 = .ok (.iload 4, 2) := dqo_21 4 (kb_16 55 rfl) (kb_16 56 rfl)
theorem dL_law_1081 : decode cL_law 1081 = .ok (.iconst 2, 1) := dqo_5 (kb_16 57 rfl)
theorem dL_law_1082 : decode cL_law 1082 = .ok (.iadd, 1) := dqo_96 (kb_16 58 rfl)
theorem dL_law_1083 : decode cL_law 1083 = .ok (.iaload, 1) := dqo_46 (kb_16 59 rfl)
theorem dL_law_1084 : decode cL_law 1084 = .ok (.invokevirtual 243, 3) := dqo_182 0 243 (kb_16 60 rfl) (kb_16 61 rfl) (kb_16 62 rfl)
theorem dL_law_1087 : decode cL_law 1087 = .ok (.istore 6, 2) := dqo_54 6 (kb_16 63 rfl) (kb_17 0 rfl)
theorem dL_law_1089 : decode cL_law 1089 = .ok (.goto 1039, 3) := dqo_167 4 15 (by decide) (kb_17 1 rfl) (kb_17 2 rfl) (kb_17 3 rfl)
theorem dL_law_1092 : decode cL_law 1092 = .ok (.aload_n 1, 1) := dqo_43 (kb_17 4 rfl)
theorem dL_law_1093 : decode cL_law 1093 = .ok (.aload_n 0, 1) := dqo_42 (kb_17 5 rfl)
theorem dL_law_1094 : decode cL_law 1094 = .ok (.iload 4, 2) := dqo_21 4 (kb_17 6 rfl) (kb_17 7 rfl)
theorem dL_law_1096 : decode cL_law 1096 = .ok (.iconst 1, 1) := dqo_4 (kb_17 8 rfl)
theorem dL_law_1097 : decode cL_law 1097 = .ok (.iadd, 1) := dqo_96 (kb_17 9 rfl)
theorem dL_law_1098 : decode cL_law 1098 = .ok (.iaload, 1) := dqo_46 (kb_17 10 rfl)
theorem dL_law_1099 : decode cL_law 1099 = .ok (.aload_n 0, 1) := dqo_42 (kb_17 11 rfl)
theorem dL_law_1100 : decode cL_law 1100 = .ok (.iload 4, 2) := dqo_21 4 (kb_17 12 rfl) (kb_17 13 rfl)
theorem dL_law_1102 : decode cL_law 1102 = .ok (.iconst 2, 1) := dqo_5 (kb_17 14 rfl)
theorem dL_law_1103 : decode cL_law 1103 = .ok (.iadd, 1) := dqo_96 (kb_17 15 rfl)
theorem dL_law_1104 : decode cL_law 1104 = .ok (.iaload, 1) := dqo_46 (kb_17 16 rfl)
theorem dL_law_1105 : decode cL_law 1105 = .ok (.aload_n 3, 1) := dqo_45 (kb_17 17 rfl)
theorem dL_law_1106 : decode cL_law 1106 = .ok (.invokestatic 244, 3) := dqo_184 0 244 (kb_17 18 rfl) (kb_17 19 rfl) (kb_17 20 rfl)
theorem dL_law_1109 : decode cL_law 1109 = .ok (.istore 5, 2) := dqo_54 5 (kb_17 21 rfl) (kb_17 22 rfl)
theorem dL_law_1111 : decode cL_law 1111 = .ok (.aload_n 2, 1) := dqo_44 (kb_17 23 rfl)
theorem dL_law_1112 : decode cL_law 1112 = .ok (.aload_n 0, 1) := dqo_42 (kb_17 24 rfl)
theorem dL_law_1113 : decode cL_law 1113 = .ok (.iload 4, 2) := dqo_21 4 (kb_17 25 rfl) (kb_17 26 rfl)
theorem dL_law_1115 : decode cL_law 1115 = .ok (.iconst 1, 1) := dqo_4 (kb_17 27 rfl)
theorem dL_law_1116 : decode cL_law 1116 = .ok (.iadd, 1) := dqo_96 (kb_17 28 rfl)
theorem dL_law_1117 : decode cL_law 1117 = .ok (.iaload, 1) := dqo_46 (kb_17 29 rfl)
theorem dL_law_1118 : decode cL_law 1118 = .ok (.aload_n 0, 1) := dqo_42 (kb_17 30 rfl)
theorem dL_law_1119 : decode cL_law 1119 = .ok (.iload 4, 2) := dqo_21 4 (kb_17 31 rfl) (kb_17 32 rfl)
theorem dL_law_1121 : decode cL_law 1121 = .ok (.iconst 2, 1) := dqo_5 (kb_17 33 rfl)
theorem dL_law_1122 : decode cL_law 1122 = .ok (.iadd, 1) := dqo_96 (kb_17 34 rfl)
theorem dL_law_1123 : decode cL_law 1123 = .ok (.iaload, 1) := dqo_46 (kb_17 35 rfl)
theorem dL_law_1124 : decode cL_law 1124 = .ok (.invokevirtual 246, 3) := dqo_182 0 246 (kb_17 36 rfl) (kb_17 37 rfl) (kb_17 38 rfl)
theorem dL_law_1127 : decode cL_law 1127 = .ok (.istore 6, 2) := dqo_54 6 (kb_17 39 rfl) (kb_17 40 rfl)
theorem dL_law_1129 : decode cL_law 1129 = .ok (.goto 999, 3) := dqo_167 3 231 (by decide) (kb_17 41 rfl) (kb_17 42 rfl) (kb_17 43 rfl)
theorem dL_law_1132 : decode cL_law 1132 = .ok (.aload_n 1, 1) := dqo_43 (kb_17 44 rfl)
theorem dL_law_1133 : decode cL_law 1133 = .ok (.aload_n 0, 1) := dqo_42 (kb_17 45 rfl)
theorem dL_law_1134 : decode cL_law 1134 = .ok (.iload 4, 2) := dqo_21 4 (kb_17 46 rfl) (kb_17 47 rfl)
theorem dL_law_1136 : decode cL_law 1136 = .ok (.iconst 1, 1) := dqo_4 (kb_17 48 rfl)
theorem dL_law_1137 : decode cL_law 1137 = .ok (.iadd, 1) := dqo_96 (kb_17 49 rfl)
theorem dL_law_1138 : decode cL_law 1138 = .ok (.iaload, 1) := dqo_46 (kb_17 50 rfl)
theorem dL_law_1139 : decode cL_law 1139 = .ok (.aload_n 0, 1) := dqo_42 (kb_17 51 rfl)
theorem dL_law_1140 : decode cL_law 1140 = .ok (.iload 4, 2) := dqo_21 4 (kb_17 52 rfl) (kb_17 53 rfl)
theorem dL_law_1142 : decode cL_law 1142 = .ok (.iconst 2, 1) := dqo_5 (kb_17 54 rfl)
theorem dL_law_1143 : decode cL_law 1143 = .ok (.iadd, 1) := dqo_96 (kb_17 55 rfl)
theorem dL_law_1144 : decode cL_law 1144 = .ok (.iaload, 1) := dqo_46 (kb_17 56 rfl)
theorem dL_law_1145 : decode cL_law 1145 = .ok (.aload_n 3, 1) := dqo_45 (kb_17 57 rfl)
theorem dL_law_1146 : decode cL_law 1146 = .ok (.invokestatic 247, 3) := dqo_184 0 247 (kb_17 58 rfl) (kb_17 59 rfl) (kb_17 60 rfl)
theorem dL_law_1149 : decode cL_law 1149 = .ok (.istore 5, 2) := dqo_54 5 (kb_17 61 rfl) (kb_17 62 rfl)
theorem dL_law_1151 : decode cL_law 1151 = .ok (.aload_n 2, 1) := dqo_44 (kb_17 63 rfl)
theorem dL_law_1152 : decode cL_law 1152 = .ok (.aload_n 0, 1) := dqo_42 (kb_18 0 rfl)
theorem dL_law_1153 : decode cL_law 1153 = .ok (.iload 4, 2) := dqo_21 4 (kb_18 1 rfl) (kb_18 2 rfl)
theorem dL_law_1155 : decode cL_law 1155 = .ok (.iconst 1, 1) := dqo_4 (kb_18 3 rfl)
theorem dL_law_1156 : decode cL_law 1156 = .ok (.iadd, 1) := dqo_96 (kb_18 4 rfl)
theorem dL_law_1157 : decode cL_law 1157 = .ok (.iaload, 1) := dqo_46 (kb_18 5 rfl)
theorem dL_law_1158 : decode cL_law 1158 = .ok (.aload_n 0, 1) := dqo_42 (kb_18 6 rfl)
theorem dL_law_1159 : decode cL_law 1159 = .ok (.iload 4, 2) := dqo_21 4 (kb_18 7 rfl) (kb_18 8 rfl)
theorem dL_law_1161 : decode cL_law 1161 = .ok (.iconst 2, 1) := dqo_5 (kb_18 9 rfl)
theorem dL_law_1162 : decode cL_law 1162 = .ok (.iadd, 1) := dqo_96 (kb_18 10 rfl)
theorem dL_law_1163 : decode cL_law 1163 = .ok (.iaload, 1) := dqo_46 (kb_18 11 rfl)
theorem dL_law_1164 : decode cL_law 1164 = .ok (.invokevirtual 249, 3) := dqo_182 0 249 (kb_18 12 rfl) (kb_18 13 rfl) (kb_18 14 rfl)
theorem dL_law_1167 : decode cL_law 1167 = .ok (.istore 6, 2) := dqo_54 6 (kb_18 15 rfl) (kb_18 16 rfl)
theorem dL_law_1169 : decode cL_law 1169 = .ok (.goto 959, 3) := dqo_167 3 191 (by decide) (kb_18 17 rfl) (kb_18 18 rfl) (kb_18 19 rfl)
theorem dL_law_1172 : decode cL_law 1172 = .ok (.aload_n 1, 1) := dqo_43 (kb_18 20 rfl)
theorem dL_law_1173 : decode cL_law 1173 = .ok (.aload_n 0, 1) := dqo_42 (kb_18 21 rfl)
theorem dL_law_1174 : decode cL_law 1174 = .ok (.iload 4, 2) := dqo_21 4 (kb_18 22 rfl) (kb_18 23 rfl)
theorem dL_law_1176 : decode cL_law 1176 = .ok (.iconst 1, 1) := dqo_4 (kb_18 24 rfl)
theorem dL_law_1177 : decode cL_law 1177 = .ok (.iadd, 1) := dqo_96 (kb_18 25 rfl)
theorem dL_law_1178 : decode cL_law 1178 = .ok (.iaload, 1) := dqo_46 (kb_18 26 rfl)
theorem dL_law_1179 : decode cL_law 1179 = .ok (.aload_n 0, 1) := dqo_42 (kb_18 27 rfl)
theorem dL_law_1180 : decode cL_law 1180 = .ok (.iload 4, 2) := dqo_21 4 (kb_18 28 rfl) (kb_18 29 rfl)
theorem dL_law_1182 : decode cL_law 1182 = .ok (.iconst 2, 1) := dqo_5 (kb_18 30 rfl)
theorem dL_law_1183 : decode cL_law 1183 = .ok (.iadd, 1) := dqo_96 (kb_18 31 rfl)
theorem dL_law_1184 : decode cL_law 1184 = .ok (.iaload, 1) := dqo_46 (kb_18 32 rfl)
theorem dL_law_1185 : decode cL_law 1185 = .ok (.aload_n 0, 1) := dqo_42 (kb_18 33 rfl)
theorem dL_law_1186 : decode cL_law 1186 = .ok (.iload 4, 2) := dqo_21 4 (kb_18 34 rfl) (kb_18 35 rfl)
theorem dL_law_1188 : decode cL_law 1188 = .ok (.iconst 3, 1) := dqo_6 (kb_18 36 rfl)
theorem dL_law_1189 : decode cL_law 1189 = .ok (.iadd, 1) := dqo_96 (kb_18 37 rfl)
theorem dL_law_1190 : decode cL_law 1190 = .ok (.iaload, 1) := dqo_46 (kb_18 38 rfl)
theorem dL_law_1191 : decode cL_law 1191 = .ok (.aload_n 3, 1) := dqo_45 (kb_18 39 rfl)
theorem dL_law_1192 : decode cL_law 1192 = .ok (.invokestatic 250, 3) := dqo_184 0 250 (kb_18 40 rfl) (kb_18 41 rfl) (kb_18 42 rfl)
theorem dL_law_1195 : decode cL_law 1195 = .ok (.istore 5, 2) := dqo_54 5 (kb_18 43 rfl) (kb_18 44 rfl)
theorem dL_law_1197 : decode cL_law 1197 = .ok (.aload_n 2, 1) := dqo_44 (kb_18 45 rfl)
theorem dL_law_1198 : decode cL_law 1198 = .ok (.aload_n 0, 1) := dqo_42 (kb_18 46 rfl)
theorem dL_law_1199 : decode cL_law 1199 = .ok (.iload 4, 2) := dqo_21 4 (kb_18 47 rfl) (kb_18 48 rfl)
theorem dL_law_1201 : decode cL_law 1201 = .ok (.iconst 1, 1) := dqo_4 (kb_18 49 rfl)
theorem dL_law_1202 : decode cL_law 1202 = .ok (.iadd, 1) := dqo_96 (kb_18 50 rfl)
theorem dL_law_1203 : decode cL_law 1203 = .ok (.iaload, 1) := dqo_46 (kb_18 51 rfl)
theorem dL_law_1204 : decode cL_law 1204 = .ok (.aload_n 0, 1) := dqo_42 (kb_18 52 rfl)
theorem dL_law_1205 : decode cL_law 1205 = .ok (.iload 4, 2) := dqo_21 4 (kb_18 53 rfl) (kb_18 54 rfl)
theorem dL_law_1207 : decode cL_law 1207 = .ok (.iconst 2, 1) := dqo_5 (kb_18 55 rfl)
theorem dL_law_1208 : decode cL_law 1208 = .ok (.iadd, 1) := dqo_96 (kb_18 56 rfl)
theorem dL_law_1209 : decode cL_law 1209 = .ok (.iaload, 1) := dqo_46 (kb_18 57 rfl)
theorem dL_law_1210 : decode cL_law 1210 = .ok (.aload_n 0, 1) := dqo_42 (kb_18 58 rfl)
theorem dL_law_1211 : decode cL_law 1211 = .ok (.iload 4, 2) := dqo_21 4 (kb_18 59 rfl) (kb_18 60 rfl)
theorem dL_law_1213 : decode cL_law 1213 = .ok (.iconst 3, 1) := dqo_6 (kb_18 61 rfl)
theorem dL_law_1214 : decode cL_law 1214 = .ok (.iadd, 1) := dqo_96 (kb_18 62 rfl)
theorem dL_law_1215 : decode cL_law 1215 = .ok (.iaload, 1) := dqo_46 (kb_18 63 rfl)
theorem dL_law_1216 : decode cL_law 1216 = .ok (.invokevirtual 252, 3) := dqo_182 0 252 (kb_19 0 rfl) (kb_19 1 rfl) (kb_19 2 rfl)
theorem dL_law_1219 : decode cL_law 1219 = .ok (.istore 6, 2) := dqo_54 6 (kb_19 3 rfl) (kb_19 4 rfl)
theorem dL_law_1221 : decode cL_law 1221 = .ok (.goto 907, 3) := dqo_167 3 139 (by decide) (kb_19 5 rfl) (kb_19 6 rfl) (kb_19 7 rfl)
theorem S_sortBy {p : Program} {l : Launch} {e : Env} {s : State} {m : MethodId} {args : Array Value} {below : List Frame} {meth : Method} {c : Code} {D : va_G} {cy : Nat → ClassId} {A : Nat → Prop} {Q : State → Prop} {X : (Nat → Prop) → State → Heap → Prop} {aK aV : Nat → Nat} {tO tT : Nat} {gO gT : Nat → Int32} {a : Nat → Nat → Nat} {ba : Nat → Nat} {o b L i cells slots : Nat} {xs : Nat → Int32} {w : va_W} (C : Fg p s m args meth c cL_law 7 RL D cy A) (hE : X A s s.heap) (hT : EnvT X cy aK aV tO tT gO gT) (hN : EnvN X) (hl : l.stackTraces = false) (hx : va_X b L xs s s.heap) (hbl : b < s.heap.size) (hbA : ¬ A b) (hi : i + 5 ≤ L) (hL : L ≤ 2560) (hc : cells + 500 ≤ room_1.cells) (hs : slots + 10000 ≤ room_1.slots) (hJ : JW cy a ba o w) (kk : ∀ w' : va_W, JW cy a ba o w' → vW p l e room_1 s m args below meth c D vwCl A Q 7 (cells + 500) (slots + 10000) w' [some (.ref b), some (.ref (a 0 0)), some (.ref (ba 9)), some (.ref o), some (.int (nI i)), none, none] 2128 []) : vW p l e room_1 s m args below meth c D vwCl A Q 7 cells slots w [some (.ref b), some (.ref (a 0 0)), some (.ref (ba 9)), some (.ref o), some (.int (nI i)), none, none] 732 [] := by
  have hX := hT.1.1
  obtain ⟨f, r, hf, hq, kn, ra, th, sm, n, v, hC, hB, hM, rfl⟩ := hJ
  refine r_aload_n C dL_law_732 rfl ?_
  refine r_aload_n C dL_law_733 rfl ?_
  refine r_iload C dL_law_734 rfl ?_
  refine r_iconst (v := nI 1) C dL_law_736 (by decide) ?_
  refine r_iaddN C dL_law_737 ?_
  refine r_sld C hx hbl hbA (show i + 1 < L by omega) (by omega) dL_law_738 ?_
  refine r_aload_n C dL_law_739 rfl ?_
  refine r_iload C dL_law_740 rfl ?_
  refine r_iconst (v := nI 2) C dL_law_742 (by decide) ?_
  refine r_iaddN C dL_law_743 ?_
  refine r_sld C hx hbl hbA (show i + 2 < L by omega) (by omega) dL_law_744 ?_
  refine r_aload_n C dL_law_745 rfl ?_
  refine c_SH (st := []) hX.1.stb C hE (W_sortBy hX.1 hN hC hB hM (P_sortBy hX hl hC hB hM (xs (i + 1)) (xs (i + 2)))) pk_L_sortBy qm_L_217 rfl rfl (Nat.le_of_ble_eq_true rfl) dL_law_746 ⟨(Nat.le_of_ble_eq_true rfl), (Nat.le_of_ble_eq_true rfl)⟩ ⟨show cells + 1 ≤ room_1.cells by omega, show slots + 6 ≤ room_1.slots by omega⟩ (fun v9 w9 h9 => ?_) (fun _ h9 => h9.elim)
  obtain ⟨f', r', k, n1, rfl, rfl, hf', hq', n2, hC', hB', hM', hk0, hk4, h2⟩ := h9
  refine r_istore C dL_law_749 (by decide) rfl ?_
  refine r_aload_n C dL_law_751 rfl ?_
  refine r_aload_n C dL_law_752 rfl ?_
  refine r_iload C dL_law_753 rfl ?_
  refine r_iconst (v := nI 1) C dL_law_755 (by decide) ?_
  refine r_iaddN C dL_law_756 ?_
  refine r_sld C hx hbl hbA (show i + 1 < L by omega) (by omega) dL_law_757 ?_
  refine r_aload_n C dL_law_758 rfl ?_
  refine r_iload C dL_law_759 rfl ?_
  refine r_iconst (v := nI 2) C dL_law_761 (by decide) ?_
  refine r_iaddN C dL_law_762 ?_
  refine r_sld C hx hbl hbA (show i + 2 < L by omega) (by omega) dL_law_763 ?_
  refine t_swap3 ?_
  refine c_V (st := []) hX.1.stb C hE (h2 _) pk_X4_sortBy qm_L_219 0 8 rfl rfl wm_0 rfl rfl (Nat.le_of_ble_eq_true rfl) dL_law_764 ⟨(Nat.le_of_ble_eq_true rfl), (Nat.le_of_ble_eq_true rfl)⟩ ⟨show cells + 1 + 4 ≤ room_1.cells by omega, show slots + 6 + 48 ≤ room_1.slots by omega⟩ (fun v9 w9 h9 => ?_) (fun _ h9 => h9.elim)
  obtain ⟨ra9, rfl, rfl⟩ := h9
  refine r_istore C dL_law_767 (by decide) rfl ?_
  refine t_swap3 ?_
  refine r_goto (tgt := 2128) C dL_law_769 (by decide) ?_
  refine r_widen (k := cells + 500) (n := slots + 10000) (show cells + 1 + 4 ≤ cells + 500 by omega) (show slots + 6 + 48 ≤ slots + 10000 by omega) ?_
  refine r_drop 5 ?_
  refine r_drop 6 ?_
  exact kk _ ⟨f', r', hf', hq', kn, ra9, _, sm, _, _, hC', hB', hM', rfl⟩
theorem S_get {p : Program} {l : Launch} {e : Env} {s : State} {m : MethodId} {args : Array Value} {below : List Frame} {meth : Method} {c : Code} {D : va_G} {cy : Nat → ClassId} {A : Nat → Prop} {Q : State → Prop} {X : (Nat → Prop) → State → Heap → Prop} {aK aV : Nat → Nat} {tO tT : Nat} {gO gT : Nat → Int32} {a : Nat → Nat → Nat} {ba : Nat → Nat} {o b L i cells slots : Nat} {xs : Nat → Int32} {w : va_W} (C : Fg p s m args meth c cL_law 7 RL D cy A) (hE : X A s s.heap) (hT : EnvT X cy aK aV tO tT gO gT) (hN : EnvN X) (hl : l.stackTraces = false) (hx : va_X b L xs s s.heap) (hbl : b < s.heap.size) (hbA : ¬ A b) (hi : i + 5 ≤ L) (hL : L ≤ 2560) (hc : cells + 500 ≤ room_1.cells) (hs : slots + 10000 ≤ room_1.slots) (hJ : JW cy a ba o w) (kk : ∀ w' : va_W, JW cy a ba o w' → vW p l e room_1 s m args below meth c D vwCl A Q 7 (cells + 500) (slots + 10000) w' [some (.ref b), some (.ref (a 0 0)), some (.ref (ba 9)), some (.ref o), some (.int (nI i)), none, none] 2128 []) : vW p l e room_1 s m args below meth c D vwCl A Q 7 cells slots w [some (.ref b), some (.ref (a 0 0)), some (.ref (ba 9)), some (.ref o), some (.int (nI i)), none, none] 772 [] := by
  have hX := hT.1.1
  obtain ⟨f, r, hf, hq, kn, ra, th, sm, n, v, hC, hB, hM, rfl⟩ := hJ
  refine r_aload_n C dL_law_772 rfl ?_
  refine r_aload_n C dL_law_773 rfl ?_
  refine r_iload C dL_law_774 rfl ?_
  refine r_iconst (v := nI 1) C dL_law_776 (by decide) ?_
  refine r_iaddN C dL_law_777 ?_
  refine r_sld C hx hbl hbA (show i + 1 < L by omega) (by omega) dL_law_778 ?_
  refine r_aload_n C dL_law_779 rfl ?_
  refine r_iload C dL_law_780 rfl ?_
  refine r_iconst (v := nI 2) C dL_law_782 (by decide) ?_
  refine r_iaddN C dL_law_783 ?_
  refine r_sld C hx hbl hbA (show i + 2 < L by omega) (by omega) dL_law_784 ?_
  refine r_aload_n C dL_law_785 rfl ?_
  refine c_SH (st := []) hX.1.stb C hE (W_get hX.1 hN hC hB hM (P_get hX hl hC hB hM (xs (i + 1)) (xs (i + 2)))) pk_L_get qm_L_220 rfl rfl (Nat.le_of_ble_eq_true rfl) dL_law_786 ⟨(Nat.le_of_ble_eq_true rfl), (Nat.le_of_ble_eq_true rfl)⟩ ⟨show cells + 1 ≤ room_1.cells by omega, show slots + 6 ≤ room_1.slots by omega⟩ (fun v9 w9 h9 => ?_) (fun _ h9 => h9.elim)
  obtain ⟨f', r', k, n1, rfl, rfl, hf', hq', n2, hC', hB', hM', hk0, hk4, h2⟩ := h9
  refine r_istore C dL_law_789 (by decide) rfl ?_
  refine r_aload_n C dL_law_791 rfl ?_
  refine r_aload_n C dL_law_792 rfl ?_
  refine r_iload C dL_law_793 rfl ?_
  refine r_iconst (v := nI 1) C dL_law_795 (by decide) ?_
  refine r_iaddN C dL_law_796 ?_
  refine r_sld C hx hbl hbA (show i + 1 < L by omega) (by omega) dL_law_797 ?_
  refine r_aload_n C dL_law_798 rfl ?_
  refine r_iload C dL_law_799 rfl ?_
  refine r_iconst (v := nI 2) C dL_law_801 (by decide) ?_
  refine r_iaddN C dL_law_802 ?_
  refine r_sld C hx hbl hbA (show i + 2 < L by omega) (by omega) dL_law_803 ?_
  refine t_swap3 ?_
  refine c_V (st := []) hX.1.stb C hE (h2 _) pk_X4_get qm_L_222 0 8 rfl rfl wm_0 rfl rfl (Nat.le_of_ble_eq_true rfl) dL_law_804 ⟨(Nat.le_of_ble_eq_true rfl), (Nat.le_of_ble_eq_true rfl)⟩ ⟨show cells + 1 + 4 ≤ room_1.cells by omega, show slots + 6 + 48 ≤ room_1.slots by omega⟩ (fun v9 w9 h9 => ?_) (fun _ h9 => h9.elim)
  obtain ⟨ra9, rfl, rfl⟩ := h9
  refine r_istore C dL_law_807 (by decide) rfl ?_
  refine t_swap3 ?_
  refine r_goto (tgt := 2128) C dL_law_809 (by decide) ?_
  refine r_widen (k := cells + 500) (n := slots + 10000) (show cells + 1 + 4 ≤ cells + 500 by omega) (show slots + 6 + 48 ≤ slots + 10000 by omega) ?_
  refine r_drop 5 ?_
  refine r_drop 6 ?_
  exact kk _ ⟨f', r', hf', hq', kn, ra9, _, sm, _, _, hC', hB', hM', rfl⟩
theorem S_size {p : Program} {l : Launch} {e : Env} {s : State} {m : MethodId} {args : Array Value} {below : List Frame} {meth : Method} {c : Code} {D : va_G} {cy : Nat → ClassId} {A : Nat → Prop} {Q : State → Prop} {X : (Nat → Prop) → State → Heap → Prop} {aK aV : Nat → Nat} {tO tT : Nat} {gO gT : Nat → Int32} {a : Nat → Nat → Nat} {ba : Nat → Nat} {o b L i cells slots : Nat} {xs : Nat → Int32} {w : va_W} (C : Fg p s m args meth c cL_law 7 RL D cy A) (hE : X A s s.heap) (hT : EnvT X cy aK aV tO tT gO gT) (hN : EnvN X) (hl : l.stackTraces = false) (hx : va_X b L xs s s.heap) (hbl : b < s.heap.size) (hbA : ¬ A b) (hi : i + 5 ≤ L) (hL : L ≤ 2560) (hc : cells + 500 ≤ room_1.cells) (hs : slots + 10000 ≤ room_1.slots) (hJ : JW cy a ba o w) (kk : ∀ w' : va_W, JW cy a ba o w' → vW p l e room_1 s m args below meth c D vwCl A Q 7 (cells + 500) (slots + 10000) w' [some (.ref b), some (.ref (a 0 0)), some (.ref (ba 9)), some (.ref o), some (.int (nI i)), none, none] 2128 []) : vW p l e room_1 s m args below meth c D vwCl A Q 7 cells slots w [some (.ref b), some (.ref (a 0 0)), some (.ref (ba 9)), some (.ref o), some (.int (nI i)), none, none] 812 [] := by
  have hX := hT.1.1
  obtain ⟨f, r, hf, hq, kn, ra, th, sm, n, v, hC, hB, hM, rfl⟩ := hJ
  refine r_aload_n C dL_law_812 rfl ?_
  refine r_aload_n C dL_law_813 rfl ?_
  refine r_iload C dL_law_814 rfl ?_
  refine r_iconst (v := nI 1) C dL_law_816 (by decide) ?_
  refine r_iaddN C dL_law_817 ?_
  refine r_sld C hx hbl hbA (show i + 1 < L by omega) (by omega) dL_law_818 ?_
  refine r_aload_n C dL_law_819 rfl ?_
  refine c_SH (st := []) hX.1.stb C hE (W_size hX.1 hN hC hB hM (P_size hX hl hC hB hM (xs (i + 1)))) pk_L_size qm_L_223 rfl rfl (Nat.le_of_ble_eq_true rfl) dL_law_820 ⟨(Nat.le_of_ble_eq_true rfl), (Nat.le_of_ble_eq_true rfl)⟩ ⟨show cells + 1 ≤ room_1.cells by omega, show slots + 6 ≤ room_1.slots by omega⟩ (fun v9 w9 h9 => ?_) (fun _ h9 => h9.elim)
  obtain ⟨f', r', k, n1, rfl, rfl, hf', hq', n2, hC', hB', hM', hk0, hk4, h2⟩ := h9
  refine r_istore C dL_law_823 (by decide) rfl ?_
  refine r_aload_n C dL_law_825 rfl ?_
  refine r_aload_n C dL_law_826 rfl ?_
  refine r_iload C dL_law_827 rfl ?_
  refine r_iconst (v := nI 1) C dL_law_829 (by decide) ?_
  refine r_iaddN C dL_law_830 ?_
  refine r_sld C hx hbl hbA (show i + 1 < L by omega) (by omega) dL_law_831 ?_
  refine t_swap3 ?_
  refine c_V (st := []) hX.1.stb C hE (h2 _) pk_X4_size qm_L_225 0 8 rfl rfl wm_0 rfl rfl (Nat.le_of_ble_eq_true rfl) dL_law_832 ⟨(Nat.le_of_ble_eq_true rfl), (Nat.le_of_ble_eq_true rfl)⟩ ⟨show cells + 1 + 4 ≤ room_1.cells by omega, show slots + 6 + 48 ≤ room_1.slots by omega⟩ (fun v9 w9 h9 => ?_) (fun _ h9 => h9.elim)
  obtain ⟨ra9, rfl, rfl⟩ := h9
  refine r_istore C dL_law_835 (by decide) rfl ?_
  refine t_swap3 ?_
  refine r_goto (tgt := 2128) C dL_law_837 (by decide) ?_
  refine r_widen (k := cells + 500) (n := slots + 10000) (show cells + 1 + 4 ≤ cells + 500 by omega) (show slots + 6 + 48 ≤ slots + 10000 by omega) ?_
  refine r_drop 5 ?_
  refine r_drop 6 ?_
  exact kk _ ⟨f', r', hf', hq', kn, ra9, _, sm, _, _, hC', hB', hM', rfl⟩
theorem S_partAt {p : Program} {l : Launch} {e : Env} {s : State} {m : MethodId} {args : Array Value} {below : List Frame} {meth : Method} {c : Code} {D : va_G} {cy : Nat → ClassId} {A : Nat → Prop} {Q : State → Prop} {X : (Nat → Prop) → State → Heap → Prop} {aK aV : Nat → Nat} {tO tT : Nat} {gO gT : Nat → Int32} {a : Nat → Nat → Nat} {ba : Nat → Nat} {o b L i cells slots : Nat} {xs : Nat → Int32} {w : va_W} (C : Fg p s m args meth c cL_law 7 RL D cy A) (hE : X A s s.heap) (hT : EnvT X cy aK aV tO tT gO gT) (hN : EnvN X) (hl : l.stackTraces = false) (hx : va_X b L xs s s.heap) (hbl : b < s.heap.size) (hbA : ¬ A b) (hi : i + 5 ≤ L) (hL : L ≤ 2560) (hc : cells + 500 ≤ room_1.cells) (hs : slots + 10000 ≤ room_1.slots) (hJ : JW cy a ba o w) (kk : ∀ w' : va_W, JW cy a ba o w' → vW p l e room_1 s m args below meth c D vwCl A Q 7 (cells + 500) (slots + 10000) w' [some (.ref b), some (.ref (a 0 0)), some (.ref (ba 9)), some (.ref o), some (.int (nI i)), none, none] 2128 []) : vW p l e room_1 s m args below meth c D vwCl A Q 7 cells slots w [some (.ref b), some (.ref (a 0 0)), some (.ref (ba 9)), some (.ref o), some (.int (nI i)), none, none] 840 [] := by
  have hX := hT.1.1
  obtain ⟨f, r, hf, hq, kn, ra, th, sm, n, v, hC, hB, hM, rfl⟩ := hJ
  refine r_aload_n C dL_law_840 rfl ?_
  refine r_aload_n C dL_law_841 rfl ?_
  refine r_iload C dL_law_842 rfl ?_
  refine r_iconst (v := nI 1) C dL_law_844 (by decide) ?_
  refine r_iaddN C dL_law_845 ?_
  refine r_sld C hx hbl hbA (show i + 1 < L by omega) (by omega) dL_law_846 ?_
  refine r_aload_n C dL_law_847 rfl ?_
  refine r_iload C dL_law_848 rfl ?_
  refine r_iconst (v := nI 2) C dL_law_850 (by decide) ?_
  refine r_iaddN C dL_law_851 ?_
  refine r_sld C hx hbl hbA (show i + 2 < L by omega) (by omega) dL_law_852 ?_
  refine r_aload_n C dL_law_853 rfl ?_
  refine c_SH (st := []) hX.1.stb C hE (W_partAt hX.1 hN hC hB hM (P_partAt hX hl hC hB hM (xs (i + 1)) (xs (i + 2)))) pk_L_partAt qm_L_226 rfl rfl (Nat.le_of_ble_eq_true rfl) dL_law_854 ⟨(Nat.le_of_ble_eq_true rfl), (Nat.le_of_ble_eq_true rfl)⟩ ⟨show cells + 1 ≤ room_1.cells by omega, show slots + 6 ≤ room_1.slots by omega⟩ (fun v9 w9 h9 => ?_) (fun _ h9 => h9.elim)
  obtain ⟨f', r', k, n1, rfl, rfl, hf', hq', n2, hC', hB', hM', hk0, hk4, h2⟩ := h9
  refine r_istore C dL_law_857 (by decide) rfl ?_
  refine r_aload_n C dL_law_859 rfl ?_
  refine r_aload_n C dL_law_860 rfl ?_
  refine r_iload C dL_law_861 rfl ?_
  refine r_iconst (v := nI 1) C dL_law_863 (by decide) ?_
  refine r_iaddN C dL_law_864 ?_
  refine r_sld C hx hbl hbA (show i + 1 < L by omega) (by omega) dL_law_865 ?_
  refine r_aload_n C dL_law_866 rfl ?_
  refine r_iload C dL_law_867 rfl ?_
  refine r_iconst (v := nI 2) C dL_law_869 (by decide) ?_
  refine r_iaddN C dL_law_870 ?_
  refine r_sld C hx hbl hbA (show i + 2 < L by omega) (by omega) dL_law_871 ?_
  refine t_swap3 ?_
  refine c_V (st := []) hX.1.stb C hE (h2 _) pk_X4_partAt qm_L_228 0 8 rfl rfl wm_0 rfl rfl (Nat.le_of_ble_eq_true rfl) dL_law_872 ⟨(Nat.le_of_ble_eq_true rfl), (Nat.le_of_ble_eq_true rfl)⟩ ⟨show cells + 1 + 4 ≤ room_1.cells by omega, show slots + 6 + 48 ≤ room_1.slots by omega⟩ (fun v9 w9 h9 => ?_) (fun _ h9 => h9.elim)
  obtain ⟨ra9, rfl, rfl⟩ := h9
  refine r_istore C dL_law_875 (by decide) rfl ?_
  refine t_swap3 ?_
  refine r_goto (tgt := 2128) C dL_law_877 (by decide) ?_
  refine r_widen (k := cells + 500) (n := slots + 10000) (show cells + 1 + 4 ≤ cells + 500 by omega) (show slots + 6 + 48 ≤ slots + 10000 by omega) ?_
  refine r_drop 5 ?_
  refine r_drop 6 ?_
  exact kk _ ⟨f', r', hf', hq', kn, ra9, _, sm, _, _, hC', hB', hM', rfl⟩
theorem S_fill {p : Program} {l : Launch} {e : Env} {s : State} {m : MethodId} {args : Array Value} {below : List Frame} {meth : Method} {c : Code} {D : va_G} {cy : Nat → ClassId} {A : Nat → Prop} {Q : State → Prop} {X : (Nat → Prop) → State → Heap → Prop} {aK aV : Nat → Nat} {tO tT : Nat} {gO gT : Nat → Int32} {a : Nat → Nat → Nat} {ba : Nat → Nat} {o b L i cells slots : Nat} {xs : Nat → Int32} {w : va_W} (C : Fg p s m args meth c cL_law 7 RL D cy A) (hE : X A s s.heap) (hT : EnvT X cy aK aV tO tT gO gT) (hN : EnvN X) (hl : l.stackTraces = false) (hx : va_X b L xs s s.heap) (hbl : b < s.heap.size) (hbA : ¬ A b) (hi : i + 5 ≤ L) (hL : L ≤ 2560) (hc : cells + 500 ≤ room_1.cells) (hs : slots + 10000 ≤ room_1.slots) (hJ : JW cy a ba o w) (kk : ∀ w' : va_W, JW cy a ba o w' → vW p l e room_1 s m args below meth c D vwCl A Q 7 (cells + 500) (slots + 10000) w' [some (.ref b), some (.ref (a 0 0)), some (.ref (ba 9)), some (.ref o), some (.int (nI i)), none, none] 2128 []) : vW p l e room_1 s m args below meth c D vwCl A Q 7 cells slots w [some (.ref b), some (.ref (a 0 0)), some (.ref (ba 9)), some (.ref o), some (.int (nI i)), none, none] 880 [] := by
  have hX := hT.1.1
  obtain ⟨f, r, hf, hq, kn, ra, th, sm, n, v, hC, hB, hM, rfl⟩ := hJ
  refine r_aload_n C dL_law_880 rfl ?_
  refine r_aload_n C dL_law_881 rfl ?_
  refine r_iload C dL_law_882 rfl ?_
  refine r_iconst (v := nI 1) C dL_law_884 (by decide) ?_
  refine r_iaddN C dL_law_885 ?_
  refine r_sld C hx hbl hbA (show i + 1 < L by omega) (by omega) dL_law_886 ?_
  refine r_aload_n C dL_law_887 rfl ?_
  refine r_iload C dL_law_888 rfl ?_
  refine r_iconst (v := nI 2) C dL_law_890 (by decide) ?_
  refine r_iaddN C dL_law_891 ?_
  refine r_sld C hx hbl hbA (show i + 2 < L by omega) (by omega) dL_law_892 ?_
  refine r_aload_n C dL_law_893 rfl ?_
  refine c_SH (st := []) hX.1.stb C hE (W_fill hX.1 hN hC hB hM (P_fill hX hl hC hB hM (xs (i + 1)) (xs (i + 2)))) pk_L_fill qm_L_229 rfl rfl (Nat.le_of_ble_eq_true rfl) dL_law_894 ⟨(Nat.le_of_ble_eq_true rfl), (Nat.le_of_ble_eq_true rfl)⟩ ⟨show cells + 1 ≤ room_1.cells by omega, show slots + 6 ≤ room_1.slots by omega⟩ (fun v9 w9 h9 => ?_) (fun _ h9 => h9.elim)
  obtain ⟨f', r', k, n1, rfl, rfl, hf', hq', n2, hC', hB', hM', hk0, hk4, h2⟩ := h9
  refine r_istore C dL_law_897 (by decide) rfl ?_
  refine r_aload_n C dL_law_899 rfl ?_
  refine r_aload_n C dL_law_900 rfl ?_
  refine r_iload C dL_law_901 rfl ?_
  refine r_iconst (v := nI 1) C dL_law_903 (by decide) ?_
  refine r_iaddN C dL_law_904 ?_
  refine r_sld C hx hbl hbA (show i + 1 < L by omega) (by omega) dL_law_905 ?_
  refine r_aload_n C dL_law_906 rfl ?_
  refine r_iload C dL_law_907 rfl ?_
  refine r_iconst (v := nI 2) C dL_law_909 (by decide) ?_
  refine r_iaddN C dL_law_910 ?_
  refine r_sld C hx hbl hbA (show i + 2 < L by omega) (by omega) dL_law_911 ?_
  refine t_swap3 ?_
  refine c_V (st := []) hX.1.stb C hE (h2 _) pk_X4_fill qm_L_231 0 8 rfl rfl wm_0 rfl rfl (Nat.le_of_ble_eq_true rfl) dL_law_912 ⟨(Nat.le_of_ble_eq_true rfl), (Nat.le_of_ble_eq_true rfl)⟩ ⟨show cells + 1 + 4 ≤ room_1.cells by omega, show slots + 6 + 48 ≤ room_1.slots by omega⟩ (fun v9 w9 h9 => ?_) (fun _ h9 => h9.elim)
  obtain ⟨ra9, rfl, rfl⟩ := h9
  refine r_istore C dL_law_915 (by decide) rfl ?_
  refine t_swap3 ?_
  refine r_goto (tgt := 2128) C dL_law_917 (by decide) ?_
  refine r_widen (k := cells + 500) (n := slots + 10000) (show cells + 1 + 4 ≤ cells + 500 by omega) (show slots + 6 + 48 ≤ slots + 10000 by omega) ?_
  refine r_drop 5 ?_
  refine r_drop 6 ?_
  exact kk _ ⟨f', r', hf', hq', kn, ra9, _, sm, _, _, hC', hB', hM', rfl⟩
theorem S_removeItem {p : Program} {l : Launch} {e : Env} {s : State} {m : MethodId} {args : Array Value} {below : List Frame} {meth : Method} {c : Code} {D : va_G} {cy : Nat → ClassId} {A : Nat → Prop} {Q : State → Prop} {X : (Nat → Prop) → State → Heap → Prop} {aK aV : Nat → Nat} {tO tT : Nat} {gO gT : Nat → Int32} {a : Nat → Nat → Nat} {ba : Nat → Nat} {o b L i cells slots : Nat} {xs : Nat → Int32} {w : va_W} (C : Fg p s m args meth c cL_law 7 RL D cy A) (hE : X A s s.heap) (hT : EnvT X cy aK aV tO tT gO gT) (hN : EnvN X) (hl : l.stackTraces = false) (hx : va_X b L xs s s.heap) (hbl : b < s.heap.size) (hbA : ¬ A b) (hi : i + 5 ≤ L) (hL : L ≤ 2560) (hc : cells + 500 ≤ room_1.cells) (hs : slots + 10000 ≤ room_1.slots) (hJ : JW cy a ba o w) (kk : ∀ w' : va_W, JW cy a ba o w' → vW p l e room_1 s m args below meth c D vwCl A Q 7 (cells + 500) (slots + 10000) w' [some (.ref b), some (.ref (a 0 0)), some (.ref (ba 9)), some (.ref o), some (.int (nI i)), none, none] 2128 []) : vW p l e room_1 s m args below meth c D vwCl A Q 7 cells slots w [some (.ref b), some (.ref (a 0 0)), some (.ref (ba 9)), some (.ref o), some (.int (nI i)), none, none] 920 [] := by
  have hX := hT.1.1
  obtain ⟨f, r, hf, hq, kn, ra, th, sm, n, v, hC, hB, hM, rfl⟩ := hJ
  refine r_aload_n C dL_law_920 rfl ?_
  refine r_aload_n C dL_law_921 rfl ?_
  refine r_iload C dL_law_922 rfl ?_
  refine r_iconst (v := nI 1) C dL_law_924 (by decide) ?_
  refine r_iaddN C dL_law_925 ?_
  refine r_sld C hx hbl hbA (show i + 1 < L by omega) (by omega) dL_law_926 ?_
  refine r_aload_n C dL_law_927 rfl ?_
  refine r_iload C dL_law_928 rfl ?_
  refine r_iconst (v := nI 2) C dL_law_930 (by decide) ?_
  refine r_iaddN C dL_law_931 ?_
  refine r_sld C hx hbl hbA (show i + 2 < L by omega) (by omega) dL_law_932 ?_
  refine r_aload_n C dL_law_933 rfl ?_
  refine c_SH (st := []) hX.1.stb C hE (W_removeItem hX.1 hN hC hB hM (P_removeItem hX hl hC hB hM (xs (i + 1)) (xs (i + 2)))) pk_L_removeItem qm_L_232 rfl rfl (Nat.le_of_ble_eq_true rfl) dL_law_934 ⟨(Nat.le_of_ble_eq_true rfl), (Nat.le_of_ble_eq_true rfl)⟩ ⟨show cells + 1 ≤ room_1.cells by omega, show slots + 6 ≤ room_1.slots by omega⟩ (fun v9 w9 h9 => ?_) (fun _ h9 => h9.elim)
  obtain ⟨f', r', k, n1, rfl, rfl, hf', hq', n2, hC', hB', hM', hk0, hk4, h2⟩ := h9
  refine r_istore C dL_law_937 (by decide) rfl ?_
  refine r_aload_n C dL_law_939 rfl ?_
  refine r_aload_n C dL_law_940 rfl ?_
  refine r_iload C dL_law_941 rfl ?_
  refine r_iconst (v := nI 1) C dL_law_943 (by decide) ?_
  refine r_iaddN C dL_law_944 ?_
  refine r_sld C hx hbl hbA (show i + 1 < L by omega) (by omega) dL_law_945 ?_
  refine r_aload_n C dL_law_946 rfl ?_
  refine r_iload C dL_law_947 rfl ?_
  refine r_iconst (v := nI 2) C dL_law_949 (by decide) ?_
  refine r_iaddN C dL_law_950 ?_
  refine r_sld C hx hbl hbA (show i + 2 < L by omega) (by omega) dL_law_951 ?_
  refine t_swap3 ?_
  refine c_V (st := []) hX.1.stb C hE (h2 _) pk_X4_removeItem qm_L_234 0 8 rfl rfl wm_0 rfl rfl (Nat.le_of_ble_eq_true rfl) dL_law_952 ⟨(Nat.le_of_ble_eq_true rfl), (Nat.le_of_ble_eq_true rfl)⟩ ⟨show cells + 1 + 4 ≤ room_1.cells by omega, show slots + 6 + 48 ≤ room_1.slots by omega⟩ (fun v9 w9 h9 => ?_) (fun _ h9 => h9.elim)
  obtain ⟨ra9, rfl, rfl⟩ := h9
  refine r_istore C dL_law_955 (by decide) rfl ?_
  refine t_swap3 ?_
  refine r_goto (tgt := 2128) C dL_law_957 (by decide) ?_
  refine r_widen (k := cells + 500) (n := slots + 10000) (show cells + 1 + 4 ≤ cells + 500 by omega) (show slots + 6 + 48 ≤ slots + 10000 by omega) ?_
  refine r_drop 5 ?_
  refine r_drop 6 ?_
  exact kk _ ⟨f', r', hf', hq', kn, ra9, _, sm, _, _, hC', hB', hM', rfl⟩
theorem S_addAll {p : Program} {l : Launch} {e : Env} {s : State} {m : MethodId} {args : Array Value} {below : List Frame} {meth : Method} {c : Code} {D : va_G} {cy : Nat → ClassId} {A : Nat → Prop} {Q : State → Prop} {X : (Nat → Prop) → State → Heap → Prop} {aK aV : Nat → Nat} {tO tT : Nat} {gO gT : Nat → Int32} {a : Nat → Nat → Nat} {ba : Nat → Nat} {o b L i cells slots : Nat} {xs : Nat → Int32} {w : va_W} (C : Fg p s m args meth c cL_law 7 RL D cy A) (hE : X A s s.heap) (hT : EnvT X cy aK aV tO tT gO gT) (hN : EnvN X) (hl : l.stackTraces = false) (hx : va_X b L xs s s.heap) (hbl : b < s.heap.size) (hbA : ¬ A b) (hi : i + 5 ≤ L) (hL : L ≤ 2560) (hc : cells + 500 ≤ room_1.cells) (hs : slots + 10000 ≤ room_1.slots) (hJ : JW cy a ba o w) (kk : ∀ w' : va_W, JW cy a ba o w' → vW p l e room_1 s m args below meth c D vwCl A Q 7 (cells + 500) (slots + 10000) w' [some (.ref b), some (.ref (a 0 0)), some (.ref (ba 9)), some (.ref o), some (.int (nI i)), none, none] 2128 []) : vW p l e room_1 s m args below meth c D vwCl A Q 7 cells slots w [some (.ref b), some (.ref (a 0 0)), some (.ref (ba 9)), some (.ref o), some (.int (nI i)), none, none] 960 [] := by
  have hX := hT.1.1
  obtain ⟨f, r, hf, hq, kn, ra, th, sm, n, v, hC, hB, hM, rfl⟩ := hJ
  refine r_aload_n C dL_law_960 rfl ?_
  refine r_aload_n C dL_law_961 rfl ?_
  refine r_iload C dL_law_962 rfl ?_
  refine r_iconst (v := nI 1) C dL_law_964 (by decide) ?_
  refine r_iaddN C dL_law_965 ?_
  refine r_sld C hx hbl hbA (show i + 1 < L by omega) (by omega) dL_law_966 ?_
  refine r_aload_n C dL_law_967 rfl ?_
  refine r_iload C dL_law_968 rfl ?_
  refine r_iconst (v := nI 2) C dL_law_970 (by decide) ?_
  refine r_iaddN C dL_law_971 ?_
  refine r_sld C hx hbl hbA (show i + 2 < L by omega) (by omega) dL_law_972 ?_
  refine r_aload_n C dL_law_973 rfl ?_
  refine r_iload C dL_law_974 rfl ?_
  refine r_iconst (v := nI 3) C dL_law_976 (by decide) ?_
  refine r_iaddN C dL_law_977 ?_
  refine r_sld C hx hbl hbA (show i + 3 < L by omega) (by omega) dL_law_978 ?_
  refine r_aload_n C dL_law_979 rfl ?_
  refine c_SH (st := []) hX.1.stb C hE (W_addAll hX.1 hN hC hB hM (P_addAll hX hl hC hB hM (xs (i + 1)) (xs (i + 2)) (xs (i + 3)))) pk_L_addAll qm_L_235 rfl rfl (Nat.le_of_ble_eq_true rfl) dL_law_980 ⟨(Nat.le_of_ble_eq_true rfl), (Nat.le_of_ble_eq_true rfl)⟩ ⟨show cells + 1 ≤ room_1.cells by omega, show slots + 6 ≤ room_1.slots by omega⟩ (fun v9 w9 h9 => ?_) (fun _ h9 => h9.elim)
  obtain ⟨f', r', k, n1, rfl, rfl, hf', hq', n2, hC', hB', hM', hk0, hk4, h2⟩ := h9
  refine r_istore C dL_law_983 (by decide) rfl ?_
  refine r_aload_n C dL_law_985 rfl ?_
  refine r_aload_n C dL_law_986 rfl ?_
  refine r_iload C dL_law_987 rfl ?_
  refine r_iconst (v := nI 1) C dL_law_989 (by decide) ?_
  refine r_iaddN C dL_law_990 ?_
  refine r_sld C hx hbl hbA (show i + 1 < L by omega) (by omega) dL_law_991 ?_
  refine r_aload_n C dL_law_992 rfl ?_
  refine r_iload C dL_law_993 rfl ?_
  refine r_iconst (v := nI 2) C dL_law_995 (by decide) ?_
  refine r_iaddN C dL_law_996 ?_
  refine r_sld C hx hbl hbA (show i + 2 < L by omega) (by omega) dL_law_997 ?_
  refine r_aload_n C dL_law_998 rfl ?_
  refine r_iload C dL_law_999 rfl ?_
  refine r_iconst (v := nI 3) C dL_law_1001 (by decide) ?_
  refine r_iaddN C dL_law_1002 ?_
  refine r_sld C hx hbl hbA (show i + 3 < L by omega) (by omega) dL_law_1003 ?_
  refine t_swap3 ?_
  refine c_V (st := []) hX.1.stb C hE (h2 _) pk_X4_addAll qm_L_237 0 8 rfl rfl wm_0 rfl rfl (Nat.le_of_ble_eq_true rfl) dL_law_1004 ⟨(Nat.le_of_ble_eq_true rfl), (Nat.le_of_ble_eq_true rfl)⟩ ⟨show cells + 1 + 4 ≤ room_1.cells by omega, show slots + 6 + 48 ≤ room_1.slots by omega⟩ (fun v9 w9 h9 => ?_) (fun _ h9 => h9.elim)
  obtain ⟨ra9, rfl, rfl⟩ := h9
  refine r_istore C dL_law_1007 (by decide) rfl ?_
  refine t_swap3 ?_
  refine r_goto (tgt := 2128) C dL_law_1009 (by decide) ?_
  refine r_widen (k := cells + 500) (n := slots + 10000) (show cells + 1 + 4 ≤ cells + 500 by omega) (show slots + 6 + 48 ≤ slots + 10000 by omega) ?_
  refine r_drop 5 ?_
  refine r_drop 6 ?_
  exact kk _ ⟨f', r', hf', hq', kn, ra9, _, sm, _, _, hC', hB', hM', rfl⟩
theorem S_removeAll {p : Program} {l : Launch} {e : Env} {s : State} {m : MethodId} {args : Array Value} {below : List Frame} {meth : Method} {c : Code} {D : va_G} {cy : Nat → ClassId} {A : Nat → Prop} {Q : State → Prop} {X : (Nat → Prop) → State → Heap → Prop} {aK aV : Nat → Nat} {tO tT : Nat} {gO gT : Nat → Int32} {a : Nat → Nat → Nat} {ba : Nat → Nat} {o b L i cells slots : Nat} {xs : Nat → Int32} {w : va_W} (C : Fg p s m args meth c cL_law 7 RL D cy A) (hE : X A s s.heap) (hT : EnvT X cy aK aV tO tT gO gT) (hN : EnvN X) (hl : l.stackTraces = false) (hx : va_X b L xs s s.heap) (hbl : b < s.heap.size) (hbA : ¬ A b) (hi : i + 5 ≤ L) (hL : L ≤ 2560) (hc : cells + 500 ≤ room_1.cells) (hs : slots + 10000 ≤ room_1.slots) (hJ : JW cy a ba o w) (kk : ∀ w' : va_W, JW cy a ba o w' → vW p l e room_1 s m args below meth c D vwCl A Q 7 (cells + 500) (slots + 10000) w' [some (.ref b), some (.ref (a 0 0)), some (.ref (ba 9)), some (.ref o), some (.int (nI i)), none, none] 2128 []) : vW p l e room_1 s m args below meth c D vwCl A Q 7 cells slots w [some (.ref b), some (.ref (a 0 0)), some (.ref (ba 9)), some (.ref o), some (.int (nI i)), none, none] 1012 [] := by
  have hX := hT.1.1
  obtain ⟨f, r, hf, hq, kn, ra, th, sm, n, v, hC, hB, hM, rfl⟩ := hJ
  refine r_aload_n C dL_law_1012 rfl ?_
  refine r_aload_n C dL_law_1013 rfl ?_
  refine r_iload C dL_law_1014 rfl ?_
  refine r_iconst (v := nI 1) C dL_law_1016 (by decide) ?_
  refine r_iaddN C dL_law_1017 ?_
  refine r_sld C hx hbl hbA (show i + 1 < L by omega) (by omega) dL_law_1018 ?_
  refine r_aload_n C dL_law_1019 rfl ?_
  refine r_iload C dL_law_1020 rfl ?_
  refine r_iconst (v := nI 2) C dL_law_1022 (by decide) ?_
  refine r_iaddN C dL_law_1023 ?_
  refine r_sld C hx hbl hbA (show i + 2 < L by omega) (by omega) dL_law_1024 ?_
  refine r_aload_n C dL_law_1025 rfl ?_
  refine c_SH (st := []) hX.1.stb C hE (W_removeAll hX.1 hN hC hB hM (P_removeAll hX hl hC hB hM (xs (i + 1)) (xs (i + 2)))) pk_L_removeAll qm_L_238 rfl rfl (Nat.le_of_ble_eq_true rfl) dL_law_1026 ⟨(Nat.le_of_ble_eq_true rfl), (Nat.le_of_ble_eq_true rfl)⟩ ⟨show cells + 1 ≤ room_1.cells by omega, show slots + 6 ≤ room_1.slots by omega⟩ (fun v9 w9 h9 => ?_) (fun _ h9 => h9.elim)
  obtain ⟨f', r', k, n1, rfl, rfl, hf', hq', n2, hC', hB', hM', hk0, hk4, h2⟩ := h9
  refine r_istore C dL_law_1029 (by decide) rfl ?_
  refine r_aload_n C dL_law_1031 rfl ?_
  refine r_aload_n C dL_law_1032 rfl ?_
  refine r_iload C dL_law_1033 rfl ?_
  refine r_iconst (v := nI 1) C dL_law_1035 (by decide) ?_
  refine r_iaddN C dL_law_1036 ?_
  refine r_sld C hx hbl hbA (show i + 1 < L by omega) (by omega) dL_law_1037 ?_
  refine r_aload_n C dL_law_1038 rfl ?_
  refine r_iload C dL_law_1039 rfl ?_
  refine r_iconst (v := nI 2) C dL_law_1041 (by decide) ?_
  refine r_iaddN C dL_law_1042 ?_
  refine r_sld C hx hbl hbA (show i + 2 < L by omega) (by omega) dL_law_1043 ?_
  refine t_swap3 ?_
  refine c_V (st := []) hX.1.stb C hE (h2 _) pk_X4_removeAll qm_L_240 0 8 rfl rfl wm_0 rfl rfl (Nat.le_of_ble_eq_true rfl) dL_law_1044 ⟨(Nat.le_of_ble_eq_true rfl), (Nat.le_of_ble_eq_true rfl)⟩ ⟨show cells + 1 + 20 ≤ room_1.cells by omega, show slots + 6 + 190 ≤ room_1.slots by omega⟩ (fun v9 w9 h9 => ?_) (fun _ h9 => h9.elim)
  obtain ⟨ra9, rfl, rfl⟩ := h9
  refine r_istore C dL_law_1047 (by decide) rfl ?_
  refine t_swap3 ?_
  refine r_goto (tgt := 2128) C dL_law_1049 (by decide) ?_
  refine r_widen (k := cells + 500) (n := slots + 10000) (show cells + 1 + 20 ≤ cells + 500 by omega) (show slots + 6 + 190 ≤ slots + 10000 by omega) ?_
  refine r_drop 5 ?_
  refine r_drop 6 ?_
  exact kk _ ⟨f', r', hf', hq', kn, ra9, _, sm, _, _, hC', hB', hM', rfl⟩
theorem S_retainAll {p : Program} {l : Launch} {e : Env} {s : State} {m : MethodId} {args : Array Value} {below : List Frame} {meth : Method} {c : Code} {D : va_G} {cy : Nat → ClassId} {A : Nat → Prop} {Q : State → Prop} {X : (Nat → Prop) → State → Heap → Prop} {aK aV : Nat → Nat} {tO tT : Nat} {gO gT : Nat → Int32} {a : Nat → Nat → Nat} {ba : Nat → Nat} {o b L i cells slots : Nat} {xs : Nat → Int32} {w : va_W} (C : Fg p s m args meth c cL_law 7 RL D cy A) (hE : X A s s.heap) (hT : EnvT X cy aK aV tO tT gO gT) (hN : EnvN X) (hl : l.stackTraces = false) (hx : va_X b L xs s s.heap) (hbl : b < s.heap.size) (hbA : ¬ A b) (hi : i + 5 ≤ L) (hL : L ≤ 2560) (hc : cells + 500 ≤ room_1.cells) (hs : slots + 10000 ≤ room_1.slots) (hJ : JW cy a ba o w) (kk : ∀ w' : va_W, JW cy a ba o w' → vW p l e room_1 s m args below meth c D vwCl A Q 7 (cells + 500) (slots + 10000) w' [some (.ref b), some (.ref (a 0 0)), some (.ref (ba 9)), some (.ref o), some (.int (nI i)), none, none] 2128 []) : vW p l e room_1 s m args below meth c D vwCl A Q 7 cells slots w [some (.ref b), some (.ref (a 0 0)), some (.ref (ba 9)), some (.ref o), some (.int (nI i)), none, none] 1052 [] := by
  have hX := hT.1.1
  obtain ⟨f, r, hf, hq, kn, ra, th, sm, n, v, hC, hB, hM, rfl⟩ := hJ
  refine r_aload_n C dL_law_1052 rfl ?_
  refine r_aload_n C dL_law_1053 rfl ?_
  refine r_iload C dL_law_1054 rfl ?_
  refine r_iconst (v := nI 1) C dL_law_1056 (by decide) ?_
  refine r_iaddN C dL_law_1057 ?_
  refine r_sld C hx hbl hbA (show i + 1 < L by omega) (by omega) dL_law_1058 ?_
  refine r_aload_n C dL_law_1059 rfl ?_
  refine r_iload C dL_law_1060 rfl ?_
  refine r_iconst (v := nI 2) C dL_law_1062 (by decide) ?_
  refine r_iaddN C dL_law_1063 ?_
  refine r_sld C hx hbl hbA (show i + 2 < L by omega) (by omega) dL_law_1064 ?_
  refine r_aload_n C dL_law_1065 rfl ?_
  refine c_SH (st := []) hX.1.stb C hE (W_retainAll hX.1 hN hC hB hM (P_retainAll hX hl hC hB hM (xs (i + 1)) (xs (i + 2)))) pk_L_retainAll qm_L_241 rfl rfl (Nat.le_of_ble_eq_true rfl) dL_law_1066 ⟨(Nat.le_of_ble_eq_true rfl), (Nat.le_of_ble_eq_true rfl)⟩ ⟨show cells + 1 ≤ room_1.cells by omega, show slots + 6 ≤ room_1.slots by omega⟩ (fun v9 w9 h9 => ?_) (fun _ h9 => h9.elim)
  obtain ⟨f', r', k, n1, rfl, rfl, hf', hq', n2, hC', hB', hM', hk0, hk4, h2⟩ := h9
  refine r_istore C dL_law_1069 (by decide) rfl ?_
  refine r_aload_n C dL_law_1071 rfl ?_
  refine r_aload_n C dL_law_1072 rfl ?_
  refine r_iload C dL_law_1073 rfl ?_
  refine r_iconst (v := nI 1) C dL_law_1075 (by decide) ?_
  refine r_iaddN C dL_law_1076 ?_
  refine r_sld C hx hbl hbA (show i + 1 < L by omega) (by omega) dL_law_1077 ?_
  refine r_aload_n C dL_law_1078 rfl ?_
  refine r_iload C dL_law_1079 rfl ?_
  refine r_iconst (v := nI 2) C dL_law_1081 (by decide) ?_
  refine r_iaddN C dL_law_1082 ?_
  refine r_sld C hx hbl hbA (show i + 2 < L by omega) (by omega) dL_law_1083 ?_
  refine t_swap3 ?_
  refine c_V (st := []) hX.1.stb C hE (h2 _) pk_X4_retainAll qm_L_243 0 8 rfl rfl wm_0 rfl rfl (Nat.le_of_ble_eq_true rfl) dL_law_1084 ⟨(Nat.le_of_ble_eq_true rfl), (Nat.le_of_ble_eq_true rfl)⟩ ⟨show cells + 1 + 20 ≤ room_1.cells by omega, show slots + 6 + 190 ≤ room_1.slots by omega⟩ (fun v9 w9 h9 => ?_) (fun _ h9 => h9.elim)
  obtain ⟨ra9, rfl, rfl⟩ := h9
  refine r_istore C dL_law_1087 (by decide) rfl ?_
  refine t_swap3 ?_
  refine r_goto (tgt := 2128) C dL_law_1089 (by decide) ?_
  refine r_widen (k := cells + 500) (n := slots + 10000) (show cells + 1 + 20 ≤ cells + 500 by omega) (show slots + 6 + 190 ≤ slots + 10000 by omega) ?_
  refine r_drop 5 ?_
  refine r_drop 6 ?_
  exact kk _ ⟨f', r', hf', hq', kn, ra9, _, sm, _, _, hC', hB', hM', rfl⟩
theorem S_copy {p : Program} {l : Launch} {e : Env} {s : State} {m : MethodId} {args : Array Value} {below : List Frame} {meth : Method} {c : Code} {D : va_G} {cy : Nat → ClassId} {A : Nat → Prop} {Q : State → Prop} {X : (Nat → Prop) → State → Heap → Prop} {aK aV : Nat → Nat} {tO tT : Nat} {gO gT : Nat → Int32} {a : Nat → Nat → Nat} {ba : Nat → Nat} {o b L i cells slots : Nat} {xs : Nat → Int32} {w : va_W} (C : Fg p s m args meth c cL_law 7 RL D cy A) (hE : X A s s.heap) (hT : EnvT X cy aK aV tO tT gO gT) (hN : EnvN X) (hl : l.stackTraces = false) (hx : va_X b L xs s s.heap) (hbl : b < s.heap.size) (hbA : ¬ A b) (hi : i + 5 ≤ L) (hL : L ≤ 2560) (hc : cells + 500 ≤ room_1.cells) (hs : slots + 10000 ≤ room_1.slots) (hJ : JW cy a ba o w) (kk : ∀ w' : va_W, JW cy a ba o w' → vW p l e room_1 s m args below meth c D vwCl A Q 7 (cells + 500) (slots + 10000) w' [some (.ref b), some (.ref (a 0 0)), some (.ref (ba 9)), some (.ref o), some (.int (nI i)), none, none] 2128 []) : vW p l e room_1 s m args below meth c D vwCl A Q 7 cells slots w [some (.ref b), some (.ref (a 0 0)), some (.ref (ba 9)), some (.ref o), some (.int (nI i)), none, none] 1092 [] := by
  have hX := hT.1.1
  obtain ⟨f, r, hf, hq, kn, ra, th, sm, n, v, hC, hB, hM, rfl⟩ := hJ
  refine r_aload_n C dL_law_1092 rfl ?_
  refine r_aload_n C dL_law_1093 rfl ?_
  refine r_iload C dL_law_1094 rfl ?_
  refine r_iconst (v := nI 1) C dL_law_1096 (by decide) ?_
  refine r_iaddN C dL_law_1097 ?_
  refine r_sld C hx hbl hbA (show i + 1 < L by omega) (by omega) dL_law_1098 ?_
  refine r_aload_n C dL_law_1099 rfl ?_
  refine r_iload C dL_law_1100 rfl ?_
  refine r_iconst (v := nI 2) C dL_law_1102 (by decide) ?_
  refine r_iaddN C dL_law_1103 ?_
  refine r_sld C hx hbl hbA (show i + 2 < L by omega) (by omega) dL_law_1104 ?_
  refine r_aload_n C dL_law_1105 rfl ?_
  refine c_SH (st := []) hX.1.stb C hE (W_copy hX.1 hN hC hB hM (P_copy hX hl hC hB hM (xs (i + 1)) (xs (i + 2)))) pk_L_copy qm_L_244 rfl rfl (Nat.le_of_ble_eq_true rfl) dL_law_1106 ⟨(Nat.le_of_ble_eq_true rfl), (Nat.le_of_ble_eq_true rfl)⟩ ⟨show cells + 1 ≤ room_1.cells by omega, show slots + 6 ≤ room_1.slots by omega⟩ (fun v9 w9 h9 => ?_) (fun _ h9 => h9.elim)
  obtain ⟨f', r', k, n1, rfl, rfl, hf', hq', n2, hC', hB', hM', hk0, hk4, h2⟩ := h9
  refine r_istore C dL_law_1109 (by decide) rfl ?_
  refine r_aload_n C dL_law_1111 rfl ?_
  refine r_aload_n C dL_law_1112 rfl ?_
  refine r_iload C dL_law_1113 rfl ?_
  refine r_iconst (v := nI 1) C dL_law_1115 (by decide) ?_
  refine r_iaddN C dL_law_1116 ?_
  refine r_sld C hx hbl hbA (show i + 1 < L by omega) (by omega) dL_law_1117 ?_
  refine r_aload_n C dL_law_1118 rfl ?_
  refine r_iload C dL_law_1119 rfl ?_
  refine r_iconst (v := nI 2) C dL_law_1121 (by decide) ?_
  refine r_iaddN C dL_law_1122 ?_
  refine r_sld C hx hbl hbA (show i + 2 < L by omega) (by omega) dL_law_1123 ?_
  refine t_swap3 ?_
  refine c_V (st := []) hX.1.stb C hE (h2 _) pk_X4_copy qm_L_246 0 8 rfl rfl wm_0 rfl rfl (Nat.le_of_ble_eq_true rfl) dL_law_1124 ⟨(Nat.le_of_ble_eq_true rfl), (Nat.le_of_ble_eq_true rfl)⟩ ⟨show cells + 1 + 4 ≤ room_1.cells by omega, show slots + 6 + 48 ≤ room_1.slots by omega⟩ (fun v9 w9 h9 => ?_) (fun _ h9 => h9.elim)
  obtain ⟨ra9, rfl, rfl⟩ := h9
  refine r_istore C dL_law_1127 (by decide) rfl ?_
  refine t_swap3 ?_
  refine r_goto (tgt := 2128) C dL_law_1129 (by decide) ?_
  refine r_widen (k := cells + 500) (n := slots + 10000) (show cells + 1 + 4 ≤ cells + 500 by omega) (show slots + 6 + 48 ≤ slots + 10000 by omega) ?_
  refine r_drop 5 ?_
  refine r_drop 6 ?_
  exact kk _ ⟨f', r', hf', hq', kn, ra9, _, sm, _, _, hC', hB', hM', rfl⟩
theorem S_places {p : Program} {l : Launch} {e : Env} {s : State} {m : MethodId} {args : Array Value} {below : List Frame} {meth : Method} {c : Code} {D : va_G} {cy : Nat → ClassId} {A : Nat → Prop} {Q : State → Prop} {X : (Nat → Prop) → State → Heap → Prop} {aK aV : Nat → Nat} {tO tT : Nat} {gO gT : Nat → Int32} {a : Nat → Nat → Nat} {ba : Nat → Nat} {o b L i cells slots : Nat} {xs : Nat → Int32} {w : va_W} (C : Fg p s m args meth c cL_law 7 RL D cy A) (hE : X A s s.heap) (hT : EnvT X cy aK aV tO tT gO gT) (hN : EnvN X) (hl : l.stackTraces = false) (hx : va_X b L xs s s.heap) (hbl : b < s.heap.size) (hbA : ¬ A b) (hi : i + 5 ≤ L) (hL : L ≤ 2560) (hc : cells + 500 ≤ room_1.cells) (hs : slots + 10000 ≤ room_1.slots) (hJ : JW cy a ba o w) (kk : ∀ w' : va_W, JW cy a ba o w' → vW p l e room_1 s m args below meth c D vwCl A Q 7 (cells + 500) (slots + 10000) w' [some (.ref b), some (.ref (a 0 0)), some (.ref (ba 9)), some (.ref o), some (.int (nI i)), none, none] 2128 []) : vW p l e room_1 s m args below meth c D vwCl A Q 7 cells slots w [some (.ref b), some (.ref (a 0 0)), some (.ref (ba 9)), some (.ref o), some (.int (nI i)), none, none] 1132 [] := by
  have hX := hT.1.1
  obtain ⟨f, r, hf, hq, kn, ra, th, sm, n, v, hC, hB, hM, rfl⟩ := hJ
  refine r_aload_n C dL_law_1132 rfl ?_
  refine r_aload_n C dL_law_1133 rfl ?_
  refine r_iload C dL_law_1134 rfl ?_
  refine r_iconst (v := nI 1) C dL_law_1136 (by decide) ?_
  refine r_iaddN C dL_law_1137 ?_
  refine r_sld C hx hbl hbA (show i + 1 < L by omega) (by omega) dL_law_1138 ?_
  refine r_aload_n C dL_law_1139 rfl ?_
  refine r_iload C dL_law_1140 rfl ?_
  refine r_iconst (v := nI 2) C dL_law_1142 (by decide) ?_
  refine r_iaddN C dL_law_1143 ?_
  refine r_sld C hx hbl hbA (show i + 2 < L by omega) (by omega) dL_law_1144 ?_
  refine r_aload_n C dL_law_1145 rfl ?_
  refine c_SH (st := []) hX.1.stb C hE (W_places hX.1 hN hC hB hM (P_places hX hl hC hB hM (xs (i + 1)) (xs (i + 2)))) pk_L_places qm_L_247 rfl rfl (Nat.le_of_ble_eq_true rfl) dL_law_1146 ⟨(Nat.le_of_ble_eq_true rfl), (Nat.le_of_ble_eq_true rfl)⟩ ⟨show cells + 1 ≤ room_1.cells by omega, show slots + 6 ≤ room_1.slots by omega⟩ (fun v9 w9 h9 => ?_) (fun _ h9 => h9.elim)
  obtain ⟨f', r', k, n1, rfl, rfl, hf', hq', n2, hC', hB', hM', hk0, hk4, h2⟩ := h9
  refine r_istore C dL_law_1149 (by decide) rfl ?_
  refine r_aload_n C dL_law_1151 rfl ?_
  refine r_aload_n C dL_law_1152 rfl ?_
  refine r_iload C dL_law_1153 rfl ?_
  refine r_iconst (v := nI 1) C dL_law_1155 (by decide) ?_
  refine r_iaddN C dL_law_1156 ?_
  refine r_sld C hx hbl hbA (show i + 1 < L by omega) (by omega) dL_law_1157 ?_
  refine r_aload_n C dL_law_1158 rfl ?_
  refine r_iload C dL_law_1159 rfl ?_
  refine r_iconst (v := nI 2) C dL_law_1161 (by decide) ?_
  refine r_iaddN C dL_law_1162 ?_
  refine r_sld C hx hbl hbA (show i + 2 < L by omega) (by omega) dL_law_1163 ?_
  refine t_swap3 ?_
  refine c_V (st := []) hX.1.stb C hE (h2 _) pk_X4_places qm_L_249 0 8 rfl rfl wm_0 rfl rfl (Nat.le_of_ble_eq_true rfl) dL_law_1164 ⟨(Nat.le_of_ble_eq_true rfl), (Nat.le_of_ble_eq_true rfl)⟩ ⟨show cells + 1 + 4 ≤ room_1.cells by omega, show slots + 6 + 48 ≤ room_1.slots by omega⟩ (fun v9 w9 h9 => ?_) (fun _ h9 => h9.elim)
  obtain ⟨ra9, rfl, rfl⟩ := h9
  refine r_istore C dL_law_1167 (by decide) rfl ?_
  refine t_swap3 ?_
  refine r_goto (tgt := 2128) C dL_law_1169 (by decide) ?_
  refine r_widen (k := cells + 500) (n := slots + 10000) (show cells + 1 + 4 ≤ cells + 500 by omega) (show slots + 6 + 48 ≤ slots + 10000 by omega) ?_
  refine r_drop 5 ?_
  refine r_drop 6 ?_
  exact kk _ ⟨f', r', hf', hq', kn, ra9, _, sm, _, _, hC', hB', hM', rfl⟩
theorem S_through {p : Program} {l : Launch} {e : Env} {s : State} {m : MethodId} {args : Array Value} {below : List Frame} {meth : Method} {c : Code} {D : va_G} {cy : Nat → ClassId} {A : Nat → Prop} {Q : State → Prop} {X : (Nat → Prop) → State → Heap → Prop} {aK aV : Nat → Nat} {tO tT : Nat} {gO gT : Nat → Int32} {a : Nat → Nat → Nat} {ba : Nat → Nat} {o b L i cells slots : Nat} {xs : Nat → Int32} {w : va_W} (C : Fg p s m args meth c cL_law 7 RL D cy A) (hE : X A s s.heap) (hT : EnvT X cy aK aV tO tT gO gT) (hN : EnvN X) (hl : l.stackTraces = false) (hx : va_X b L xs s s.heap) (hbl : b < s.heap.size) (hbA : ¬ A b) (hi : i + 5 ≤ L) (hL : L ≤ 2560) (hc : cells + 500 ≤ room_1.cells) (hs : slots + 10000 ≤ room_1.slots) (hJ : JW cy a ba o w) (kk : ∀ w' : va_W, JW cy a ba o w' → vW p l e room_1 s m args below meth c D vwCl A Q 7 (cells + 500) (slots + 10000) w' [some (.ref b), some (.ref (a 0 0)), some (.ref (ba 9)), some (.ref o), some (.int (nI i)), none, none] 2128 []) : vW p l e room_1 s m args below meth c D vwCl A Q 7 cells slots w [some (.ref b), some (.ref (a 0 0)), some (.ref (ba 9)), some (.ref o), some (.int (nI i)), none, none] 1172 [] := by
  have hX := hT.1.1
  obtain ⟨f, r, hf, hq, kn, ra, th, sm, n, v, hC, hB, hM, rfl⟩ := hJ
  refine r_aload_n C dL_law_1172 rfl ?_
  refine r_aload_n C dL_law_1173 rfl ?_
  refine r_iload C dL_law_1174 rfl ?_
  refine r_iconst (v := nI 1) C dL_law_1176 (by decide) ?_
  refine r_iaddN C dL_law_1177 ?_
  refine r_sld C hx hbl hbA (show i + 1 < L by omega) (by omega) dL_law_1178 ?_
  refine r_aload_n C dL_law_1179 rfl ?_
  refine r_iload C dL_law_1180 rfl ?_
  refine r_iconst (v := nI 2) C dL_law_1182 (by decide) ?_
  refine r_iaddN C dL_law_1183 ?_
  refine r_sld C hx hbl hbA (show i + 2 < L by omega) (by omega) dL_law_1184 ?_
  refine r_aload_n C dL_law_1185 rfl ?_
  refine r_iload C dL_law_1186 rfl ?_
  refine r_iconst (v := nI 3) C dL_law_1188 (by decide) ?_
  refine r_iaddN C dL_law_1189 ?_
  refine r_sld C hx hbl hbA (show i + 3 < L by omega) (by omega) dL_law_1190 ?_
  refine r_aload_n C dL_law_1191 rfl ?_
  refine c_SH (st := []) hX.1.stb C hE (W_through hX.1 hN hC hB hM (P_through hX hl hC hB hM (xs (i + 1)) (xs (i + 2)) (xs (i + 3)))) pk_L_through qm_L_250 rfl rfl (Nat.le_of_ble_eq_true rfl) dL_law_1192 ⟨(Nat.le_of_ble_eq_true rfl), (Nat.le_of_ble_eq_true rfl)⟩ ⟨show cells + 1 ≤ room_1.cells by omega, show slots + 6 ≤ room_1.slots by omega⟩ (fun v9 w9 h9 => ?_) (fun _ h9 => h9.elim)
  obtain ⟨f', r', k, n1, rfl, rfl, hf', hq', n2, hC', hB', hM', hk0, hk4, h2⟩ := h9
  refine r_istore C dL_law_1195 (by decide) rfl ?_
  refine r_aload_n C dL_law_1197 rfl ?_
  refine r_aload_n C dL_law_1198 rfl ?_
  refine r_iload C dL_law_1199 rfl ?_
  refine r_iconst (v := nI 1) C dL_law_1201 (by decide) ?_
  refine r_iaddN C dL_law_1202 ?_
  refine r_sld C hx hbl hbA (show i + 1 < L by omega) (by omega) dL_law_1203 ?_
  refine r_aload_n C dL_law_1204 rfl ?_
  refine r_iload C dL_law_1205 rfl ?_
  refine r_iconst (v := nI 2) C dL_law_1207 (by decide) ?_
  refine r_iaddN C dL_law_1208 ?_
  refine r_sld C hx hbl hbA (show i + 2 < L by omega) (by omega) dL_law_1209 ?_
  refine r_aload_n C dL_law_1210 rfl ?_
  refine r_iload C dL_law_1211 rfl ?_
  refine r_iconst (v := nI 3) C dL_law_1213 (by decide) ?_
  refine r_iaddN C dL_law_1214 ?_
  refine r_sld C hx hbl hbA (show i + 3 < L by omega) (by omega) dL_law_1215 ?_
  refine t_swap3 ?_
  refine c_V (st := []) hX.1.stb C hE (h2 _) pk_X4_through qm_L_252 0 8 rfl rfl wm_0 rfl rfl (Nat.le_of_ble_eq_true rfl) dL_law_1216 ⟨(Nat.le_of_ble_eq_true rfl), (Nat.le_of_ble_eq_true rfl)⟩ ⟨show cells + 1 + 4 ≤ room_1.cells by omega, show slots + 6 + 48 ≤ room_1.slots by omega⟩ (fun v9 w9 h9 => ?_) (fun _ h9 => h9.elim)
  obtain ⟨ra9, rfl, rfl⟩ := h9
  refine r_istore C dL_law_1219 (by decide) rfl ?_
  refine t_swap3 ?_
  refine r_goto (tgt := 2128) C dL_law_1221 (by decide) ?_
  refine r_widen (k := cells + 500) (n := slots + 10000) (show cells + 1 + 4 ≤ cells + 500 by omega) (show slots + 6 + 48 ≤ slots + 10000 by omega) ?_
  refine r_drop 5 ?_
  refine r_drop 6 ?_
  exact kk _ ⟨f', r', hf', hq', kn, ra9, _, sm, _, _, hC', hB', hM', rfl⟩
end PT_85
/-! ===== 86.case3 -/
section PT_86
/-! THE LAW'S CASES, 3 -/
theorem dL_law_1224 : decode cL_law 1224 = .ok (.aload_n 1, 1) := dqo_43 (kb_19 8 rfl)
theorem dL_law_1225 : decode cL_law 1225 = .ok (.aload_n 0, 1) := dqo_42 (kb_19 9 rfl)
theorem dL_law_1226 : decode cL_law 1226 = .ok (.iload 4, 2) := dqo_21 4 (kb_19 10 rfl) (kb_19 11 rfl)
theorem dL_law_1228 : decode cL_law 1228 = .ok (.iconst 1, 1) := dqo_4 (kb_19 12 rfl)
theorem dL_law_1229 : decode cL_law 1229 = .ok (.iadd, 1) := dqo_96 (kb_19 13 rfl)
theorem dL_law_1230 : decode cL_law 1230 = .ok (.iaload, 1) := dqo_46 (kb_19 14 rfl)
theorem dL_law_1231 : decode cL_law 1231 = .ok (.aload_n 0, 1) := dqo_42 (kb_19 15 rfl)
theorem dL_law_1232 : decode cL_law 1232 = .ok (.iload 4, 2) := dqo_21 4 (kb_19 16 rfl) (kb_19 17 rfl)
theorem dL_law_1234 : decode cL_law 1234 = .ok (.iconst 2, 1) := dqo_5 (kb_19 18 rfl)
theorem dL_law_1235 : decode cL_law 1235 = .ok (.iadd, 1) := dqo_96 (kb_19 19 rfl)
theorem dL_law_1236 : decode cL_law 1236 = .ok (.iaload, 1) := dqo_46 (kb_19 20 rfl)
theorem dL_law_1237 : decode cL_law 1237 = .ok (.aload_n 3, 1) := dqo_45 (kb_19 21 rfl)
theorem dL_law_1238 : decode cL_law 1238 = .ok (.invokestatic 253, 3) := dqo_184 0 253 (kb_19 22 rfl) (kb_19 23 rfl) (kb_19 24 rfl)
theorem dL_law_1241 : decode cL_law 1241 = .ok (.istore 5, 2) := dqo_54 5 (kb_19 25 rfl) (kb_19 26 rfl)
theorem dL_law_1243 : decode cL_law 1243 = .ok (.aload_n 2, 1) := dqo_44 (kb_19 27 rfl)
theorem dL_law_1244 : decode cL_law 1244 = .ok (.aload_n 0, 1) := dqo_42 (kb_19 28 rfl)
theorem dL_law_1245 : decode cL_law 1245 = .ok (.iload 4, 2) := dqo_21 4 (kb_19 29 rfl) (kb_19 30 rfl)
theorem dL_law_1247 : decode cL_law 1247 = .ok (.iconst 1, 1) := dqo_4 (kb_19 31 rfl)
theorem dL_law_1248 : decode cL_law 1248 = .ok (.iadd, 1) := dqo_96 (kb_19 32 rfl)
theorem dL_law_1249 : decode cL_law 1249 = .ok (.iaload, 1) := dqo_46 (kb_19 33 rfl)
theorem dL_law_1250 : decode cL_law 1250 = .ok (.aload_n 0, 1) := dqo_42 (kb_19 34 rfl)
theorem dL_law_1251 : decode cL_law 1251 = .ok (.iload 4, 2) := dqo_21 4 (kb_19 35 rfl) (kb_19 36 rfl)
theorem dL_law_1253 : decode cL_law 1253 = .ok (.iconst 2, 1) := dqo_5 (kb_19 37 rfl)
theorem dL_law_1254 : decode cL_law 1254 = .ok (.iadd, 1) := dqo_96 (kb_19 38 rfl)
theorem dL_law_1255 : decode cL_law 1255 = .ok (.iaload, 1) := dqo_46 (kb_19 39 rfl)
theorem dL_law_1256 : decode cL_law 1256 = .ok (.invokevirtual 255, 3) := dqo_182 0 255 (kb_19 40 rfl) (kb_19 41 rfl) (kb_19 42 rfl)
theorem dL_law_1259 : decode cL_law 1259 = .ok (.istore 6, 2) := dqo_54 6 (kb_19 43 rfl) (kb_19 44 rfl)
theorem dL_law_1261 : decode cL_law 1261 = .ok (.goto 867, 3) := dqo_167 3 99 (by decide) (kb_19 45 rfl) (kb_19 46 rfl) (kb_19 47 rfl)
theorem dL_law_1264 : decode cL_law 1264 = .ok (.aload_n 1, 1) := dqo_43 (kb_19 48 rfl)
theorem dL_law_1265 : decode cL_law 1265 = .ok (.aload_n 0, 1) := dqo_42 (kb_19 49 rfl)
theorem dL_law_1266 : decode cL_law 1266 = .ok (.iload 4, 2) := dqo_21 4 (kb_19 50 rfl) (kb_19 51 rfl)
theorem dL_law_1268 : decode cL_law 1268 = .ok (.iconst 1, 1) := dqo_4 (kb_19 52 rfl)
theorem dL_law_1269 : decode cL_law 1269 = .ok (.iadd, 1) := dqo_96 (kb_19 53 rfl)
theorem dL_law_1270 : decode cL_law 1270 = .ok (.iaload, 1) := dqo_46 (kb_19 54 rfl)
theorem dL_law_1271 : decode cL_law 1271 = .ok (.aload_n 0, 1) := dqo_42 (kb_19 55 rfl)
theorem dL_law_1272 : decode cL_law 1272 = .ok (.iload 4, 2) := dqo_21 4 (kb_19 56 rfl) (kb_19 57 rfl)
theorem dL_law_1274 : decode cL_law 1274 = .ok (.iconst 2, 1) := dqo_5 (kb_19 58 rfl)
theorem dL_law_1275 : decode cL_law 1275 = .ok (.iadd, 1) := dqo_96 (kb_19 59 rfl)
theorem dL_law_1276 : decode cL_law 1276 = .ok (.iaload, 1) := dqo_46 (kb_19 60 rfl)
theorem dL_law_1277 : decode cL_law 1277 = .ok (.aload_n 3, 1) := dqo_45 (kb_19 61 rfl)
theorem dL_law_1278 : decode cL_law 1278 = .ok (.invokestatic 256, 3) := dqo_184 1 0 (kb_19 62 rfl) (kb_19 63 rfl) (kb_20 0 rfl)
theorem dL_law_1281 : decode cL_law 1281 = .ok (.istore 5, 2) := dqo_54 5 (kb_20 1 rfl) (kb_20 2 rfl)
theorem dL_law_1283 : decode cL_law 1283 = .ok (.aload_n 2, 1) := dqo_44 (kb_20 3 rfl)
theorem dL_law_1284 : decode cL_law 1284 = .ok (.aload_n 0, 1) := dqo_42 (kb_20 4 rfl)
theorem dL_law_1285 : decode cL_law 1285 = .ok (.iload 4, 2) := dqo_21 4 (kb_20 5 rfl) (kb_20 6 rfl)
theorem dL_law_1287 : decode cL_law 1287 = .ok (.iconst 1, 1) := dqo_4 (kb_20 7 rfl)
theorem dL_law_1288 : decode cL_law 1288 = .ok (.iadd, 1) := dqo_96 (kb_20 8 rfl)
theorem dL_law_1289 : decode cL_law 1289 = .ok (.iaload, 1) := dqo_46 (kb_20 9 rfl)
theorem dL_law_1290 : decode cL_law 1290 = .ok (.aload_n 0, 1) := dqo_42 (kb_20 10 rfl)
theorem dL_law_1291 : decode cL_law 1291 = .ok (.iload 4, 2) := dqo_21 4 (kb_20 11 rfl) (kb_20 12 rfl)
theorem dL_law_1293 : decode cL_law 1293 = .ok (.iconst 2, 1) := dqo_5 (kb_20 13 rfl)
theorem dL_law_1294 : decode cL_law 1294 = .ok (.iadd, 1) := dqo_96 (kb_20 14 rfl)
theorem dL_law_1295 : decode cL_law 1295 = .ok (.iaload, 1) := dqo_46 (kb_20 15 rfl)
theorem dL_law_1296 : decode cL_law 1296 = .ok (.invokevirtual 258, 3) := dqo_182 1 2 (kb_20 16 rfl) (kb_20 17 rfl) (kb_20 18 rfl)
theorem dL_law_1299 : decode cL_law 1299 = .ok (.istore 6, 2) := dqo_54 6 (kb_20 19 rfl) (kb_20 20 rfl)
theorem dL_law_1301 : decode cL_law 1301 = .ok (.goto 827, 3) := dqo_167 3 59 (by decide) (kb_20 21 rfl) (kb_20 22 rfl) (kb_20 23 rfl)
theorem dL_law_1304 : decode cL_law 1304 = .ok (.aload_n 1, 1) := dqo_43 (kb_20 24 rfl)
theorem dL_law_1305 : decode cL_law 1305 = .ok (.aload_n 0, 1) := dqo_42 (kb_20 25 rfl)
theorem dL_law_1306 : decode cL_law 1306 = .ok (.iload 4, 2) := dqo_21 4 (kb_20 26 rfl) (kb_20 27 rfl)
theorem dL_law_1308 : decode cL_law 1308 = .ok (.iconst 1, 1) := dqo_4 (kb_20 28 rfl)
theorem dL_law_1309 : decode cL_law 1309 = .ok (.iadd, 1) := dqo_96 (kb_20 29 rfl)
theorem dL_law_1310 : decode cL_law 1310 = .ok (.iaload, 1) := dqo_46 (kb_20 30 rfl)
theorem dL_law_1311 : decode cL_law 1311 = .ok (.aload_n 0, 1) := dqo_42 (kb_20 31 rfl)
theorem dL_law_1312 : decode cL_law 1312 = .ok (.iload 4, 2) := dqo_21 4 (kb_20 32 rfl) (kb_20 33 rfl)
theorem dL_law_1314 : decode cL_law 1314 = .ok (.iconst 2, 1) := dqo_5 (kb_20 34 rfl)
theorem dL_law_1315 : decode cL_law 1315 = .ok (.iadd, 1) := dqo_96 (kb_20 35 rfl)
theorem dL_law_1316 : decode cL_law 1316 = .ok (.iaload, 1) := dqo_46 (kb_20 36 rfl)
theorem dL_law_1317 : decode cL_law 1317 = .ok (.aload_n 3, 1) := dqo_45 (kb_20 37 rfl)
theorem dL_law_1318 : decode cL_law 1318 = .ok (.invokestatic 259, 3) := dqo_184 1 3 (kb_20 38 rfl) (kb_20 39 rfl) (kb_20 40 rfl)
theorem dL_law_1321 : decode cL_law 1321 = .ok (.istore 5, 2) := dqo_54 5 (kb_20 41 rfl) (kb_20 42 rfl)
theorem dL_law_1323 : decode cL_law 1323 = .ok (.aload_n 2, 1) := dqo_44 (kb_20 43 rfl)
theorem dL_law_1324 : decode cL_law 1324 = .ok (.aload_n 0, 1) := dqo_42 (kb_20 44 rfl)
theorem dL_law_1325 : decode cL_law 1325 = .ok (.iload 4, 2) := dqo_21 4 (kb_20 45 rfl) (kb_20 46 rfl)
theorem dL_law_1327 : decode cL_law 1327 = .ok (.iconst 1, 1) := dqo_4 (kb_20 47 rfl)
theorem dL_law_1328 : decode cL_law 1328 = .ok (.iadd, 1) := dqo_96 (kb_20 48 rfl)
theorem dL_law_1329 : decode cL_law 1329 = .ok (.iaload, 1) := dqo_46 (kb_20 49 rfl)
theorem dL_law_1330 : decode cL_law 1330 = .ok (.aload_n 0, 1) := dqo_42 (kb_20 50 rfl)
theorem dL_law_1331 : decode cL_law 1331 = .ok (.iload 4, 2) := dqo_21 4 (kb_20 51 rfl) (kb_20 52 rfl)
theorem dL_law_1333 : decode cL_law 1333 = .ok (.iconst 2, 1) := dqo_5 (kb_20 53 rfl)
theorem dL_law_1334 : decode cL_law 1334 = .ok (.iadd, 1) := dqo_96 (kb_20 54 rfl)
theorem dL_law_1335 : decode cL_law 1335 = .ok (.iaload, 1) := dqo_46 (kb_20 55 rfl)
theorem dL_law_1336 : decode cL_law 1336 = .ok (.invokevirtual 261, 3) := dqo_182 1 5 (kb_20 56 rfl) (kb_20 57 rfl) (kb_20 58 rfl)
theorem dL_law_1339 : decode cL_law 1339 = .ok (.istore 6, 2) := dqo_54 6 (kb_20 59 rfl) (kb_20 60 rfl)
theorem dL_law_1341 : decode cL_law 1341 = .ok (.goto 787, 3) := dqo_167 3 19 (by decide) (kb_20 61 rfl) (kb_20 62 rfl) (kb_20 63 rfl)
theorem dL_law_1344 : decode cL_law 1344 = .ok (.aload_n 1, 1) := dqo_43 (kb_21 0 rfl)
theorem dL_law_1345 : decode cL_law 1345 = .ok (.aload_n 0, 1) := dqo_42 (kb_21 1 rfl)
theorem dL_law_1346 : decode cL_law 1346 = .ok (.iload 4, 2) := dqo_21 4 (kb_21 2 rfl) (kb_21 3 rfl)
theorem dL_law_1348 : decode cL_law 1348 = .ok (.iconst 1, 1) := dqo_4 (kb_21 4 rfl)
theorem dL_law_1349 : decode cL_law 1349 = .ok (.iadd, 1) := dqo_96 (kb_21 5 rfl)
theorem dL_law_1350 : decode cL_law 1350 = .ok (.iaload, 1) := dqo_46 (kb_21 6 rfl)
theorem dL_law_1351 : decode cL_law 1351 = .ok (.aload_n 0, 1) := dqo_42 (kb_21 7 rfl)
theorem dL_law_1352 : decode cL_law 1352 = .ok (.iload 4, 2) := dqo_21 4 (kb_21 8 rfl) (kb_21 9 rfl)
theorem dL_law_1354 : decode cL_law 1354 = .ok (.iconst 2, 1) := dqo_5 (kb_21 10 rfl)
theorem dL_law_1355 : decode cL_law 1355 = .ok (.iadd, 1) := dqo_96 (kb_21 11 rfl)
theorem dL_law_1356 : decode cL_law 1356 = .ok (.iaload, 1) := dqo_46 (kb_21 12 rfl)
theorem dL_law_1357 : decode cL_law 1357 = .ok (.aload_n 3, 1) := dqo_45 (kb_21 13 rfl)
theorem dL_law_1358 : decode cL_law 1358 = .ok (.invokestatic 262, 3) := dqo_184 1 6 (kb_21 14 rfl) (kb_21 15 rfl) (kb_21 16 rfl)
theorem dL_law_1361 : decode cL_law 1361 = .ok (.istore 5, 2) := dqo_54 5 (kb_21 17 rfl) (kb_21 18 rfl)
theorem dL_law_1363 : decode cL_law 1363 = .ok (.aload_n 2, 1) := dqo_44 (kb_21 19 rfl)
theorem dL_law_1364 : decode cL_law 1364 = .ok (.aload_n 0, 1) := dqo_42 (kb_21 20 rfl)
theorem dL_law_1365 : decode cL_law 1365 = .ok (.iload 4, 2) := dqo_21 4 (kb_21 21 rfl) (kb_21 22 rfl)
theorem dL_law_1367 : decode cL_law 1367 = .ok (.iconst 1, 1) := dqo_4 (kb_21 23 rfl)
theorem dL_law_1368 : decode cL_law 1368 = .ok (.iadd, 1) := dqo_96 (kb_21 24 rfl)
theorem dL_law_1369 : decode cL_law 1369 = .ok (.iaload, 1) := dqo_46 (kb_21 25 rfl)
theorem dL_law_1370 : decode cL_law 1370 = .ok (.aload_n 0, 1) := dqo_42 (kb_21 26 rfl)
theorem dL_law_1371 : decode cL_law 1371 = .ok (.iload 4, 2) := dqo_21 4 (kb_21 27 rfl) (kb_21 28 rfl)
theorem dL_law_1373 : decode cL_law 1373 = .ok (.iconst 2, 1) := dqo_5 (kb_21 29 rfl)
theorem dL_law_1374 : decode cL_law 1374 = .ok (.iadd, 1) := dqo_96 (kb_21 30 rfl)
theorem dL_law_1375 : decode cL_law 1375 = .ok (.iaload, 1) := dqo_46 (kb_21 31 rfl)
theorem dL_law_1376 : decode cL_law 1376 = .ok (.invokevirtual 264, 3) := dqo_182 1 8 (kb_21 32 rfl) (kb_21 33 rfl) (kb_21 34 rfl)
theorem dL_law_1379 : decode cL_law 1379 = .ok (.istore 6, 2) := dqo_54 6 (kb_21 35 rfl) (kb_21 36 rfl)
theorem dL_law_1381 : decode cL_law 1381 = .ok (.goto 747, 3) := dqo_167 2 235 (by decide) (kb_21 37 rfl) (kb_21 38 rfl) (kb_21 39 rfl)
theorem dL_law_1384 : decode cL_law 1384 = .ok (.aload_n 1, 1) := dqo_43 (kb_21 40 rfl)
theorem dL_law_1385 : decode cL_law 1385 = .ok (.aload_n 0, 1) := dqo_42 (kb_21 41 rfl)
theorem dL_law_1386 : decode cL_law 1386 = .ok (.iload 4, 2) := dqo_21 4 (kb_21 42 rfl) (kb_21 43 rfl)
theorem dL_law_1388 : decode cL_law 1388 = .ok (.iconst 1, 1) := dqo_4 (kb_21 44 rfl)
theorem dL_law_1389 : decode cL_law 1389 = .ok (.iadd, 1) := dqo_96 (kb_21 45 rfl)
theorem dL_law_1390 : decode cL_law 1390 = .ok (.iaload, 1) := dqo_46 (kb_21 46 rfl)
theorem dL_law_1391 : decode cL_law 1391 = .ok (.aload_n 0, 1) := dqo_42 (kb_21 47 rfl)
theorem dL_law_1392 : decode cL_law 1392 = .ok (.iload 4, 2) := dqo_21 4 (kb_21 48 rfl) (kb_21 49 rfl)
theorem dL_law_1394 : decode cL_law 1394 = .ok (.iconst 2, 1) := dqo_5 (kb_21 50 rfl)
theorem dL_law_1395 : decode cL_law 1395 = .ok (.iadd, 1) := dqo_96 (kb_21 51 rfl)
theorem dL_law_1396 : decode cL_law 1396 = .ok (.iaload, 1) := dqo_46 (kb_21 52 rfl)
theorem dL_law_1397 : decode cL_law 1397 = .ok (.ifCond .eq 7, 3) := dqo_153 0 7 (by decide) (kb_21 53 rfl) (kb_21 54 rfl) (kb_21 55 rfl)
theorem dL_law_1400 : decode cL_law 1400 = .ok (.iconst 1, 1) := dqo_4 (kb_21 56 rfl)
theorem dL_law_1401 : decode cL_law 1401 = .ok (.goto 4, 3) := dqo_167 0 4 (by decide) (kb_21 57 rfl) (kb_21 58 rfl) (kb_21 59 rfl)
theorem dL_law_1404 : decode cL_law 1404 = .ok (.iconst 0, 1) := dqo_3 (kb_21 60 rfl)
theorem dL_law_1405 : decode cL_law 1405 = .ok (.aload_n 3, 1) := dqo_45 (kb_21 61 rfl)
theorem dL_law_1406 : decode cL_law 1406 = .ok (.invokestatic 265, 3) := dqo_184 1 9 (kb_21 62 rfl) (kb_21 63 rfl) (kb_22 0 rfl)
theorem dL_law_1409 : decode cL_law 1409 = .ok (.istore 5, 2) := dqo_54 5 (kb_22 1 rfl) (kb_22 2 rfl)
theorem dL_law_1411 : decode cL_law 1411 = .ok (.aload_n 2, 1) := dqo_44 (kb_22 3 rfl)
theorem dL_law_1412 : decode cL_law 1412 = .ok (.aload_n 0, 1) := dqo_42 (kb_22 4 rfl)
theorem dL_law_1413 : decode cL_law 1413 = .ok (.iload 4, 2) := dqo_21 4 (kb_22 5 rfl) (kb_22 6 rfl)
theorem dL_law_1415 : decode cL_law 1415 = .ok (.iconst 1, 1) := dqo_4 (kb_22 7 rfl)
theorem dL_law_1416 : decode cL_law 1416 = .ok (.iadd, 1) := dqo_96 (kb_22 8 rfl)
theorem dL_law_1417 : decode cL_law 1417 = .ok (.iaload, 1) := dqo_46 (kb_22 9 rfl)
theorem dL_law_1418 : decode cL_law 1418 = .ok (.aload_n 0, 1) := dqo_42 (kb_22 10 rfl)
theorem dL_law_1419 : decode cL_law 1419 = .ok (.iload 4, 2) := dqo_21 4 (kb_22 11 rfl) (kb_22 12 rfl)
theorem dL_law_1421 : decode cL_law 1421 = .ok (.iconst 2, 1) := dqo_5 (kb_22 13 rfl)
theorem dL_law_1422 : decode cL_law 1422 = .ok (.iadd, 1) := dqo_96 (kb_22 14 rfl)
theorem dL_law_1423 : decode cL_law 1423 = .ok (.iaload, 1) := dqo_46 (kb_22 15 rfl)
theorem dL_law_1424 : decode cL_law 1424 = .ok (.ifCond .eq 7, 3) := dqo_153 0 7 (by decide) (kb_22 16 rfl) (kb_22 17 rfl) (kb_22 18 rfl)
theorem dL_law_1427 : decode cL_law 1427 = .ok (.iconst 1, 1) := dqo_4 (kb_22 19 rfl)
theorem dL_law_1428 : decode cL_law 1428 = .ok (.goto 4, 3) := dqo_167 0 4 (by decide) (kb_22 20 rfl) (kb_22 21 rfl) (kb_22 22 rfl)
theorem dL_law_1431 : decode cL_law 1431 = .ok (.iconst 0, 1) := dqo_3 (kb_22 23 rfl)
theorem dL_law_1432 : decode cL_law 1432 = .ok (.invokevirtual 268, 3) := dqo_182 1 12 (kb_22 24 rfl) (kb_22 25 rfl) (kb_22 26 rfl)
theorem dL_law_1435 : decode cL_law 1435 = .ok (.istore 6, 2) := dqo_54 6 (kb_22 27 rfl) (kb_22 28 rfl)
theorem dL_law_1437 : decode cL_law 1437 = .ok (.goto 691, 3) := dqo_167 2 179 (by decide) (kb_22 29 rfl) (kb_22 30 rfl) (kb_22 31 rfl)
theorem dL_law_1440 : decode cL_law 1440 = .ok (.aload_n 1, 1) := dqo_43 (kb_22 32 rfl)
theorem dL_law_1441 : decode cL_law 1441 = .ok (.aload_n 0, 1) := dqo_42 (kb_22 33 rfl)
theorem dL_law_1442 : decode cL_law 1442 = .ok (.iload 4, 2) := dqo_21 4 (kb_22 34 rfl) (kb_22 35 rfl)
theorem dL_law_1444 : decode cL_law 1444 = .ok (.iconst 1, 1) := dqo_4 (kb_22 36 rfl)
theorem dL_law_1445 : decode cL_law 1445 = .ok (.iadd, 1) := dqo_96 (kb_22 37 rfl)
theorem dL_law_1446 : decode cL_law 1446 = .ok (.iaload, 1) := dqo_46 (kb_22 38 rfl)
theorem dL_law_1447 : decode cL_law 1447 = .ok (.aload_n 0, 1) := dqo_42 (kb_22 39 rfl)
theorem dL_law_1448 : decode cL_law 1448 = .ok (.iload 4, 2) := dqo_21 4 (kb_22 40 rfl) (kb_22 41 rfl)
theorem dL_law_1450 : decode cL_law 1450 = .ok (.iconst 2, 1) := dqo_5 (kb_22 42 rfl)
theorem dL_law_1451 : decode cL_law 1451 = .ok (.iadd, 1) := dqo_96 (kb_22 43 rfl)
theorem dL_law_1452 : decode cL_law 1452 = .ok (.iaload, 1) := dqo_46 (kb_22 44 rfl)
theorem dL_law_1453 : decode cL_law 1453 = .ok (.aload_n 3, 1) := dqo_45 (kb_22 45 rfl)
theorem dL_law_1454 : decode cL_law 1454 = .ok (.invokestatic 269, 3) := dqo_184 1 13 (kb_22 46 rfl) (kb_22 47 rfl) (kb_22 48 rfl)
theorem dL_law_1457 : decode cL_law 1457 = .ok (.istore 5, 2) := dqo_54 5 (kb_22 49 rfl) (kb_22 50 rfl)
theorem dL_law_1459 : decode cL_law 1459 = .ok (.aload_n 2, 1) := dqo_44 (kb_22 51 rfl)
theorem dL_law_1460 : decode cL_law 1460 = .ok (.aload_n 0, 1) := dqo_42 (kb_22 52 rfl)
theorem dL_law_1461 : decode cL_law 1461 = .ok (.iload 4, 2) := dqo_21 4 (kb_22 53 rfl) (kb_22 54 rfl)
theorem dL_law_1463 : decode cL_law 1463 = .ok (.iconst 1, 1) := dqo_4 (kb_22 55 rfl)
theorem dL_law_1464 : decode cL_law 1464 = .ok (.iadd, 1) := dqo_96 (kb_22 56 rfl)
theorem dL_law_1465 : decode cL_law 1465 = .ok (.iaload, 1) := dqo_46 (kb_22 57 rfl)
theorem dL_law_1466 : decode cL_law 1466 = .ok (.aload_n 0, 1) := dqo_42 (kb_22 58 rfl)
theorem dL_law_1467 : decode cL_law 1467 = .ok (.iload 4, 2) := dqo_21 4 (kb_22 59 rfl) (kb_22 60 rfl)
theorem dL_law_1469 : decode cL_law 1469 = .ok (.iconst 2, 1) := dqo_5 (kb_22 61 rfl)
theorem dL_law_1470 : decode cL_law 1470 = .ok (.iadd, 1) := dqo_96 (kb_22 62 rfl)
theorem dL_law_1471 : decode cL_law 1471 = .ok (.iaload, 1) := dqo_46 (kb_22 63 rfl)
theorem dL_law_1472 : decode cL_law 1472 = .ok (.invokevirtual 271, 3) := dqo_182 1 15 (kb_23 0 rfl) (kb_23 1 rfl) (kb_23 2 rfl)
theorem dL_law_1475 : decode cL_law 1475 = .ok (.istore 6, 2) := dqo_54 6 (kb_23 3 rfl) (kb_23 4 rfl)
theorem dL_law_1477 : decode cL_law 1477 = .ok (.goto 651, 3) := dqo_167 2 139 (by decide) (kb_23 5 rfl) (kb_23 6 rfl) (kb_23 7 rfl)
theorem dL_law_1480 : decode cL_law 1480 = .ok (.aload_n 1, 1) := dqo_43 (kb_23 8 rfl)
theorem dL_law_1481 : decode cL_law 1481 = .ok (.aload_n 0, 1) := dqo_42 (kb_23 9 rfl)
theorem dL_law_1482 : decode cL_law 1482 = .ok (.iload 4, 2) := dqo_21 4 (kb_23 10 rfl) (kb_23 11 rfl)
theorem dL_law_1484 : decode cL_law 1484 = .ok (.iconst 1, 1) := dqo_4 (kb_23 12 rfl)
theorem dL_law_1485 : decode cL_law 1485 = .ok (.iadd, 1) := dqo_96 (kb_23 13 rfl)
theorem dL_law_1486 : decode cL_law 1486 = .ok (.iaload, 1) := dqo_46 (kb_23 14 rfl)
theorem dL_law_1487 : decode cL_law 1487 = .ok (.aload_n 0, 1) := dqo_42 (kb_23 15 rfl)
theorem dL_law_1488 : decode cL_law 1488 = .ok (.iload 4, 2) := dqo_21 4 (kb_23 16 rfl) (kb_23 17 rfl)
theorem dL_law_1490 : decode cL_law 1490 = .ok (.iconst 2, 1) := dqo_5 (kb_23 18 rfl)
theorem dL_law_1491 : decode cL_law 1491 = .ok (.iadd, 1) := dqo_96 (kb_23 19 rfl)
theorem dL_law_1492 : decode cL_law 1492 = .ok (.iaload, 1) := dqo_46 (kb_23 20 rfl)
theorem dL_law_1493 : decode cL_law 1493 = .ok (.aload_n 3, 1) := dqo_45 (kb_23 21 rfl)
theorem dL_law_1494 : decode cL_law 1494 = .ok (.invokestatic 272, 3) := dqo_184 1 16 (kb_23 22 rfl) (kb_23 23 rfl) (kb_23 24 rfl)
theorem dL_law_1497 : decode cL_law 1497 = .ok (.istore 5, 2) := dqo_54 5 (kb_23 25 rfl) (kb_23 26 rfl)
theorem dL_law_1499 : decode cL_law 1499 = .ok (.aload_n 2, 1) := dqo_44 (kb_23 27 rfl)
theorem dL_law_1500 : decode cL_law 1500 = .ok (.aload_n 0, 1) := dqo_42 (kb_23 28 rfl)
theorem dL_law_1501 : decode cL_law 1501 = .ok (.iload 4, 2) := dqo_21 4 (kb_23 29 rfl) (kb_23 30 rfl)
theorem dL_law_1503 : decode cL_law 1503 = .ok (.iconst 1, 1) := dqo_4 (kb_23 31 rfl)
theorem dL_law_1504 : decode cL_law 1504 = .ok (.iadd, 1) := dqo_96 (kb_23 32 rfl)
theorem dL_law_1505 : decode cL_law 1505 = .ok (.iaload, 1) := dqo_46 (kb_23 33 rfl)
theorem dL_law_1506 : decode cL_law 1506 = .ok (.aload_n 0, 1) := dqo_42 (kb_23 34 rfl)
theorem dL_law_1507 : decode cL_law 1507 = .ok (.iload 4, 2) := dqo_21 4 (kb_23 35 rfl) (kb_23 36 rfl)
theorem dL_law_1509 : decode cL_law 1509 = .ok (.iconst 2, 1) := dqo_5 (kb_23 37 rfl)
theorem dL_law_1510 : decode cL_law 1510 = .ok (.iadd, 1) := dqo_96 (kb_23 38 rfl)
theorem dL_law_1511 : decode cL_law 1511 = .ok (.iaload, 1) := dqo_46 (kb_23 39 rfl)
theorem dL_law_1512 : decode cL_law 1512 = .ok (.invokevirtual 274, 3) := dqo_182 1 18 (kb_23 40 rfl) (kb_23 41 rfl) (kb_23 42 rfl)
theorem dL_law_1515 : decode cL_law 1515 = .ok (.istore 6, 2) := dqo_54 6 (kb_23 43 rfl) (kb_23 44 rfl)
theorem dL_law_1517 : decode cL_law 1517 = .ok (.goto 611, 3) := dqo_167 2 99 (by decide) (kb_23 45 rfl) (kb_23 46 rfl) (kb_23 47 rfl)
theorem dL_law_1520 : decode cL_law 1520 = .ok (.aload_n 1, 1) := dqo_43 (kb_23 48 rfl)
theorem dL_law_1521 : decode cL_law 1521 = .ok (.aload_n 0, 1) := dqo_42 (kb_23 49 rfl)
theorem dL_law_1522 : decode cL_law 1522 = .ok (.iload 4, 2) := dqo_21 4 (kb_23 50 rfl) (kb_23 51 rfl)
theorem dL_law_1524 : decode cL_law 1524 = .ok (.iconst 1, 1) := dqo_4 (kb_23 52 rfl)
theorem dL_law_1525 : decode cL_law 1525 = .ok (.iadd, 1) := dqo_96 (kb_23 53 rfl)
theorem dL_law_1526 : decode cL_law 1526 = .ok (.iaload, 1) := dqo_46 (kb_23 54 rfl)
theorem dL_law_1527 : decode cL_law 1527 = .ok (.aload_n 3, 1) := dqo_45 (kb_23 55 rfl)
theorem dL_law_1528 : decode cL_law 1528 = .ok (.invokestatic 275, 3) := dqo_184 1 19 (kb_23 56 rfl) (kb_23 57 rfl) (kb_23 58 rfl)
theorem dL_law_1531 : decode cL_law 1531 = .ok (.istore 5, 2) := dqo_54 5 (kb_23 59 rfl) (kb_23 60 rfl)
theorem dL_law_1533 : decode cL_law 1533 = .ok (.aload_n 2, 1) := dqo_44 (kb_23 61 rfl)
theorem dL_law_1534 : decode cL_law 1534 = .ok (.aload_n 0, 1) := dqo_42 (kb_23 62 rfl)
theorem dL_law_1535 : decode cL_law 1535 = .ok (.iload 4, 2) := dqo_21 4 (kb_23 63 rfl) (kb_24 0 rfl)
theorem dL_law_1537 : decode cL_law 1537 = .ok (.iconst 1, 1) := dqo_4 (kb_24 1 rfl)
theorem dL_law_1538 : decode cL_law 1538 = .ok (.iadd, 1) := dqo_96 (kb_24 2 rfl)
theorem dL_law_1539 : decode cL_law 1539 = .ok (.iaload, 1) := dqo_46 (kb_24 3 rfl)
theorem dL_law_1540 : decode cL_law 1540 = .ok (.invokevirtual 277, 3) := dqo_182 1 21 (kb_24 4 rfl) (kb_24 5 rfl) (kb_24 6 rfl)
theorem dL_law_1543 : decode cL_law 1543 = .ok (.istore 6, 2) := dqo_54 6 (kb_24 7 rfl) (kb_24 8 rfl)
theorem dL_law_1545 : decode cL_law 1545 = .ok (.goto 583, 3) := dqo_167 2 71 (by decide) (kb_24 9 rfl) (kb_24 10 rfl) (kb_24 11 rfl)
theorem dL_law_1548 : decode cL_law 1548 = .ok (.aload_n 1, 1) := dqo_43 (kb_24 12 rfl)
theorem dL_law_1549 : decode cL_law 1549 = .ok (.aload_n 0, 1) := dqo_42 (kb_24 13 rfl)
theorem dL_law_1550 : decode cL_law 1550 = .ok (.iload 4, 2) := dqo_21 4 (kb_24 14 rfl) (kb_24 15 rfl)
theorem dL_law_1552 : decode cL_law 1552 = .ok (.iconst 1, 1) := dqo_4 (kb_24 16 rfl)
theorem dL_law_1553 : decode cL_law 1553 = .ok (.iadd, 1) := dqo_96 (kb_24 17 rfl)
theorem dL_law_1554 : decode cL_law 1554 = .ok (.iaload, 1) := dqo_46 (kb_24 18 rfl)
theorem dL_law_1555 : decode cL_law 1555 = .ok (.aload_n 3, 1) := dqo_45 (kb_24 19 rfl)
theorem dL_law_1556 : decode cL_law 1556 = .ok (.invokestatic 278, 3) := dqo_184 1 22 (kb_24 20 rfl) (kb_24 21 rfl) (kb_24 22 rfl)
theorem dL_law_1559 : decode cL_law 1559 = .ok (.istore 5, 2) := dqo_54 5 (kb_24 23 rfl) (kb_24 24 rfl)
theorem dL_law_1561 : decode cL_law 1561 = .ok (.aload_n 2, 1) := dqo_44 (kb_24 25 rfl)
theorem dL_law_1562 : decode cL_law 1562 = .ok (.aload_n 0, 1) := dqo_42 (kb_24 26 rfl)
theorem dL_law_1563 : decode cL_law 1563 = .ok (.iload 4, 2) := dqo_21 4 (kb_24 27 rfl) (kb_24 28 rfl)
theorem dL_law_1565 : decode cL_law 1565 = .ok (.iconst 1, 1) := dqo_4 (kb_24 29 rfl)
theorem dL_law_1566 : decode cL_law 1566 = .ok (.iadd, 1) := dqo_96 (kb_24 30 rfl)
theorem dL_law_1567 : decode cL_law 1567 = .ok (.iaload, 1) := dqo_46 (kb_24 31 rfl)
theorem dL_law_1568 : decode cL_law 1568 = .ok (.invokevirtual 280, 3) := dqo_182 1 24 (kb_24 32 rfl) (kb_24 33 rfl) (kb_24 34 rfl)
theorem dL_law_1571 : decode cL_law 1571 = .ok (.astore 6, 2) := dqo_58 6 (kb_24 35 rfl) (kb_24 36 rfl)
theorem dL_law_1573 : decode cL_law 1573 = .ok (.goto 555, 3) := dqo_167 2 43 (by decide) (kb_24 37 rfl) (kb_24 38 rfl) (kb_24 39 rfl)
theorem dL_law_1576 : decode cL_law 1576 = .ok (.aload_n 1, 1) := dqo_43 (kb_24 40 rfl)
theorem dL_law_1577 : decode cL_law 1577 = .ok (.aload_n 0, 1) := dqo_42 (kb_24 41 rfl)
theorem dL_law_1578 : decode cL_law 1578 = .ok (.iload 4, 2) := dqo_21 4 (kb_24 42 rfl) (kb_24 43 rfl)
theorem dL_law_1580 : decode cL_law 1580 = .ok (.iconst 1, 1) := dqo_4 (kb_24 44 rfl)
theorem dL_law_1581 : decode cL_law 1581 = .ok (.iadd, 1) := dqo_96 (kb_24 45 rfl)
theorem dL_law_1582 : decode cL_law 1582 = .ok (.iaload, 1) := dqo_46 (kb_24 46 rfl)
theorem dL_law_1583 : decode cL_law 1583 = .ok (.aload_n 0, 1) := dqo_42 (kb_24 47 rfl)
theorem dL_law_1584 : decode cL_law 1584 = .ok (.iload 4, 2) := dqo_21 4 (kb_24 48 rfl) (kb_24 49 rfl)
theorem dL_law_1586 : decode cL_law 1586 = .ok (.iconst 2, 1) := dqo_5 (kb_24 50 rfl)
theorem dL_law_1587 : decode cL_law 1587 = .ok (.iadd, 1) := dqo_96 (kb_24 51 rfl)
theorem dL_law_1588 : decode cL_law 1588 = .ok (.iaload, 1) := dqo_46 (kb_24 52 rfl)
theorem dL_law_1589 : decode cL_law 1589 = .ok (.aload_n 3, 1) := dqo_45 (kb_24 53 rfl)
theorem dL_law_1590 : decode cL_law 1590 = .ok (.invokestatic 281, 3) := dqo_184 1 25 (kb_24 54 rfl) (kb_24 55 rfl) (kb_24 56 rfl)
theorem dL_law_1593 : decode cL_law 1593 = .ok (.istore 5, 2) := dqo_54 5 (kb_24 57 rfl) (kb_24 58 rfl)
theorem dL_law_1595 : decode cL_law 1595 = .ok (.aload_n 2, 1) := dqo_44 (kb_24 59 rfl)
theorem dL_law_1596 : decode cL_law 1596 = .ok (.aload_n 0, 1) := dqo_42 (kb_24 60 rfl)
theorem dL_law_1597 : decode cL_law 1597 = .ok (.iload 4, 2) := dqo_21 4 (kb_24 61 rfl) (kb_24 62 rfl)
theorem dL_law_1599 : decode cL_law 1599 = .ok (.iconst 1, 1) := dqo_4 (kb_24 63 rfl)
theorem dL_law_1600 : decode cL_law 1600 = .ok (.iadd, 1) := dqo_96 (kb_25 0 rfl)
theorem dL_law_1601 : decode cL_law 1601 = .ok (.iaload, 1) := dqo_46 (kb_25 1 rfl)
theorem dL_law_1602 : decode cL_law 1602 = .ok (.aload_n 0, 1) := dqo_42 (kb_25 2 rfl)
theorem dL_law_1603 : decode cL_law 1603 = .ok (.iload 4, 2) := dqo_21 4 (kb_25 3 rfl) (kb_25 4 rfl)
theorem dL_law_1605 : decode cL_law 1605 = .ok (.iconst 2, 1) := dqo_5 (kb_25 5 rfl)
theorem dL_law_1606 : decode cL_law 1606 = .ok (.iadd, 1) := dqo_96 (kb_25 6 rfl)
theorem dL_law_1607 : decode cL_law 1607 = .ok (.iaload, 1) := dqo_46 (kb_25 7 rfl)
theorem dL_law_1608 : decode cL_law 1608 = .ok (.invokevirtual 283, 3) := dqo_182 1 27 (kb_25 8 rfl) (kb_25 9 rfl) (kb_25 10 rfl)
theorem dL_law_1611 : decode cL_law 1611 = .ok (.istore 6, 2) := dqo_54 6 (kb_25 11 rfl) (kb_25 12 rfl)
theorem dL_law_1613 : decode cL_law 1613 = .ok (.goto 515, 3) := dqo_167 2 3 (by decide) (kb_25 13 rfl) (kb_25 14 rfl) (kb_25 15 rfl)
theorem dL_law_1616 : decode cL_law 1616 = .ok (.aload_n 1, 1) := dqo_43 (kb_25 16 rfl)
theorem dL_law_1617 : decode cL_law 1617 = .ok (.aload_n 0, 1) := dqo_42 (kb_25 17 rfl)
theorem dL_law_1618 : decode cL_law 1618 = .ok (.iload 4, 2) := dqo_21 4 (kb_25 18 rfl) (kb_25 19 rfl)
theorem dL_law_1620 : decode cL_law 1620 = .ok (.iconst 1, 1) := dqo_4 (kb_25 20 rfl)
theorem dL_law_1621 : decode cL_law 1621 = .ok (.iadd, 1) := dqo_96 (kb_25 21 rfl)
theorem dL_law_1622 : decode cL_law 1622 = .ok (.iaload, 1) := dqo_46 (kb_25 22 rfl)
theorem dL_law_1623 : decode cL_law 1623 = .ok (.aload_n 0, 1) := dqo_42 (kb_25 23 rfl)
theorem dL_law_1624 : decode cL_law 1624 = .ok (.iload 4, 2) := dqo_21 4 (kb_25 24 rfl) (kb_25 25 rfl)
theorem dL_law_1626 : decode cL_law 1626 = .ok (.iconst 2, 1) := dqo_5 (kb_25 26 rfl)
theorem dL_law_1627 : decode cL_law 1627 = .ok (.iadd, 1) := dqo_96 (kb_25 27 rfl)
theorem dL_law_1628 : decode cL_law 1628 = .ok (.iaload, 1) := dqo_46 (kb_25 28 rfl)
theorem dL_law_1629 : decode cL_law 1629 = .ok (.aload_n 0, 1) := dqo_42 (kb_25 29 rfl)
theorem dL_law_1630 : decode cL_law 1630 = .ok (.iload 4, 2) := dqo_21 4 (kb_25 30 rfl) (kb_25 31 rfl)
theorem dL_law_1632 : decode cL_law 1632 = .ok (.iconst 3, 1) := dqo_6 (kb_25 32 rfl)
theorem dL_law_1633 : decode cL_law 1633 = .ok (.iadd, 1) := dqo_96 (kb_25 33 rfl)
theorem dL_law_1634 : decode cL_law 1634 = .ok (.iaload, 1) := dqo_46 (kb_25 34 rfl)
theorem dL_law_1635 : decode cL_law 1635 = .ok (.aload_n 0, 1) := dqo_42 (kb_25 35 rfl)
theorem dL_law_1636 : decode cL_law 1636 = .ok (.iload 4, 2) := dqo_21 4 (kb_25 36 rfl) (kb_25 37 rfl)
theorem dL_law_1638 : decode cL_law 1638 = .ok (.iconst 4, 1) := dqo_7 (kb_25 38 rfl)
theorem dL_law_1639 : decode cL_law 1639 = .ok (.iadd, 1) := dqo_96 (kb_25 39 rfl)
theorem dL_law_1640 : decode cL_law 1640 = .ok (.iaload, 1) := dqo_46 (kb_25 40 rfl)
theorem dL_law_1641 : decode cL_law 1641 = .ok (.aload_n 3, 1) := dqo_45 (kb_25 41 rfl)
theorem dL_law_1642 : decode cL_law 1642 = .ok (.invokestatic 284, 3) := dqo_184 1 28 (kb_25 42 rfl) (kb_25 43 rfl) (kb_25 44 rfl)
theorem dL_law_1645 : decode cL_law 1645 = .ok (.istore 5, 2) := dqo_54 5 (kb_25 45 rfl) (kb_25 46 rfl)
theorem dL_law_1647 : decode cL_law 1647 = .ok (.aload_n 2, 1) := dqo_44 (kb_25 47 rfl)
theorem dL_law_1648 : decode cL_law 1648 = .ok (.aload_n 0, 1) := dqo_42 (kb_25 48 rfl)
theorem dL_law_1649 : decode cL_law 1649 = .ok (.iload 4, 2) := dqo_21 4 (kb_25 49 rfl) (kb_25 50 rfl)
theorem dL_law_1651 : decode cL_law 1651 = .ok (.iconst 1, 1) := dqo_4 (kb_25 51 rfl)
theorem dL_law_1652 : decode cL_law 1652 = .ok (.iadd, 1) := dqo_96 (kb_25 52 rfl)
theorem dL_law_1653 : decode cL_law 1653 = .ok (.iaload, 1) := dqo_46 (kb_25 53 rfl)
theorem dL_law_1654 : decode cL_law 1654 = .ok (.aload_n 0, 1) := dqo_42 (kb_25 54 rfl)
theorem dL_law_1655 : decode cL_law 1655 = .ok (.iload 4, 2) := dqo_21 4 (kb_25 55 rfl) (kb_25 56 rfl)
theorem dL_law_1657 : decode cL_law 1657 = .ok (.iconst 2, 1) := dqo_5 (kb_25 57 rfl)
theorem dL_law_1658 : decode cL_law 1658 = .ok (.iadd, 1) := dqo_96 (kb_25 58 rfl)
theorem dL_law_1659 : decode cL_law 1659 = .ok (.iaload, 1) := dqo_46 (kb_25 59 rfl)
theorem dL_law_1660 : decode cL_law 1660 = .ok (.aload_n 0, 1) := dqo_42 (kb_25 60 rfl)
theorem dL_law_1661 : decode cL_law 1661 = .ok (.iload 4, 2) := dqo_21 4 (kb_25 61 rfl) (kb_25 62 rfl)
theorem dL_law_1663 : decode cL_law 1663 = .ok (.iconst 3, 1) := dqo_6 (kb_25 63 rfl)
theorem dL_law_1664 : decode cL_law 1664 = .ok (.iadd, 1) := dqo_96 (kb_26 0 rfl)
theorem dL_law_1665 : decode cL_law 1665 = .ok (.iaload, 1) := dqo_46 (kb_26 1 rfl)
theorem dL_law_1666 : decode cL_law 1666 = .ok (.aload_n 0, 1) := dqo_42 (kb_26 2 rfl)
theorem dL_law_1667 : decode cL_law 1667 = .ok (.iload 4, 2) := dqo_21 4 (kb_26 3 rfl) (kb_26 4 rfl)
theorem dL_law_1669 : decode cL_law 1669 = .ok (.iconst 4, 1) := dqo_7 (kb_26 5 rfl)
theorem dL_law_1670 : decode cL_law 1670 = .ok (.iadd, 1) := dqo_96 (kb_26 6 rfl)
theorem dL_law_1671 : decode cL_law 1671 = .ok (.iaload, 1) := dqo_46 (kb_26 7 rfl)
theorem dL_law_1672 : decode cL_law 1672 = .ok (.invokevirtual 286, 3) := dqo_182 1 30 (kb_26 8 rfl) (kb_26 9 rfl) (kb_26 10 rfl)
theorem dL_law_1675 : decode cL_law 1675 = .ok (.istore 6, 2) := dqo_54 6 (kb_26 11 rfl) (kb_26 12 rfl)
theorem dL_law_1677 : decode cL_law 1677 = .ok (.goto 451, 3) := dqo_167 1 195 (by decide) (kb_26 13 rfl) (kb_26 14 rfl) (kb_26 15 rfl)
theorem dL_law_1680 : decode cL_law 1680 = .ok (.aload_n 1, 1) := dqo_43 (kb_26 16 rfl)
theorem dL_law_1681 : decode cL_law 1681 = .ok (.aload_n 0, 1) := dqo_42 (kb_26 17 rfl)
theorem dL_law_1682 : decode cL_law 1682 = .ok (.iload 4, 2) := dqo_21 4 (kb_26 18 rfl) (kb_26 19 rfl)
theorem dL_law_1684 : decode cL_law 1684 = .ok (.iconst 1, 1) := dqo_4 (kb_26 20 rfl)
theorem dL_law_1685 : decode cL_law 1685 = .ok (.iadd, 1) := dqo_96 (kb_26 21 rfl)
theorem dL_law_1686 : decode cL_law 1686 = .ok (.iaload, 1) := dqo_46 (kb_26 22 rfl)
theorem dL_law_1687 : decode cL_law 1687 = .ok (.aload_n 3, 1) := dqo_45 (kb_26 23 rfl)
theorem dL_law_1688 : decode cL_law 1688 = .ok (.invokestatic 287, 3) := dqo_184 1 31 (kb_26 24 rfl) (kb_26 25 rfl) (kb_26 26 rfl)
theorem dL_law_1691 : decode cL_law 1691 = .ok (.istore 5, 2) := dqo_54 5 (kb_26 27 rfl) (kb_26 28 rfl)
theorem dL_law_1693 : decode cL_law 1693 = .ok (.aload_n 2, 1) := dqo_44 (kb_26 29 rfl)
theorem dL_law_1694 : decode cL_law 1694 = .ok (.aload_n 0, 1) := dqo_42 (kb_26 30 rfl)
theorem dL_law_1695 : decode cL_law 1695 = .ok (.iload 4, 2) := dqo_21 4 (kb_26 31 rfl) (kb_26 32 rfl)
theorem dL_law_1697 : decode cL_law 1697 = .ok (.iconst 1, 1) := dqo_4 (kb_26 33 rfl)
theorem dL_law_1698 : decode cL_law 1698 = .ok (.iadd, 1) := dqo_96 (kb_26 34 rfl)
theorem dL_law_1699 : decode cL_law 1699 = .ok (.iaload, 1) := dqo_46 (kb_26 35 rfl)
theorem dL_law_1700 : decode cL_law 1700 = .ok (.invokevirtual 289, 3) := dqo_182 1 33 (kb_26 36 rfl) (kb_26 37 rfl) (kb_26 38 rfl)
theorem dL_law_1703 : decode cL_law 1703 = .ok (.istore 6, 2) := dqo_54 6 (kb_26 39 rfl) (kb_26 40 rfl)
theorem dL_law_1705 : decode cL_law 1705 = .ok (.goto 423, 3) := dqo_167 1 167 (by decide) (kb_26 41 rfl) (kb_26 42 rfl) (kb_26 43 rfl)
theorem S_indexOf {p : Program} {l : Launch} {e : Env} {s : State} {m : MethodId} {args : Array Value} {below : List Frame} {meth : Method} {c : Code} {D : va_G} {cy : Nat → ClassId} {A : Nat → Prop} {Q : State → Prop} {X : (Nat → Prop) → State → Heap → Prop} {aK aV : Nat → Nat} {tO tT : Nat} {gO gT : Nat → Int32} {a : Nat → Nat → Nat} {ba : Nat → Nat} {o b L i cells slots : Nat} {xs : Nat → Int32} {w : va_W} (C : Fg p s m args meth c cL_law 7 RL D cy A) (hE : X A s s.heap) (hT : EnvT X cy aK aV tO tT gO gT) (hN : EnvN X) (hl : l.stackTraces = false) (hx : va_X b L xs s s.heap) (hbl : b < s.heap.size) (hbA : ¬ A b) (hi : i + 5 ≤ L) (hL : L ≤ 2560) (hc : cells + 500 ≤ room_1.cells) (hs : slots + 10000 ≤ room_1.slots) (hJ : JW cy a ba o w) (kk : ∀ w' : va_W, JW cy a ba o w' → vW p l e room_1 s m args below meth c D vwCl A Q 7 (cells + 500) (slots + 10000) w' [some (.ref b), some (.ref (a 0 0)), some (.ref (ba 9)), some (.ref o), some (.int (nI i)), none, none] 2128 []) : vW p l e room_1 s m args below meth c D vwCl A Q 7 cells slots w [some (.ref b), some (.ref (a 0 0)), some (.ref (ba 9)), some (.ref o), some (.int (nI i)), none, none] 1224 [] := by
  have hX := hT.1.1
  obtain ⟨f, r, hf, hq, kn, ra, th, sm, n, v, hC, hB, hM, rfl⟩ := hJ
  refine r_aload_n C dL_law_1224 rfl ?_
  refine r_aload_n C dL_law_1225 rfl ?_
  refine r_iload C dL_law_1226 rfl ?_
  refine r_iconst (v := nI 1) C dL_law_1228 (by decide) ?_
  refine r_iaddN C dL_law_1229 ?_
  refine r_sld C hx hbl hbA (show i + 1 < L by omega) (by omega) dL_law_1230 ?_
  refine r_aload_n C dL_law_1231 rfl ?_
  refine r_iload C dL_law_1232 rfl ?_
  refine r_iconst (v := nI 2) C dL_law_1234 (by decide) ?_
  refine r_iaddN C dL_law_1235 ?_
  refine r_sld C hx hbl hbA (show i + 2 < L by omega) (by omega) dL_law_1236 ?_
  refine r_aload_n C dL_law_1237 rfl ?_
  refine c_SH (st := []) hX.1.stb C hE (W_indexOf hX.1 hN hC hB hM (P_indexOf hX hl hC hB hM (xs (i + 1)) (xs (i + 2)))) pk_L_indexOf qm_L_253 rfl rfl (Nat.le_of_ble_eq_true rfl) dL_law_1238 ⟨(Nat.le_of_ble_eq_true rfl), (Nat.le_of_ble_eq_true rfl)⟩ ⟨show cells + 1 ≤ room_1.cells by omega, show slots + 6 ≤ room_1.slots by omega⟩ (fun v9 w9 h9 => ?_) (fun _ h9 => h9.elim)
  obtain ⟨f', r', k, n1, rfl, rfl, hf', hq', n2, hC', hB', hM', hk0, hk4, h2⟩ := h9
  refine r_istore C dL_law_1241 (by decide) rfl ?_
  refine r_aload_n C dL_law_1243 rfl ?_
  refine r_aload_n C dL_law_1244 rfl ?_
  refine r_iload C dL_law_1245 rfl ?_
  refine r_iconst (v := nI 1) C dL_law_1247 (by decide) ?_
  refine r_iaddN C dL_law_1248 ?_
  refine r_sld C hx hbl hbA (show i + 1 < L by omega) (by omega) dL_law_1249 ?_
  refine r_aload_n C dL_law_1250 rfl ?_
  refine r_iload C dL_law_1251 rfl ?_
  refine r_iconst (v := nI 2) C dL_law_1253 (by decide) ?_
  refine r_iaddN C dL_law_1254 ?_
  refine r_sld C hx hbl hbA (show i + 2 < L by omega) (by omega) dL_law_1255 ?_
  refine t_swap3 ?_
  refine c_V (st := []) hX.1.stb C hE (h2 _) pk_X4_indexOf qm_L_255 0 8 rfl rfl wm_0 rfl rfl (Nat.le_of_ble_eq_true rfl) dL_law_1256 ⟨(Nat.le_of_ble_eq_true rfl), (Nat.le_of_ble_eq_true rfl)⟩ ⟨show cells + 1 + 4 ≤ room_1.cells by omega, show slots + 6 + 48 ≤ room_1.slots by omega⟩ (fun v9 w9 h9 => ?_) (fun _ h9 => h9.elim)
  obtain ⟨ra9, rfl, rfl⟩ := h9
  refine r_istore C dL_law_1259 (by decide) rfl ?_
  refine t_swap3 ?_
  refine r_goto (tgt := 2128) C dL_law_1261 (by decide) ?_
  refine r_widen (k := cells + 500) (n := slots + 10000) (show cells + 1 + 4 ≤ cells + 500 by omega) (show slots + 6 + 48 ≤ slots + 10000 by omega) ?_
  refine r_drop 5 ?_
  refine r_drop 6 ?_
  exact kk _ ⟨f', r', hf', hq', kn, ra9, _, sm, _, _, hC', hB', hM', rfl⟩
theorem S_lastIndexOf {p : Program} {l : Launch} {e : Env} {s : State} {m : MethodId} {args : Array Value} {below : List Frame} {meth : Method} {c : Code} {D : va_G} {cy : Nat → ClassId} {A : Nat → Prop} {Q : State → Prop} {X : (Nat → Prop) → State → Heap → Prop} {aK aV : Nat → Nat} {tO tT : Nat} {gO gT : Nat → Int32} {a : Nat → Nat → Nat} {ba : Nat → Nat} {o b L i cells slots : Nat} {xs : Nat → Int32} {w : va_W} (C : Fg p s m args meth c cL_law 7 RL D cy A) (hE : X A s s.heap) (hT : EnvT X cy aK aV tO tT gO gT) (hN : EnvN X) (hl : l.stackTraces = false) (hx : va_X b L xs s s.heap) (hbl : b < s.heap.size) (hbA : ¬ A b) (hi : i + 5 ≤ L) (hL : L ≤ 2560) (hc : cells + 500 ≤ room_1.cells) (hs : slots + 10000 ≤ room_1.slots) (hJ : JW cy a ba o w) (kk : ∀ w' : va_W, JW cy a ba o w' → vW p l e room_1 s m args below meth c D vwCl A Q 7 (cells + 500) (slots + 10000) w' [some (.ref b), some (.ref (a 0 0)), some (.ref (ba 9)), some (.ref o), some (.int (nI i)), none, none] 2128 []) : vW p l e room_1 s m args below meth c D vwCl A Q 7 cells slots w [some (.ref b), some (.ref (a 0 0)), some (.ref (ba 9)), some (.ref o), some (.int (nI i)), none, none] 1264 [] := by
  have hX := hT.1.1
  obtain ⟨f, r, hf, hq, kn, ra, th, sm, n, v, hC, hB, hM, rfl⟩ := hJ
  refine r_aload_n C dL_law_1264 rfl ?_
  refine r_aload_n C dL_law_1265 rfl ?_
  refine r_iload C dL_law_1266 rfl ?_
  refine r_iconst (v := nI 1) C dL_law_1268 (by decide) ?_
  refine r_iaddN C dL_law_1269 ?_
  refine r_sld C hx hbl hbA (show i + 1 < L by omega) (by omega) dL_law_1270 ?_
  refine r_aload_n C dL_law_1271 rfl ?_
  refine r_iload C dL_law_1272 rfl ?_
  refine r_iconst (v := nI 2) C dL_law_1274 (by decide) ?_
  refine r_iaddN C dL_law_1275 ?_
  refine r_sld C hx hbl hbA (show i + 2 < L by omega) (by omega) dL_law_1276 ?_
  refine r_aload_n C dL_law_1277 rfl ?_
  refine c_SH (st := []) hX.1.stb C hE (W_lastIndexOf hX.1 hN hC hB hM (P_lastIndexOf hX hl hC hB hM (xs (i + 1)) (xs (i + 2)))) pk_L_lastIndexOf qm_L_256 rfl rfl (Nat.le_of_ble_eq_true rfl) dL_law_1278 ⟨(Nat.le_of_ble_eq_true rfl), (Nat.le_of_ble_eq_true rfl)⟩ ⟨show cells + 1 ≤ room_1.cells by omega, show slots + 6 ≤ room_1.slots by omega⟩ (fun v9 w9 h9 => ?_) (fun _ h9 => h9.elim)
  obtain ⟨f', r', k, n1, rfl, rfl, hf', hq', n2, hC', hB', hM', hk0, hk4, h2⟩ := h9
  refine r_istore C dL_law_1281 (by decide) rfl ?_
  refine r_aload_n C dL_law_1283 rfl ?_
  refine r_aload_n C dL_law_1284 rfl ?_
  refine r_iload C dL_law_1285 rfl ?_
  refine r_iconst (v := nI 1) C dL_law_1287 (by decide) ?_
  refine r_iaddN C dL_law_1288 ?_
  refine r_sld C hx hbl hbA (show i + 1 < L by omega) (by omega) dL_law_1289 ?_
  refine r_aload_n C dL_law_1290 rfl ?_
  refine r_iload C dL_law_1291 rfl ?_
  refine r_iconst (v := nI 2) C dL_law_1293 (by decide) ?_
  refine r_iaddN C dL_law_1294 ?_
  refine r_sld C hx hbl hbA (show i + 2 < L by omega) (by omega) dL_law_1295 ?_
  refine t_swap3 ?_
  refine c_V (st := []) hX.1.stb C hE (h2 _) pk_X4_lastIndexOf qm_L_258 0 8 rfl rfl wm_0 rfl rfl (Nat.le_of_ble_eq_true rfl) dL_law_1296 ⟨(Nat.le_of_ble_eq_true rfl), (Nat.le_of_ble_eq_true rfl)⟩ ⟨show cells + 1 + 4 ≤ room_1.cells by omega, show slots + 6 + 48 ≤ room_1.slots by omega⟩ (fun v9 w9 h9 => ?_) (fun _ h9 => h9.elim)
  obtain ⟨ra9, rfl, rfl⟩ := h9
  refine r_istore C dL_law_1299 (by decide) rfl ?_
  refine t_swap3 ?_
  refine r_goto (tgt := 2128) C dL_law_1301 (by decide) ?_
  refine r_widen (k := cells + 500) (n := slots + 10000) (show cells + 1 + 4 ≤ cells + 500 by omega) (show slots + 6 + 48 ≤ slots + 10000 by omega) ?_
  refine r_drop 5 ?_
  refine r_drop 6 ?_
  exact kk _ ⟨f', r', hf', hq', kn, ra9, _, sm, _, _, hC', hB', hM', rfl⟩
theorem S_contains {p : Program} {l : Launch} {e : Env} {s : State} {m : MethodId} {args : Array Value} {below : List Frame} {meth : Method} {c : Code} {D : va_G} {cy : Nat → ClassId} {A : Nat → Prop} {Q : State → Prop} {X : (Nat → Prop) → State → Heap → Prop} {aK aV : Nat → Nat} {tO tT : Nat} {gO gT : Nat → Int32} {a : Nat → Nat → Nat} {ba : Nat → Nat} {o b L i cells slots : Nat} {xs : Nat → Int32} {w : va_W} (C : Fg p s m args meth c cL_law 7 RL D cy A) (hE : X A s s.heap) (hT : EnvT X cy aK aV tO tT gO gT) (hN : EnvN X) (hl : l.stackTraces = false) (hx : va_X b L xs s s.heap) (hbl : b < s.heap.size) (hbA : ¬ A b) (hi : i + 5 ≤ L) (hL : L ≤ 2560) (hc : cells + 500 ≤ room_1.cells) (hs : slots + 10000 ≤ room_1.slots) (hJ : JW cy a ba o w) (kk : ∀ w' : va_W, JW cy a ba o w' → vW p l e room_1 s m args below meth c D vwCl A Q 7 (cells + 500) (slots + 10000) w' [some (.ref b), some (.ref (a 0 0)), some (.ref (ba 9)), some (.ref o), some (.int (nI i)), none, none] 2128 []) : vW p l e room_1 s m args below meth c D vwCl A Q 7 cells slots w [some (.ref b), some (.ref (a 0 0)), some (.ref (ba 9)), some (.ref o), some (.int (nI i)), none, none] 1304 [] := by
  have hX := hT.1.1
  obtain ⟨f, r, hf, hq, kn, ra, th, sm, n, v, hC, hB, hM, rfl⟩ := hJ
  refine r_aload_n C dL_law_1304 rfl ?_
  refine r_aload_n C dL_law_1305 rfl ?_
  refine r_iload C dL_law_1306 rfl ?_
  refine r_iconst (v := nI 1) C dL_law_1308 (by decide) ?_
  refine r_iaddN C dL_law_1309 ?_
  refine r_sld C hx hbl hbA (show i + 1 < L by omega) (by omega) dL_law_1310 ?_
  refine r_aload_n C dL_law_1311 rfl ?_
  refine r_iload C dL_law_1312 rfl ?_
  refine r_iconst (v := nI 2) C dL_law_1314 (by decide) ?_
  refine r_iaddN C dL_law_1315 ?_
  refine r_sld C hx hbl hbA (show i + 2 < L by omega) (by omega) dL_law_1316 ?_
  refine r_aload_n C dL_law_1317 rfl ?_
  refine c_SH (st := []) hX.1.stb C hE (W_contains hX.1 hN hC hB hM (P_contains hX hl hC hB hM (xs (i + 1)) (xs (i + 2)))) pk_L_contains qm_L_259 rfl rfl (Nat.le_of_ble_eq_true rfl) dL_law_1318 ⟨(Nat.le_of_ble_eq_true rfl), (Nat.le_of_ble_eq_true rfl)⟩ ⟨show cells + 1 ≤ room_1.cells by omega, show slots + 6 ≤ room_1.slots by omega⟩ (fun v9 w9 h9 => ?_) (fun _ h9 => h9.elim)
  obtain ⟨f', r', k, n1, rfl, rfl, hf', hq', n2, hC', hB', hM', hk0, hk4, h2⟩ := h9
  refine r_istore C dL_law_1321 (by decide) rfl ?_
  refine r_aload_n C dL_law_1323 rfl ?_
  refine r_aload_n C dL_law_1324 rfl ?_
  refine r_iload C dL_law_1325 rfl ?_
  refine r_iconst (v := nI 1) C dL_law_1327 (by decide) ?_
  refine r_iaddN C dL_law_1328 ?_
  refine r_sld C hx hbl hbA (show i + 1 < L by omega) (by omega) dL_law_1329 ?_
  refine r_aload_n C dL_law_1330 rfl ?_
  refine r_iload C dL_law_1331 rfl ?_
  refine r_iconst (v := nI 2) C dL_law_1333 (by decide) ?_
  refine r_iaddN C dL_law_1334 ?_
  refine r_sld C hx hbl hbA (show i + 2 < L by omega) (by omega) dL_law_1335 ?_
  refine t_swap3 ?_
  refine c_V (st := []) hX.1.stb C hE (h2 _) pk_X4_contains qm_L_261 0 8 rfl rfl wm_0 rfl rfl (Nat.le_of_ble_eq_true rfl) dL_law_1336 ⟨(Nat.le_of_ble_eq_true rfl), (Nat.le_of_ble_eq_true rfl)⟩ ⟨show cells + 1 + 4 ≤ room_1.cells by omega, show slots + 6 + 48 ≤ room_1.slots by omega⟩ (fun v9 w9 h9 => ?_) (fun _ h9 => h9.elim)
  obtain ⟨ra9, rfl, rfl⟩ := h9
  refine r_istore C dL_law_1339 (by decide) rfl ?_
  refine t_swap3 ?_
  refine r_goto (tgt := 2128) C dL_law_1341 (by decide) ?_
  refine r_widen (k := cells + 500) (n := slots + 10000) (show cells + 1 + 4 ≤ cells + 500 by omega) (show slots + 6 + 48 ≤ slots + 10000 by omega) ?_
  refine r_drop 5 ?_
  refine r_drop 6 ?_
  exact kk _ ⟨f', r', hf', hq', kn, ra9, _, sm, _, _, hC', hB', hM', rfl⟩
theorem S_howOften {p : Program} {l : Launch} {e : Env} {s : State} {m : MethodId} {args : Array Value} {below : List Frame} {meth : Method} {c : Code} {D : va_G} {cy : Nat → ClassId} {A : Nat → Prop} {Q : State → Prop} {X : (Nat → Prop) → State → Heap → Prop} {aK aV : Nat → Nat} {tO tT : Nat} {gO gT : Nat → Int32} {a : Nat → Nat → Nat} {ba : Nat → Nat} {o b L i cells slots : Nat} {xs : Nat → Int32} {w : va_W} (C : Fg p s m args meth c cL_law 7 RL D cy A) (hE : X A s s.heap) (hT : EnvT X cy aK aV tO tT gO gT) (hN : EnvN X) (hl : l.stackTraces = false) (hx : va_X b L xs s s.heap) (hbl : b < s.heap.size) (hbA : ¬ A b) (hi : i + 5 ≤ L) (hL : L ≤ 2560) (hc : cells + 500 ≤ room_1.cells) (hs : slots + 10000 ≤ room_1.slots) (hJ : JW cy a ba o w) (kk : ∀ w' : va_W, JW cy a ba o w' → vW p l e room_1 s m args below meth c D vwCl A Q 7 (cells + 500) (slots + 10000) w' [some (.ref b), some (.ref (a 0 0)), some (.ref (ba 9)), some (.ref o), some (.int (nI i)), none, none] 2128 []) : vW p l e room_1 s m args below meth c D vwCl A Q 7 cells slots w [some (.ref b), some (.ref (a 0 0)), some (.ref (ba 9)), some (.ref o), some (.int (nI i)), none, none] 1344 [] := by
  have hX := hT.1.1
  obtain ⟨f, r, hf, hq, kn, ra, th, sm, n, v, hC, hB, hM, rfl⟩ := hJ
  refine r_aload_n C dL_law_1344 rfl ?_
  refine r_aload_n C dL_law_1345 rfl ?_
  refine r_iload C dL_law_1346 rfl ?_
  refine r_iconst (v := nI 1) C dL_law_1348 (by decide) ?_
  refine r_iaddN C dL_law_1349 ?_
  refine r_sld C hx hbl hbA (show i + 1 < L by omega) (by omega) dL_law_1350 ?_
  refine r_aload_n C dL_law_1351 rfl ?_
  refine r_iload C dL_law_1352 rfl ?_
  refine r_iconst (v := nI 2) C dL_law_1354 (by decide) ?_
  refine r_iaddN C dL_law_1355 ?_
  refine r_sld C hx hbl hbA (show i + 2 < L by omega) (by omega) dL_law_1356 ?_
  refine r_aload_n C dL_law_1357 rfl ?_
  refine c_SH (st := []) hX.1.stb C hE (W_howOften hX.1 hN hC hB hM (P_howOften hX hl hC hB hM (xs (i + 1)) (xs (i + 2)))) pk_L_howOften qm_L_262 rfl rfl (Nat.le_of_ble_eq_true rfl) dL_law_1358 ⟨(Nat.le_of_ble_eq_true rfl), (Nat.le_of_ble_eq_true rfl)⟩ ⟨show cells + 1 ≤ room_1.cells by omega, show slots + 6 ≤ room_1.slots by omega⟩ (fun v9 w9 h9 => ?_) (fun _ h9 => h9.elim)
  obtain ⟨f', r', k, n1, rfl, rfl, hf', hq', n2, hC', hB', hM', hk0, hk4, h2⟩ := h9
  refine r_istore C dL_law_1361 (by decide) rfl ?_
  refine r_aload_n C dL_law_1363 rfl ?_
  refine r_aload_n C dL_law_1364 rfl ?_
  refine r_iload C dL_law_1365 rfl ?_
  refine r_iconst (v := nI 1) C dL_law_1367 (by decide) ?_
  refine r_iaddN C dL_law_1368 ?_
  refine r_sld C hx hbl hbA (show i + 1 < L by omega) (by omega) dL_law_1369 ?_
  refine r_aload_n C dL_law_1370 rfl ?_
  refine r_iload C dL_law_1371 rfl ?_
  refine r_iconst (v := nI 2) C dL_law_1373 (by decide) ?_
  refine r_iaddN C dL_law_1374 ?_
  refine r_sld C hx hbl hbA (show i + 2 < L by omega) (by omega) dL_law_1375 ?_
  refine t_swap3 ?_
  refine c_V (st := []) hX.1.stb C hE (h2 _) pk_X4_howOften qm_L_264 0 8 rfl rfl wm_0 rfl rfl (Nat.le_of_ble_eq_true rfl) dL_law_1376 ⟨(Nat.le_of_ble_eq_true rfl), (Nat.le_of_ble_eq_true rfl)⟩ ⟨show cells + 1 + 4 ≤ room_1.cells by omega, show slots + 6 + 48 ≤ room_1.slots by omega⟩ (fun v9 w9 h9 => ?_) (fun _ h9 => h9.elim)
  obtain ⟨ra9, rfl, rfl⟩ := h9
  refine r_istore C dL_law_1379 (by decide) rfl ?_
  refine t_swap3 ?_
  refine r_goto (tgt := 2128) C dL_law_1381 (by decide) ?_
  refine r_widen (k := cells + 500) (n := slots + 10000) (show cells + 1 + 4 ≤ cells + 500 by omega) (show slots + 6 + 48 ≤ slots + 10000 by omega) ?_
  refine r_drop 5 ?_
  refine r_drop 6 ?_
  exact kk _ ⟨f', r', hf', hq', kn, ra9, _, sm, _, _, hC', hB', hM', rfl⟩
theorem S_least {p : Program} {l : Launch} {e : Env} {s : State} {m : MethodId} {args : Array Value} {below : List Frame} {meth : Method} {c : Code} {D : va_G} {cy : Nat → ClassId} {A : Nat → Prop} {Q : State → Prop} {X : (Nat → Prop) → State → Heap → Prop} {aK aV : Nat → Nat} {tO tT : Nat} {gO gT : Nat → Int32} {a : Nat → Nat → Nat} {ba : Nat → Nat} {o b L i cells slots : Nat} {xs : Nat → Int32} {w : va_W} (C : Fg p s m args meth c cL_law 7 RL D cy A) (hE : X A s s.heap) (hT : EnvT X cy aK aV tO tT gO gT) (hN : EnvN X) (hl : l.stackTraces = false) (hx : va_X b L xs s s.heap) (hbl : b < s.heap.size) (hbA : ¬ A b) (hi : i + 5 ≤ L) (hL : L ≤ 2560) (hc : cells + 500 ≤ room_1.cells) (hs : slots + 10000 ≤ room_1.slots) (hJ : JW cy a ba o w) (kk : ∀ w' : va_W, JW cy a ba o w' → vW p l e room_1 s m args below meth c D vwCl A Q 7 (cells + 500) (slots + 10000) w' [some (.ref b), some (.ref (a 0 0)), some (.ref (ba 9)), some (.ref o), some (.int (nI i)), none, none] 2128 []) : vW p l e room_1 s m args below meth c D vwCl A Q 7 cells slots w [some (.ref b), some (.ref (a 0 0)), some (.ref (ba 9)), some (.ref o), some (.int (nI i)), none, none] 1384 [] := by
  by_cases h0 : xs (i + 2) = 0
  · skip
    have hX := hT.1.1
    obtain ⟨f, r, hf, hq, kn, ra, th, sm, n, v, hC, hB, hM, rfl⟩ := hJ
    refine r_aload_n C dL_law_1384 rfl ?_
    refine r_aload_n C dL_law_1385 rfl ?_
    refine r_iload C dL_law_1386 rfl ?_
    refine r_iconst (v := nI 1) C dL_law_1388 (by decide) ?_
    refine r_iaddN C dL_law_1389 ?_
    refine r_sld C hx hbl hbA (show i + 1 < L by omega) (by omega) dL_law_1390 ?_
    refine r_aload_n C dL_law_1391 rfl ?_
    refine r_iload C dL_law_1392 rfl ?_
    refine r_iconst (v := nI 2) C dL_law_1394 (by decide) ?_
    refine r_iaddN C dL_law_1395 ?_
    refine r_sld C hx hbl hbA (show i + 2 < L by omega) (by omega) dL_law_1396 ?_
    refine r_if_eq (tgt := 1404) C dL_law_1397 (by decide) (fun _ => ?_) (fun hne => absurd h0 hne)
    refine r_iconst (v := nI 0) C dL_law_1404 (by decide) ?_
    refine r_aload_n C dL_law_1405 rfl ?_
    refine c_SH (st := []) hX.1.stb C hE (W_least hX.1 hN hC hB hM (P_least hX hl hC hB hM (xs (i + 1)) (b0 := 0) (by decide))) pk_L_least qm_L_265 rfl rfl (Nat.le_of_ble_eq_true rfl) dL_law_1406 ⟨(Nat.le_of_ble_eq_true rfl), (Nat.le_of_ble_eq_true rfl)⟩ ⟨show cells + 1 ≤ room_1.cells by omega, show slots + 6 ≤ room_1.slots by omega⟩ (fun v9 w9 h9 => ?_) (fun _ h9 => h9.elim)
    obtain ⟨f', r', k, n1, rfl, rfl, hf', hq', n2, hC', hB', hM', hk0, hk4, h2⟩ := h9
    refine r_istore C dL_law_1409 (by decide) rfl ?_
    refine r_aload_n C dL_law_1411 rfl ?_
    refine r_aload_n C dL_law_1412 rfl ?_
    refine r_iload C dL_law_1413 rfl ?_
    refine r_iconst (v := nI 1) C dL_law_1415 (by decide) ?_
    refine r_iaddN C dL_law_1416 ?_
    refine r_sld C hx hbl hbA (show i + 1 < L by omega) (by omega) dL_law_1417 ?_
    refine r_aload_n C dL_law_1418 rfl ?_
    refine r_iload C dL_law_1419 rfl ?_
    refine r_iconst (v := nI 2) C dL_law_1421 (by decide) ?_
    refine r_iaddN C dL_law_1422 ?_
    refine r_sld C hx hbl hbA (show i + 2 < L by omega) (by omega) dL_law_1423 ?_
    refine r_if_eq (tgt := 1431) C dL_law_1424 (by decide) (fun _ => ?_) (fun hne => absurd h0 hne)
    refine r_iconst (v := nI 0) C dL_law_1431 (by decide) ?_
    refine t_swap3 ?_
    refine c_V (st := []) hX.1.stb C hE (h2 _) pk_X4_least qm_L_268 0 8 rfl rfl wm_0 rfl rfl (Nat.le_of_ble_eq_true rfl) dL_law_1432 ⟨(Nat.le_of_ble_eq_true rfl), (Nat.le_of_ble_eq_true rfl)⟩ ⟨show cells + 1 + 4 ≤ room_1.cells by omega, show slots + 6 + 48 ≤ room_1.slots by omega⟩ (fun v9 w9 h9 => ?_) (fun _ h9 => h9.elim)
    obtain ⟨ra9, rfl, rfl⟩ := h9
    refine r_istore C dL_law_1435 (by decide) rfl ?_
    refine t_swap3 ?_
    refine r_goto (tgt := 2128) C dL_law_1437 (by decide) ?_
    refine r_widen (k := cells + 500) (n := slots + 10000) (show cells + 1 + 4 ≤ cells + 500 by omega) (show slots + 6 + 48 ≤ slots + 10000 by omega) ?_
    refine r_drop 5 ?_
    refine r_drop 6 ?_
    exact kk _ ⟨f', r', hf', hq', kn, ra9, _, sm, _, _, hC', hB', hM', rfl⟩
  · skip
    have hX := hT.1.1
    obtain ⟨f, r, hf, hq, kn, ra, th, sm, n, v, hC, hB, hM, rfl⟩ := hJ
    refine r_aload_n C dL_law_1384 rfl ?_
    refine r_aload_n C dL_law_1385 rfl ?_
    refine r_iload C dL_law_1386 rfl ?_
    refine r_iconst (v := nI 1) C dL_law_1388 (by decide) ?_
    refine r_iaddN C dL_law_1389 ?_
    refine r_sld C hx hbl hbA (show i + 1 < L by omega) (by omega) dL_law_1390 ?_
    refine r_aload_n C dL_law_1391 rfl ?_
    refine r_iload C dL_law_1392 rfl ?_
    refine r_iconst (v := nI 2) C dL_law_1394 (by decide) ?_
    refine r_iaddN C dL_law_1395 ?_
    refine r_sld C hx hbl hbA (show i + 2 < L by omega) (by omega) dL_law_1396 ?_
    refine r_if_eq (tgt := 1404) C dL_law_1397 (by decide) (fun he => absurd he h0) (fun _ => ?_)
    refine r_iconst (v := nI 1) C dL_law_1400 (by decide) ?_
    refine r_goto (tgt := 1405) C dL_law_1401 (by decide) ?_
    refine r_aload_n C dL_law_1405 rfl ?_
    refine c_SH (st := []) hX.1.stb C hE (W_least hX.1 hN hC hB hM (P_least hX hl hC hB hM (xs (i + 1)) (b0 := 1) (by decide))) pk_L_least qm_L_265 rfl rfl (Nat.le_of_ble_eq_true rfl) dL_law_1406 ⟨(Nat.le_of_ble_eq_true rfl), (Nat.le_of_ble_eq_true rfl)⟩ ⟨show cells + 1 ≤ room_1.cells by omega, show slots + 6 ≤ room_1.slots by omega⟩ (fun v9 w9 h9 => ?_) (fun _ h9 => h9.elim)
    obtain ⟨f', r', k, n1, rfl, rfl, hf', hq', n2, hC', hB', hM', hk0, hk4, h2⟩ := h9
    refine r_istore C dL_law_1409 (by decide) rfl ?_
    refine r_aload_n C dL_law_1411 rfl ?_
    refine r_aload_n C dL_law_1412 rfl ?_
    refine r_iload C dL_law_1413 rfl ?_
    refine r_iconst (v := nI 1) C dL_law_1415 (by decide) ?_
    refine r_iaddN C dL_law_1416 ?_
    refine r_sld C hx hbl hbA (show i + 1 < L by omega) (by omega) dL_law_1417 ?_
    refine r_aload_n C dL_law_1418 rfl ?_
    refine r_iload C dL_law_1419 rfl ?_
    refine r_iconst (v := nI 2) C dL_law_1421 (by decide) ?_
    refine r_iaddN C dL_law_1422 ?_
    refine r_sld C hx hbl hbA (show i + 2 < L by omega) (by omega) dL_law_1423 ?_
    refine r_if_eq (tgt := 1431) C dL_law_1424 (by decide) (fun he => absurd he h0) (fun _ => ?_)
    refine r_iconst (v := nI 1) C dL_law_1427 (by decide) ?_
    refine r_goto (tgt := 1432) C dL_law_1428 (by decide) ?_
    refine t_swap3 ?_
    refine c_V (st := []) hX.1.stb C hE (h2 _) pk_X4_least qm_L_268 0 8 rfl rfl wm_0 rfl rfl (Nat.le_of_ble_eq_true rfl) dL_law_1432 ⟨(Nat.le_of_ble_eq_true rfl), (Nat.le_of_ble_eq_true rfl)⟩ ⟨show cells + 1 + 4 ≤ room_1.cells by omega, show slots + 6 + 48 ≤ room_1.slots by omega⟩ (fun v9 w9 h9 => ?_) (fun _ h9 => h9.elim)
    obtain ⟨ra9, rfl, rfl⟩ := h9
    refine r_istore C dL_law_1435 (by decide) rfl ?_
    refine t_swap3 ?_
    refine r_goto (tgt := 2128) C dL_law_1437 (by decide) ?_
    refine r_widen (k := cells + 500) (n := slots + 10000) (show cells + 1 + 4 ≤ cells + 500 by omega) (show slots + 6 + 48 ≤ slots + 10000 by omega) ?_
    refine r_drop 5 ?_
    refine r_drop 6 ?_
    exact kk _ ⟨f', r', hf', hq', kn, ra9, _, sm, _, _, hC', hB', hM', rfl⟩
theorem S_areApart {p : Program} {l : Launch} {e : Env} {s : State} {m : MethodId} {args : Array Value} {below : List Frame} {meth : Method} {c : Code} {D : va_G} {cy : Nat → ClassId} {A : Nat → Prop} {Q : State → Prop} {X : (Nat → Prop) → State → Heap → Prop} {aK aV : Nat → Nat} {tO tT : Nat} {gO gT : Nat → Int32} {a : Nat → Nat → Nat} {ba : Nat → Nat} {o b L i cells slots : Nat} {xs : Nat → Int32} {w : va_W} (C : Fg p s m args meth c cL_law 7 RL D cy A) (hE : X A s s.heap) (hT : EnvT X cy aK aV tO tT gO gT) (hN : EnvN X) (hl : l.stackTraces = false) (hx : va_X b L xs s s.heap) (hbl : b < s.heap.size) (hbA : ¬ A b) (hi : i + 5 ≤ L) (hL : L ≤ 2560) (hc : cells + 500 ≤ room_1.cells) (hs : slots + 10000 ≤ room_1.slots) (hJ : JW cy a ba o w) (kk : ∀ w' : va_W, JW cy a ba o w' → vW p l e room_1 s m args below meth c D vwCl A Q 7 (cells + 500) (slots + 10000) w' [some (.ref b), some (.ref (a 0 0)), some (.ref (ba 9)), some (.ref o), some (.int (nI i)), none, none] 2128 []) : vW p l e room_1 s m args below meth c D vwCl A Q 7 cells slots w [some (.ref b), some (.ref (a 0 0)), some (.ref (ba 9)), some (.ref o), some (.int (nI i)), none, none] 1440 [] := by
  have hX := hT.1.1
  obtain ⟨f, r, hf, hq, kn, ra, th, sm, n, v, hC, hB, hM, rfl⟩ := hJ
  refine r_aload_n C dL_law_1440 rfl ?_
  refine r_aload_n C dL_law_1441 rfl ?_
  refine r_iload C dL_law_1442 rfl ?_
  refine r_iconst (v := nI 1) C dL_law_1444 (by decide) ?_
  refine r_iaddN C dL_law_1445 ?_
  refine r_sld C hx hbl hbA (show i + 1 < L by omega) (by omega) dL_law_1446 ?_
  refine r_aload_n C dL_law_1447 rfl ?_
  refine r_iload C dL_law_1448 rfl ?_
  refine r_iconst (v := nI 2) C dL_law_1450 (by decide) ?_
  refine r_iaddN C dL_law_1451 ?_
  refine r_sld C hx hbl hbA (show i + 2 < L by omega) (by omega) dL_law_1452 ?_
  refine r_aload_n C dL_law_1453 rfl ?_
  refine c_SH (st := []) hX.1.stb C hE (W_areApart hX.1 hN hC hB hM (P_areApart hX hl hC hB hM (xs (i + 1)) (xs (i + 2)))) pk_L_areApart qm_L_269 rfl rfl (Nat.le_of_ble_eq_true rfl) dL_law_1454 ⟨(Nat.le_of_ble_eq_true rfl), (Nat.le_of_ble_eq_true rfl)⟩ ⟨show cells + 1 ≤ room_1.cells by omega, show slots + 6 ≤ room_1.slots by omega⟩ (fun v9 w9 h9 => ?_) (fun _ h9 => h9.elim)
  obtain ⟨f', r', k, n1, rfl, rfl, hf', hq', n2, hC', hB', hM', hk0, hk4, h2⟩ := h9
  refine r_istore C dL_law_1457 (by decide) rfl ?_
  refine r_aload_n C dL_law_1459 rfl ?_
  refine r_aload_n C dL_law_1460 rfl ?_
  refine r_iload C dL_law_1461 rfl ?_
  refine r_iconst (v := nI 1) C dL_law_1463 (by decide) ?_
  refine r_iaddN C dL_law_1464 ?_
  refine r_sld C hx hbl hbA (show i + 1 < L by omega) (by omega) dL_law_1465 ?_
  refine r_aload_n C dL_law_1466 rfl ?_
  refine r_iload C dL_law_1467 rfl ?_
  refine r_iconst (v := nI 2) C dL_law_1469 (by decide) ?_
  refine r_iaddN C dL_law_1470 ?_
  refine r_sld C hx hbl hbA (show i + 2 < L by omega) (by omega) dL_law_1471 ?_
  refine t_swap3 ?_
  refine c_V (st := []) hX.1.stb C hE (h2 _) pk_X4_areApart qm_L_271 0 8 rfl rfl wm_0 rfl rfl (Nat.le_of_ble_eq_true rfl) dL_law_1472 ⟨(Nat.le_of_ble_eq_true rfl), (Nat.le_of_ble_eq_true rfl)⟩ ⟨show cells + 1 + 4 ≤ room_1.cells by omega, show slots + 6 + 48 ≤ room_1.slots by omega⟩ (fun v9 w9 h9 => ?_) (fun _ h9 => h9.elim)
  obtain ⟨ra9, rfl, rfl⟩ := h9
  refine r_istore C dL_law_1475 (by decide) rfl ?_
  refine t_swap3 ?_
  refine r_goto (tgt := 2128) C dL_law_1477 (by decide) ?_
  refine r_widen (k := cells + 500) (n := slots + 10000) (show cells + 1 + 4 ≤ cells + 500 by omega) (show slots + 6 + 48 ≤ slots + 10000 by omega) ?_
  refine r_drop 5 ?_
  refine r_drop 6 ?_
  exact kk _ ⟨f', r', hf', hq', kn, ra9, _, sm, _, _, hC', hB', hM', rfl⟩
theorem S_areSame {p : Program} {l : Launch} {e : Env} {s : State} {m : MethodId} {args : Array Value} {below : List Frame} {meth : Method} {c : Code} {D : va_G} {cy : Nat → ClassId} {A : Nat → Prop} {Q : State → Prop} {X : (Nat → Prop) → State → Heap → Prop} {aK aV : Nat → Nat} {tO tT : Nat} {gO gT : Nat → Int32} {a : Nat → Nat → Nat} {ba : Nat → Nat} {o b L i cells slots : Nat} {xs : Nat → Int32} {w : va_W} (C : Fg p s m args meth c cL_law 7 RL D cy A) (hE : X A s s.heap) (hT : EnvT X cy aK aV tO tT gO gT) (hN : EnvN X) (hl : l.stackTraces = false) (hx : va_X b L xs s s.heap) (hbl : b < s.heap.size) (hbA : ¬ A b) (hi : i + 5 ≤ L) (hL : L ≤ 2560) (hc : cells + 500 ≤ room_1.cells) (hs : slots + 10000 ≤ room_1.slots) (hJ : JW cy a ba o w) (kk : ∀ w' : va_W, JW cy a ba o w' → vW p l e room_1 s m args below meth c D vwCl A Q 7 (cells + 500) (slots + 10000) w' [some (.ref b), some (.ref (a 0 0)), some (.ref (ba 9)), some (.ref o), some (.int (nI i)), none, none] 2128 []) : vW p l e room_1 s m args below meth c D vwCl A Q 7 cells slots w [some (.ref b), some (.ref (a 0 0)), some (.ref (ba 9)), some (.ref o), some (.int (nI i)), none, none] 1480 [] := by
  have hX := hT.1.1
  obtain ⟨f, r, hf, hq, kn, ra, th, sm, n, v, hC, hB, hM, rfl⟩ := hJ
  refine r_aload_n C dL_law_1480 rfl ?_
  refine r_aload_n C dL_law_1481 rfl ?_
  refine r_iload C dL_law_1482 rfl ?_
  refine r_iconst (v := nI 1) C dL_law_1484 (by decide) ?_
  refine r_iaddN C dL_law_1485 ?_
  refine r_sld C hx hbl hbA (show i + 1 < L by omega) (by omega) dL_law_1486 ?_
  refine r_aload_n C dL_law_1487 rfl ?_
  refine r_iload C dL_law_1488 rfl ?_
  refine r_iconst (v := nI 2) C dL_law_1490 (by decide) ?_
  refine r_iaddN C dL_law_1491 ?_
  refine r_sld C hx hbl hbA (show i + 2 < L by omega) (by omega) dL_law_1492 ?_
  refine r_aload_n C dL_law_1493 rfl ?_
  refine c_SH (st := []) hX.1.stb C hE (W_areSame hX.1 hN hC hB hM (P_areSame hX hl hC hB hM (xs (i + 1)) (xs (i + 2)))) pk_L_areSame qm_L_272 rfl rfl (Nat.le_of_ble_eq_true rfl) dL_law_1494 ⟨(Nat.le_of_ble_eq_true rfl), (Nat.le_of_ble_eq_true rfl)⟩ ⟨show cells + 1 ≤ room_1.cells by omega, show slots + 6 ≤ room_1.slots by omega⟩ (fun v9 w9 h9 => ?_) (fun _ h9 => h9.elim)
  obtain ⟨f', r', k, n1, rfl, rfl, hf', hq', n2, hC', hB', hM', hk0, hk4, h2⟩ := h9
  refine r_istore C dL_law_1497 (by decide) rfl ?_
  refine r_aload_n C dL_law_1499 rfl ?_
  refine r_aload_n C dL_law_1500 rfl ?_
  refine r_iload C dL_law_1501 rfl ?_
  refine r_iconst (v := nI 1) C dL_law_1503 (by decide) ?_
  refine r_iaddN C dL_law_1504 ?_
  refine r_sld C hx hbl hbA (show i + 1 < L by omega) (by omega) dL_law_1505 ?_
  refine r_aload_n C dL_law_1506 rfl ?_
  refine r_iload C dL_law_1507 rfl ?_
  refine r_iconst (v := nI 2) C dL_law_1509 (by decide) ?_
  refine r_iaddN C dL_law_1510 ?_
  refine r_sld C hx hbl hbA (show i + 2 < L by omega) (by omega) dL_law_1511 ?_
  refine t_swap3 ?_
  refine c_V (st := []) hX.1.stb C hE (h2 _) pk_X4_areSame qm_L_274 0 8 rfl rfl wm_0 rfl rfl (Nat.le_of_ble_eq_true rfl) dL_law_1512 ⟨(Nat.le_of_ble_eq_true rfl), (Nat.le_of_ble_eq_true rfl)⟩ ⟨show cells + 1 + 4 ≤ room_1.cells by omega, show slots + 6 + 48 ≤ room_1.slots by omega⟩ (fun v9 w9 h9 => ?_) (fun _ h9 => h9.elim)
  obtain ⟨ra9, rfl, rfl⟩ := h9
  refine r_istore C dL_law_1515 (by decide) rfl ?_
  refine t_swap3 ?_
  refine r_goto (tgt := 2128) C dL_law_1517 (by decide) ?_
  refine r_widen (k := cells + 500) (n := slots + 10000) (show cells + 1 + 4 ≤ cells + 500 by omega) (show slots + 6 + 48 ≤ slots + 10000 by omega) ?_
  refine r_drop 5 ?_
  refine r_drop 6 ?_
  exact kk _ ⟨f', r', hf', hq', kn, ra9, _, sm, _, _, hC', hB', hM', rfl⟩
theorem S_hash {p : Program} {l : Launch} {e : Env} {s : State} {m : MethodId} {args : Array Value} {below : List Frame} {meth : Method} {c : Code} {D : va_G} {cy : Nat → ClassId} {A : Nat → Prop} {Q : State → Prop} {X : (Nat → Prop) → State → Heap → Prop} {aK aV : Nat → Nat} {tO tT : Nat} {gO gT : Nat → Int32} {a : Nat → Nat → Nat} {ba : Nat → Nat} {o b L i cells slots : Nat} {xs : Nat → Int32} {w : va_W} (C : Fg p s m args meth c cL_law 7 RL D cy A) (hE : X A s s.heap) (hT : EnvT X cy aK aV tO tT gO gT) (hN : EnvN X) (hl : l.stackTraces = false) (hx : va_X b L xs s s.heap) (hbl : b < s.heap.size) (hbA : ¬ A b) (hi : i + 5 ≤ L) (hL : L ≤ 2560) (hc : cells + 500 ≤ room_1.cells) (hs : slots + 10000 ≤ room_1.slots) (hJ : JW cy a ba o w) (kk : ∀ w' : va_W, JW cy a ba o w' → vW p l e room_1 s m args below meth c D vwCl A Q 7 (cells + 500) (slots + 10000) w' [some (.ref b), some (.ref (a 0 0)), some (.ref (ba 9)), some (.ref o), some (.int (nI i)), none, none] 2128 []) : vW p l e room_1 s m args below meth c D vwCl A Q 7 cells slots w [some (.ref b), some (.ref (a 0 0)), some (.ref (ba 9)), some (.ref o), some (.int (nI i)), none, none] 1520 [] := by
  have hX := hT.1.1
  obtain ⟨f, r, hf, hq, kn, ra, th, sm, n, v, hC, hB, hM, rfl⟩ := hJ
  refine r_aload_n C dL_law_1520 rfl ?_
  refine r_aload_n C dL_law_1521 rfl ?_
  refine r_iload C dL_law_1522 rfl ?_
  refine r_iconst (v := nI 1) C dL_law_1524 (by decide) ?_
  refine r_iaddN C dL_law_1525 ?_
  refine r_sld C hx hbl hbA (show i + 1 < L by omega) (by omega) dL_law_1526 ?_
  refine r_aload_n C dL_law_1527 rfl ?_
  refine c_SH (st := []) hX.1.stb C hE (W_hash hX.1 hN hC hB hM (P_hash hX hl hC hB hM (xs (i + 1)))) pk_L_hash qm_L_275 rfl rfl (Nat.le_of_ble_eq_true rfl) dL_law_1528 ⟨(Nat.le_of_ble_eq_true rfl), (Nat.le_of_ble_eq_true rfl)⟩ ⟨show cells + 1 ≤ room_1.cells by omega, show slots + 6 ≤ room_1.slots by omega⟩ (fun v9 w9 h9 => ?_) (fun _ h9 => h9.elim)
  obtain ⟨f', r', k, n1, rfl, rfl, hf', hq', n2, hC', hB', hM', hk0, hk4, h2⟩ := h9
  refine r_istore C dL_law_1531 (by decide) rfl ?_
  refine r_aload_n C dL_law_1533 rfl ?_
  refine r_aload_n C dL_law_1534 rfl ?_
  refine r_iload C dL_law_1535 rfl ?_
  refine r_iconst (v := nI 1) C dL_law_1537 (by decide) ?_
  refine r_iaddN C dL_law_1538 ?_
  refine r_sld C hx hbl hbA (show i + 1 < L by omega) (by omega) dL_law_1539 ?_
  refine t_swap3 ?_
  refine c_V (st := []) hX.1.stb C hE (h2 _) pk_X4_hash qm_L_277 0 8 rfl rfl wm_0 rfl rfl (Nat.le_of_ble_eq_true rfl) dL_law_1540 ⟨(Nat.le_of_ble_eq_true rfl), (Nat.le_of_ble_eq_true rfl)⟩ ⟨show cells + 1 + 4 ≤ room_1.cells by omega, show slots + 6 + 48 ≤ room_1.slots by omega⟩ (fun v9 w9 h9 => ?_) (fun _ h9 => h9.elim)
  obtain ⟨ra9, rfl, rfl⟩ := h9
  refine r_istore C dL_law_1543 (by decide) rfl ?_
  refine t_swap3 ?_
  refine r_goto (tgt := 2128) C dL_law_1545 (by decide) ?_
  refine r_widen (k := cells + 500) (n := slots + 10000) (show cells + 1 + 4 ≤ cells + 500 by omega) (show slots + 6 + 48 ≤ slots + 10000 by omega) ?_
  refine r_drop 5 ?_
  refine r_drop 6 ?_
  exact kk _ ⟨f', r', hf', hq', kn, ra9, _, sm, _, _, hC', hB', hM', rfl⟩
theorem S_text {p : Program} {l : Launch} {e : Env} {s : State} {m : MethodId} {args : Array Value} {below : List Frame} {meth : Method} {c : Code} {D : va_G} {cy : Nat → ClassId} {A : Nat → Prop} {Q : State → Prop} {X : (Nat → Prop) → State → Heap → Prop} {aK aV : Nat → Nat} {tO tT : Nat} {gO gT : Nat → Int32} {a : Nat → Nat → Nat} {ba : Nat → Nat} {o b L i cells slots : Nat} {xs : Nat → Int32} {w : va_W} (C : Fg p s m args meth c cL_law 7 RL D cy A) (hE : X A s s.heap) (hT : EnvT X cy aK aV tO tT gO gT) (hN : EnvN X) (hl : l.stackTraces = false) (hx : va_X b L xs s s.heap) (hbl : b < s.heap.size) (hbA : ¬ A b) (hi : i + 5 ≤ L) (hL : L ≤ 2560) (hc : cells + 500 ≤ room_1.cells) (hs : slots + 10000 ≤ room_1.slots) (hJ : JW cy a ba o w) (kk : ∀ w' : va_W, JW cy a ba o w' → vW p l e room_1 s m args below meth c D vwCl A Q 7 (cells + 500) (slots + 10000) w' [some (.ref b), some (.ref (a 0 0)), some (.ref (ba 9)), some (.ref o), some (.int (nI i)), none, none] 2128 []) : vW p l e room_1 s m args below meth c D vwCl A Q 7 cells slots w [some (.ref b), some (.ref (a 0 0)), some (.ref (ba 9)), some (.ref o), some (.int (nI i)), none, none] 1548 [] := by
  have hX := hT.1.1
  obtain ⟨f, r, hf, hq, kn, ra, th, sm, n, v, hC, hB, hM, rfl⟩ := hJ
  refine r_aload_n C dL_law_1548 rfl ?_
  refine r_aload_n C dL_law_1549 rfl ?_
  refine r_iload C dL_law_1550 rfl ?_
  refine r_iconst (v := nI 1) C dL_law_1552 (by decide) ?_
  refine r_iaddN C dL_law_1553 ?_
  refine r_sld C hx hbl hbA (show i + 1 < L by omega) (by omega) dL_law_1554 ?_
  refine r_aload_n C dL_law_1555 rfl ?_
  refine c_SH (st := []) hX.1.stb C hE (W_text hT.1 hl hC hB hM) pk_L_text qm_L_278 rfl rfl (Nat.le_of_ble_eq_true rfl) dL_law_1556 ⟨(Nat.le_of_ble_eq_true rfl), (Nat.le_of_ble_eq_true rfl)⟩ ⟨show cells + 6 ≤ room_1.cells by omega, show slots + 204 ≤ room_1.slots by omega⟩ (fun v9 w9 h9 => ?_) (fun _ h9 => h9.elim)
  obtain ⟨k, s1, rfl, rfl⟩ := h9
  refine r_istore C dL_law_1559 (by decide) rfl ?_
  refine r_aload_n C dL_law_1561 rfl ?_
  refine r_aload_n C dL_law_1562 rfl ?_
  refine r_iload C dL_law_1563 rfl ?_
  refine r_iconst (v := nI 1) C dL_law_1565 (by decide) ?_
  refine r_iaddN C dL_law_1566 ?_
  refine r_sld C hx hbl hbA (show i + 1 < L by omega) (by omega) dL_law_1567 ?_
  refine t_swap3 ?_
  refine c_V (st := []) hX.1.stb C hE (D_text_all hT.1 hC hB hM (xs (i + 1))) pk_X4_text qm_L_280 0 8 rfl rfl wm_0 rfl rfl (Nat.le_of_ble_eq_true rfl) dL_law_1568 ⟨(Nat.le_of_ble_eq_true rfl), (Nat.le_of_ble_eq_true rfl)⟩ ⟨show cells + 6 + 100 ≤ room_1.cells by omega, show slots + 204 + 2200 ≤ room_1.slots by omega⟩ (fun v9 w9 h9 => ?_) (fun _ h9 => h9.elim)
  obtain ⟨a9, k2, rfl, rfl⟩ := h9
  refine r_astore C dL_law_1571 (by decide) rfl ?_
  refine t_swap3 ?_
  refine r_goto (tgt := 2128) C dL_law_1573 (by decide) ?_
  refine r_widen (k := cells + 500) (n := slots + 10000) (show cells + 6 + 100 ≤ cells + 500 by omega) (show slots + 204 + 2200 ≤ slots + 10000 by omega) ?_
  refine r_drop 5 ?_
  refine r_drop 6 ?_
  exact kk _ ⟨f, r, hf, hq, kn, ra, _, sm, _, _, hC, hB, hM, rfl⟩
theorem S_inArray {p : Program} {l : Launch} {e : Env} {s : State} {m : MethodId} {args : Array Value} {below : List Frame} {meth : Method} {c : Code} {D : va_G} {cy : Nat → ClassId} {A : Nat → Prop} {Q : State → Prop} {X : (Nat → Prop) → State → Heap → Prop} {aK aV : Nat → Nat} {tO tT : Nat} {gO gT : Nat → Int32} {a : Nat → Nat → Nat} {ba : Nat → Nat} {o b L i cells slots : Nat} {xs : Nat → Int32} {w : va_W} (C : Fg p s m args meth c cL_law 7 RL D cy A) (hE : X A s s.heap) (hT : EnvT X cy aK aV tO tT gO gT) (hN : EnvN X) (hl : l.stackTraces = false) (hx : va_X b L xs s s.heap) (hbl : b < s.heap.size) (hbA : ¬ A b) (hi : i + 5 ≤ L) (hL : L ≤ 2560) (hc : cells + 500 ≤ room_1.cells) (hs : slots + 10000 ≤ room_1.slots) (hJ : JW cy a ba o w) (kk : ∀ w' : va_W, JW cy a ba o w' → vW p l e room_1 s m args below meth c D vwCl A Q 7 (cells + 500) (slots + 10000) w' [some (.ref b), some (.ref (a 0 0)), some (.ref (ba 9)), some (.ref o), some (.int (nI i)), none, none] 2128 []) : vW p l e room_1 s m args below meth c D vwCl A Q 7 cells slots w [some (.ref b), some (.ref (a 0 0)), some (.ref (ba 9)), some (.ref o), some (.int (nI i)), none, none] 1576 [] := by
  have hX := hT.1.1
  obtain ⟨f, r, hf, hq, kn, ra, th, sm, n, v, hC, hB, hM, rfl⟩ := hJ
  refine r_aload_n C dL_law_1576 rfl ?_
  refine r_aload_n C dL_law_1577 rfl ?_
  refine r_iload C dL_law_1578 rfl ?_
  refine r_iconst (v := nI 1) C dL_law_1580 (by decide) ?_
  refine r_iaddN C dL_law_1581 ?_
  refine r_sld C hx hbl hbA (show i + 1 < L by omega) (by omega) dL_law_1582 ?_
  refine r_aload_n C dL_law_1583 rfl ?_
  refine r_iload C dL_law_1584 rfl ?_
  refine r_iconst (v := nI 2) C dL_law_1586 (by decide) ?_
  refine r_iaddN C dL_law_1587 ?_
  refine r_sld C hx hbl hbA (show i + 2 < L by omega) (by omega) dL_law_1588 ?_
  refine r_aload_n C dL_law_1589 rfl ?_
  refine c_SH (st := []) hX.1.stb C hE (W_inArray hX.1 hN hC hB hM (P_inArray hX hl hC hB hM (xs (i + 1)) (xs (i + 2)))) pk_L_inArray qm_L_281 rfl rfl (Nat.le_of_ble_eq_true rfl) dL_law_1590 ⟨(Nat.le_of_ble_eq_true rfl), (Nat.le_of_ble_eq_true rfl)⟩ ⟨show cells + 1 ≤ room_1.cells by omega, show slots + 6 ≤ room_1.slots by omega⟩ (fun v9 w9 h9 => ?_) (fun _ h9 => h9.elim)
  obtain ⟨f', r', k, n1, rfl, rfl, hf', hq', n2, hC', hB', hM', hk0, hk4, h2⟩ := h9
  refine r_istore C dL_law_1593 (by decide) rfl ?_
  refine r_aload_n C dL_law_1595 rfl ?_
  refine r_aload_n C dL_law_1596 rfl ?_
  refine r_iload C dL_law_1597 rfl ?_
  refine r_iconst (v := nI 1) C dL_law_1599 (by decide) ?_
  refine r_iaddN C dL_law_1600 ?_
  refine r_sld C hx hbl hbA (show i + 1 < L by omega) (by omega) dL_law_1601 ?_
  refine r_aload_n C dL_law_1602 rfl ?_
  refine r_iload C dL_law_1603 rfl ?_
  refine r_iconst (v := nI 2) C dL_law_1605 (by decide) ?_
  refine r_iaddN C dL_law_1606 ?_
  refine r_sld C hx hbl hbA (show i + 2 < L by omega) (by omega) dL_law_1607 ?_
  refine t_swap3 ?_
  refine c_V (st := []) hX.1.stb C hE (h2 _) pk_X4_inArray qm_L_283 0 8 rfl rfl wm_0 rfl rfl (Nat.le_of_ble_eq_true rfl) dL_law_1608 ⟨(Nat.le_of_ble_eq_true rfl), (Nat.le_of_ble_eq_true rfl)⟩ ⟨show cells + 1 + 4 ≤ room_1.cells by omega, show slots + 6 + 48 ≤ room_1.slots by omega⟩ (fun v9 w9 h9 => ?_) (fun _ h9 => h9.elim)
  obtain ⟨ra9, rfl, rfl⟩ := h9
  refine r_istore C dL_law_1611 (by decide) rfl ?_
  refine t_swap3 ?_
  refine r_goto (tgt := 2128) C dL_law_1613 (by decide) ?_
  refine r_widen (k := cells + 500) (n := slots + 10000) (show cells + 1 + 4 ≤ cells + 500 by omega) (show slots + 6 + 48 ≤ slots + 10000 by omega) ?_
  refine r_drop 5 ?_
  refine r_drop 6 ?_
  exact kk _ ⟨f', r', hf', hq', kn, ra9, _, sm, _, _, hC', hB', hM', rfl⟩
theorem S_window {p : Program} {l : Launch} {e : Env} {s : State} {m : MethodId} {args : Array Value} {below : List Frame} {meth : Method} {c : Code} {D : va_G} {cy : Nat → ClassId} {A : Nat → Prop} {Q : State → Prop} {X : (Nat → Prop) → State → Heap → Prop} {aK aV : Nat → Nat} {tO tT : Nat} {gO gT : Nat → Int32} {a : Nat → Nat → Nat} {ba : Nat → Nat} {o b L i cells slots : Nat} {xs : Nat → Int32} {w : va_W} (C : Fg p s m args meth c cL_law 7 RL D cy A) (hE : X A s s.heap) (hT : EnvT X cy aK aV tO tT gO gT) (hN : EnvN X) (hl : l.stackTraces = false) (hx : va_X b L xs s s.heap) (hbl : b < s.heap.size) (hbA : ¬ A b) (hi : i + 5 ≤ L) (hL : L ≤ 2560) (hc : cells + 500 ≤ room_1.cells) (hs : slots + 10000 ≤ room_1.slots) (hJ : JW cy a ba o w) (kk : ∀ w' : va_W, JW cy a ba o w' → vW p l e room_1 s m args below meth c D vwCl A Q 7 (cells + 500) (slots + 10000) w' [some (.ref b), some (.ref (a 0 0)), some (.ref (ba 9)), some (.ref o), some (.int (nI i)), none, none] 2128 []) : vW p l e room_1 s m args below meth c D vwCl A Q 7 cells slots w [some (.ref b), some (.ref (a 0 0)), some (.ref (ba 9)), some (.ref o), some (.int (nI i)), none, none] 1616 [] := by
  have hX := hT.1.1
  obtain ⟨f, r, hf, hq, kn, ra, th, sm, n, v, hC, hB, hM, rfl⟩ := hJ
  refine r_aload_n C dL_law_1616 rfl ?_
  refine r_aload_n C dL_law_1617 rfl ?_
  refine r_iload C dL_law_1618 rfl ?_
  refine r_iconst (v := nI 1) C dL_law_1620 (by decide) ?_
  refine r_iaddN C dL_law_1621 ?_
  refine r_sld C hx hbl hbA (show i + 1 < L by omega) (by omega) dL_law_1622 ?_
  refine r_aload_n C dL_law_1623 rfl ?_
  refine r_iload C dL_law_1624 rfl ?_
  refine r_iconst (v := nI 2) C dL_law_1626 (by decide) ?_
  refine r_iaddN C dL_law_1627 ?_
  refine r_sld C hx hbl hbA (show i + 2 < L by omega) (by omega) dL_law_1628 ?_
  refine r_aload_n C dL_law_1629 rfl ?_
  refine r_iload C dL_law_1630 rfl ?_
  refine r_iconst (v := nI 3) C dL_law_1632 (by decide) ?_
  refine r_iaddN C dL_law_1633 ?_
  refine r_sld C hx hbl hbA (show i + 3 < L by omega) (by omega) dL_law_1634 ?_
  refine r_aload_n C dL_law_1635 rfl ?_
  refine r_iload C dL_law_1636 rfl ?_
  refine r_iconst (v := nI 4) C dL_law_1638 (by decide) ?_
  refine r_iaddN C dL_law_1639 ?_
  refine r_sld C hx hbl hbA (show i + 4 < L by omega) (by omega) dL_law_1640 ?_
  refine r_aload_n C dL_law_1641 rfl ?_
  refine c_SH (st := []) hX.1.stb C hE (W_window hX.1 hN hC hB hM (P_window hX hl hC hB hM (xs (i + 1)) (xs (i + 2)) (xs (i + 3)) (xs (i + 4)))) pk_L_window qm_L_284 rfl rfl (Nat.le_of_ble_eq_true rfl) dL_law_1642 ⟨(Nat.le_of_ble_eq_true rfl), (Nat.le_of_ble_eq_true rfl)⟩ ⟨show cells + 1 ≤ room_1.cells by omega, show slots + 6 ≤ room_1.slots by omega⟩ (fun v9 w9 h9 => ?_) (fun _ h9 => h9.elim)
  obtain ⟨f', r', k, n1, rfl, rfl, hf', hq', n2, hC', hB', hM', hk0, hk4, h2⟩ := h9
  refine r_istore C dL_law_1645 (by decide) rfl ?_
  refine r_aload_n C dL_law_1647 rfl ?_
  refine r_aload_n C dL_law_1648 rfl ?_
  refine r_iload C dL_law_1649 rfl ?_
  refine r_iconst (v := nI 1) C dL_law_1651 (by decide) ?_
  refine r_iaddN C dL_law_1652 ?_
  refine r_sld C hx hbl hbA (show i + 1 < L by omega) (by omega) dL_law_1653 ?_
  refine r_aload_n C dL_law_1654 rfl ?_
  refine r_iload C dL_law_1655 rfl ?_
  refine r_iconst (v := nI 2) C dL_law_1657 (by decide) ?_
  refine r_iaddN C dL_law_1658 ?_
  refine r_sld C hx hbl hbA (show i + 2 < L by omega) (by omega) dL_law_1659 ?_
  refine r_aload_n C dL_law_1660 rfl ?_
  refine r_iload C dL_law_1661 rfl ?_
  refine r_iconst (v := nI 3) C dL_law_1663 (by decide) ?_
  refine r_iaddN C dL_law_1664 ?_
  refine r_sld C hx hbl hbA (show i + 3 < L by omega) (by omega) dL_law_1665 ?_
  refine r_aload_n C dL_law_1666 rfl ?_
  refine r_iload C dL_law_1667 rfl ?_
  refine r_iconst (v := nI 4) C dL_law_1669 (by decide) ?_
  refine r_iaddN C dL_law_1670 ?_
  refine r_sld C hx hbl hbA (show i + 4 < L by omega) (by omega) dL_law_1671 ?_
  refine t_swap3 ?_
  refine c_V (st := []) hX.1.stb C hE (h2 _) pk_X4_window qm_L_286 0 8 rfl rfl wm_0 rfl rfl (Nat.le_of_ble_eq_true rfl) dL_law_1672 ⟨(Nat.le_of_ble_eq_true rfl), (Nat.le_of_ble_eq_true rfl)⟩ ⟨show cells + 1 + 4 ≤ room_1.cells by omega, show slots + 6 + 48 ≤ room_1.slots by omega⟩ (fun v9 w9 h9 => ?_) (fun _ h9 => h9.elim)
  obtain ⟨ra9, rfl, rfl⟩ := h9
  refine r_istore C dL_law_1675 (by decide) rfl ?_
  refine t_swap3 ?_
  refine r_goto (tgt := 2128) C dL_law_1677 (by decide) ?_
  refine r_widen (k := cells + 500) (n := slots + 10000) (show cells + 1 + 4 ≤ cells + 500 by omega) (show slots + 6 + 48 ≤ slots + 10000 by omega) ?_
  refine r_drop 5 ?_
  refine r_drop 6 ?_
  exact kk _ ⟨f', r', hf', hq', kn, ra9, _, sm, _, _, hC', hB', hM', rfl⟩
theorem S_close {p : Program} {l : Launch} {e : Env} {s : State} {m : MethodId} {args : Array Value} {below : List Frame} {meth : Method} {c : Code} {D : va_G} {cy : Nat → ClassId} {A : Nat → Prop} {Q : State → Prop} {X : (Nat → Prop) → State → Heap → Prop} {aK aV : Nat → Nat} {tO tT : Nat} {gO gT : Nat → Int32} {a : Nat → Nat → Nat} {ba : Nat → Nat} {o b L i cells slots : Nat} {xs : Nat → Int32} {w : va_W} (C : Fg p s m args meth c cL_law 7 RL D cy A) (hE : X A s s.heap) (hT : EnvT X cy aK aV tO tT gO gT) (hN : EnvN X) (hl : l.stackTraces = false) (hx : va_X b L xs s s.heap) (hbl : b < s.heap.size) (hbA : ¬ A b) (hi : i + 5 ≤ L) (hL : L ≤ 2560) (hc : cells + 500 ≤ room_1.cells) (hs : slots + 10000 ≤ room_1.slots) (hJ : JW cy a ba o w) (kk : ∀ w' : va_W, JW cy a ba o w' → vW p l e room_1 s m args below meth c D vwCl A Q 7 (cells + 500) (slots + 10000) w' [some (.ref b), some (.ref (a 0 0)), some (.ref (ba 9)), some (.ref o), some (.int (nI i)), none, none] 2128 []) : vW p l e room_1 s m args below meth c D vwCl A Q 7 cells slots w [some (.ref b), some (.ref (a 0 0)), some (.ref (ba 9)), some (.ref o), some (.int (nI i)), none, none] 1680 [] := by
  have hX := hT.1.1
  obtain ⟨f, r, hf, hq, kn, ra, th, sm, n, v, hC, hB, hM, rfl⟩ := hJ
  refine r_aload_n C dL_law_1680 rfl ?_
  refine r_aload_n C dL_law_1681 rfl ?_
  refine r_iload C dL_law_1682 rfl ?_
  refine r_iconst (v := nI 1) C dL_law_1684 (by decide) ?_
  refine r_iaddN C dL_law_1685 ?_
  refine r_sld C hx hbl hbA (show i + 1 < L by omega) (by omega) dL_law_1686 ?_
  refine r_aload_n C dL_law_1687 rfl ?_
  refine c_SH (st := []) hX.1.stb C hE (W_close hX.1 hN hC hB hM (P_close hX hl hC hB hM (xs (i + 1)))) pk_L_close qm_L_287 rfl rfl (Nat.le_of_ble_eq_true rfl) dL_law_1688 ⟨(Nat.le_of_ble_eq_true rfl), (Nat.le_of_ble_eq_true rfl)⟩ ⟨show cells + 1 ≤ room_1.cells by omega, show slots + 6 ≤ room_1.slots by omega⟩ (fun v9 w9 h9 => ?_) (fun _ h9 => h9.elim)
  obtain ⟨f', r', k, n1, rfl, rfl, hf', hq', n2, hC', hB', hM', hk0, hk4, h2⟩ := h9
  refine r_istore C dL_law_1691 (by decide) rfl ?_
  refine r_aload_n C dL_law_1693 rfl ?_
  refine r_aload_n C dL_law_1694 rfl ?_
  refine r_iload C dL_law_1695 rfl ?_
  refine r_iconst (v := nI 1) C dL_law_1697 (by decide) ?_
  refine r_iaddN C dL_law_1698 ?_
  refine r_sld C hx hbl hbA (show i + 1 < L by omega) (by omega) dL_law_1699 ?_
  refine t_swap3 ?_
  refine c_V (st := []) hX.1.stb C hE (h2 _) pk_X4_close qm_L_289 0 8 rfl rfl wm_0 rfl rfl (Nat.le_of_ble_eq_true rfl) dL_law_1700 ⟨(Nat.le_of_ble_eq_true rfl), (Nat.le_of_ble_eq_true rfl)⟩ ⟨show cells + 1 + 4 ≤ room_1.cells by omega, show slots + 6 + 48 ≤ room_1.slots by omega⟩ (fun v9 w9 h9 => ?_) (fun _ h9 => h9.elim)
  obtain ⟨ra9, rfl, rfl⟩ := h9
  refine r_istore C dL_law_1703 (by decide) rfl ?_
  refine t_swap3 ?_
  refine r_goto (tgt := 2128) C dL_law_1705 (by decide) ?_
  refine r_widen (k := cells + 500) (n := slots + 10000) (show cells + 1 + 4 ≤ cells + 500 by omega) (show slots + 6 + 48 ≤ slots + 10000 by omega) ?_
  refine r_drop 5 ?_
  refine r_drop 6 ?_
  exact kk _ ⟨f', r', hf', hq', kn, ra9, _, sm, _, _, hC', hB', hM', rfl⟩
end PT_86
