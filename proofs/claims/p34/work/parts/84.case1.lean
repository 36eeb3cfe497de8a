/-! THE LAW'S CASES, 1 -/
theorem dL_law_252 : decode cL_law 252 = .ok (.aload_n 1, 1) := dqo_43 (kb_3 60 rfl)
theorem dL_law_253 : decode cL_law 253 = .ok (.aload_n 0, 1) := dqo_42 (kb_3 61 rfl)
theorem dL_law_254 : decode cL_law 254 = .ok (.iload 4, 2) := dqo_21 4 (kb_3 62 rfl) (kb_3 63 rfl)
theorem dL_law_256 : decode cL_law 256 = .ok (.iconst 1, 1) := dqo_4 (kb_4 0 rfl)
theorem dL_law_257 : decode cL_law 257 = .ok (.iadd, 1) := dqo_96 (kb_4 1 rfl)
theorem dL_law_258 : decode cL_law 258 = .ok (.iaload, 1) := dqo_46 (kb_4 2 rfl)
theorem dL_law_259 : decode cL_law 259 = .ok (.aload_n 0, 1) := dqo_42 (kb_4 3 rfl)
theorem dL_law_260 : decode cL_law 260 = .ok (.iload 4, 2) := dqo_21 4 (kb_4 4 rfl) (kb_4 5 rfl)
theorem dL_law_262 : decode cL_law 262 = .ok (.iconst 2, 1) := dqo_5 (kb_4 6 rfl)
theorem dL_law_263 : decode cL_law 263 = .ok (.iadd, 1) := dqo_96 (kb_4 7 rfl)
theorem dL_law_264 : decode cL_law 264 = .ok (.iaload, 1) := dqo_46 (kb_4 8 rfl)
theorem dL_law_265 : decode cL_law 265 = .ok (.aload_n 3, 1) := dqo_45 (kb_4 9 rfl)
theorem dL_law_266 : decode cL_law 266 = .ok (.invokestatic 175, 3) := dqo_184 0 175 (kb_4 10 rfl) (kb_4 11 rfl) (kb_4 12 rfl)
theorem dL_law_269 : decode cL_law 269 = .ok (.istore 5, 2) := dqo_54 5 (kb_4 13 rfl) (kb_4 14 rfl)
theorem dL_law_271 : decode cL_law 271 = .ok (.aload_n 2, 1) := dqo_44 (kb_4 15 rfl)
theorem dL_law_272 : decode cL_law 272 = .ok (.aload_n 0, 1) := dqo_42 (kb_4 16 rfl)
theorem dL_law_273 : decode cL_law 273 = .ok (.iload 4, 2) := dqo_21 4 (kb_4 17 rfl) (kb_4 18 rfl)
theorem dL_law_275 : decode cL_law 275 = .ok (.iconst 1, 1) := dqo_4 (kb_4 19 rfl)
theorem dL_law_276 : decode cL_law 276 = .ok (.iadd, 1) := dqo_96 (kb_4 20 rfl)
theorem dL_law_277 : decode cL_law 277 = .ok (.iaload, 1) := dqo_46 (kb_4 21 rfl)
theorem dL_law_278 : decode cL_law 278 = .ok (.aload_n 0, 1) := dqo_42 (kb_4 22 rfl)
theorem dL_law_279 : decode cL_law 279 = .ok (.iload 4, 2) := dqo_21 4 (kb_4 23 rfl) (kb_4 24 rfl)
theorem dL_law_281 : decode cL_law 281 = .ok (.iconst 2, 1) := dqo_5 (kb_4 25 rfl)
theorem dL_law_282 : decode cL_law 282 = .ok (.iadd, 1) := dqo_96 (kb_4 26 rfl)
theorem dL_law_283 : decode cL_law 283 = .ok (.iaload, 1) := dqo_46 (kb_4 27 rfl)
theorem dL_law_284 : decode cL_law 284 = .ok (.invokevirtual 180, 3) := dqo_182 0 180 (kb_4 28 rfl) (kb_4 29 rfl) (kb_4 30 rfl)
theorem dL_law_287 : decode cL_law 287 = .ok (.istore 6, 2) := dqo_54 6 (kb_4 31 rfl) (kb_4 32 rfl)
theorem dL_law_289 : decode cL_law 289 = .ok (.goto 1840, 3) := dqo_167 7 48 (by decide) (kb_4 33 rfl) (kb_4 34 rfl) (kb_4 35 rfl)
theorem dL_law_292 : decode cL_law 292 = .ok (.aload_n 1, 1) := dqo_43 (kb_4 36 rfl)
theorem dL_law_293 : decode cL_law 293 = .ok (.aload_n 0, 1) := dqo_42 (kb_4 37 rfl)
theorem dL_law_294 : decode cL_law 294 = .ok (.iload 4, 2) := dqo_21 4 (kb_4 38 rfl) (kb_4 39 rfl)
theorem dL_law_296 : decode cL_law 296 = .ok (.iconst 1, 1) := dqo_4 (kb_4 40 rfl)
theorem dL_law_297 : decode cL_law 297 = .ok (.iadd, 1) := dqo_96 (kb_4 41 rfl)
theorem dL_law_298 : decode cL_law 298 = .ok (.iaload, 1) := dqo_46 (kb_4 42 rfl)
theorem dL_law_299 : decode cL_law 299 = .ok (.aload_n 0, 1) := dqo_42 (kb_4 43 rfl)
theorem dL_law_300 : decode cL_law 300 = .ok (.iload 4, 2) := dqo_21 4 (kb_4 44 rfl) (kb_4 45 rfl)
theorem dL_law_302 : decode cL_law 302 = .ok (.iconst 2, 1) := dqo_5 (kb_4 46 rfl)
theorem dL_law_303 : decode cL_law 303 = .ok (.iadd, 1) := dqo_96 (kb_4 47 rfl)
theorem dL_law_304 : decode cL_law 304 = .ok (.iaload, 1) := dqo_46 (kb_4 48 rfl)
theorem dL_law_305 : decode cL_law 305 = .ok (.aload_n 0, 1) := dqo_42 (kb_4 49 rfl)
theorem dL_law_306 : decode cL_law 306 = .ok (.iload 4, 2) := dqo_21 4 (kb_4 50 rfl) (kb_4 51 rfl)
theorem dL_law_308 : decode cL_law 308 = .ok (.iconst 3, 1) := dqo_6 (kb_4 52 rfl)
theorem dL_law_309 : decode cL_law 309 = .ok (.iadd, 1) := dqo_96 (kb_4 53 rfl)
theorem dL_law_310 : decode cL_law 310 = .ok (.iaload, 1) := dqo_46 (kb_4 54 rfl)
theorem dL_law_311 : decode cL_law 311 = .ok (.aload_n 3, 1) := dqo_45 (kb_4 55 rfl)
theorem dL_law_312 : decode cL_law 312 = .ok (.invokestatic 181, 3) := dqo_184 0 181 (kb_4 56 rfl) (kb_4 57 rfl) (kb_4 58 rfl)
theorem dL_law_315 : decode cL_law 315 = .ok (.istore 5, 2) := dqo_54 5 (kb_4 59 rfl) (kb_4 60 rfl)
theorem dL_law_317 : decode cL_law 317 = .ok (.aload_n 2, 1) := dqo_44 (kb_4 61 rfl)
theorem dL_law_318 : decode cL_law 318 = .ok (.aload_n 0, 1) := dqo_42 (kb_4 62 rfl)
theorem dL_law_319 : decode cL_law 319 = .ok (.iload 4, 2) := dqo_21 4 (kb_4 63 rfl) (kb_5 0 rfl)
theorem dL_law_321 : decode cL_law 321 = .ok (.iconst 1, 1) := dqo_4 (kb_5 1 rfl)
theorem dL_law_322 : decode cL_law 322 = .ok (.iadd, 1) := dqo_96 (kb_5 2 rfl)
theorem dL_law_323 : decode cL_law 323 = .ok (.iaload, 1) := dqo_46 (kb_5 3 rfl)
theorem dL_law_324 : decode cL_law 324 = .ok (.aload_n 0, 1) := dqo_42 (kb_5 4 rfl)
theorem dL_law_325 : decode cL_law 325 = .ok (.iload 4, 2) := dqo_21 4 (kb_5 5 rfl) (kb_5 6 rfl)
theorem dL_law_327 : decode cL_law 327 = .ok (.iconst 2, 1) := dqo_5 (kb_5 7 rfl)
theorem dL_law_328 : decode cL_law 328 = .ok (.iadd, 1) := dqo_96 (kb_5 8 rfl)
theorem dL_law_329 : decode cL_law 329 = .ok (.iaload, 1) := dqo_46 (kb_5 9 rfl)
theorem dL_law_330 : decode cL_law 330 = .ok (.aload_n 0, 1) := dqo_42 (kb_5 10 rfl)
theorem dL_law_331 : decode cL_law 331 = .ok (.iload 4, 2) := dqo_21 4 (kb_5 11 rfl) (kb_5 12 rfl)
theorem dL_law_333 : decode cL_law 333 = .ok (.iconst 3, 1) := dqo_6 (kb_5 13 rfl)
theorem dL_law_334 : decode cL_law 334 = .ok (.iadd, 1) := dqo_96 (kb_5 14 rfl)
theorem dL_law_335 : decode cL_law 335 = .ok (.iaload, 1) := dqo_46 (kb_5 15 rfl)
theorem dL_law_336 : decode cL_law 336 = .ok (.invokevirtual 184, 3) := dqo_182 0 184 (kb_5 16 rfl) (kb_5 17 rfl) (kb_5 18 rfl)
theorem dL_law_339 : decode cL_law 339 = .ok (.istore 6, 2) := dqo_54 6 (kb_5 19 rfl) (kb_5 20 rfl)
theorem dL_law_341 : decode cL_law 341 = .ok (.goto 1788, 3) := dqo_167 6 252 (by decide) (kb_5 21 rfl) (kb_5 22 rfl) (kb_5 23 rfl)
theorem dL_law_344 : decode cL_law 344 = .ok (.aload_n 1, 1) := dqo_43 (kb_5 24 rfl)
theorem dL_law_345 : decode cL_law 345 = .ok (.aload_n 0, 1) := dqo_42 (kb_5 25 rfl)
theorem dL_law_346 : decode cL_law 346 = .ok (.iload 4, 2) := dqo_21 4 (kb_5 26 rfl) (kb_5 27 rfl)
theorem dL_law_348 : decode cL_law 348 = .ok (.iconst 1, 1) := dqo_4 (kb_5 28 rfl)
theorem dL_law_349 : decode cL_law 349 = .ok (.iadd, 1) := dqo_96 (kb_5 29 rfl)
theorem dL_law_350 : decode cL_law 350 = .ok (.iaload, 1) := dqo_46 (kb_5 30 rfl)
theorem dL_law_351 : decode cL_law 351 = .ok (.aload_n 0, 1) := dqo_42 (kb_5 31 rfl)
theorem dL_law_352 : decode cL_law 352 = .ok (.iload 4, 2) := dqo_21 4 (kb_5 32 rfl) (kb_5 33 rfl)
theorem dL_law_354 : decode cL_law 354 = .ok (.iconst 2, 1) := dqo_5 (kb_5 34 rfl)
theorem dL_law_355 : decode cL_law 355 = .ok (.iadd, 1) := dqo_96 (kb_5 35 rfl)
theorem dL_law_356 : decode cL_law 356 = .ok (.iaload, 1) := dqo_46 (kb_5 36 rfl)
theorem dL_law_357 : decode cL_law 357 = .ok (.aload_n 0, 1) := dqo_42 (kb_5 37 rfl)
theorem dL_law_358 : decode cL_law 358 = .ok (.iload 4, 2) := dqo_21 4 (kb_5 38 rfl) (kb_5 39 rfl)
theorem dL_law_360 : decode cL_law 360 = .ok (.iconst 3, 1) := dqo_6 (kb_5 40 rfl)
theorem dL_law_361 : decode cL_law 361 = .ok (.iadd, 1) := dqo_96 (kb_5 41 rfl)
theorem dL_law_362 : decode cL_law 362 = .ok (.iaload, 1) := dqo_46 (kb_5 42 rfl)
theorem dL_law_363 : decode cL_law 363 = .ok (.aload_n 3, 1) := dqo_45 (kb_5 43 rfl)
theorem dL_law_364 : decode cL_law 364 = .ok (.invokestatic 185, 3) := dqo_184 0 185 (kb_5 44 rfl) (kb_5 45 rfl) (kb_5 46 rfl)
theorem dL_law_367 : decode cL_law 367 = .ok (.istore 5, 2) := dqo_54 5 (kb_5 47 rfl) (kb_5 48 rfl)
theorem dL_law_369 : decode cL_law 369 = .ok (.aload_n 2, 1) := dqo_44 (kb_5 49 rfl)
theorem dL_law_370 : decode cL_law 370 = .ok (.aload_n 0, 1) := dqo_42 (kb_5 50 rfl)
theorem dL_law_371 : decode cL_law 371 = .ok (.iload 4, 2) := dqo_21 4 (kb_5 51 rfl) (kb_5 52 rfl)
theorem dL_law_373 : decode cL_law 373 = .ok (.iconst 1, 1) := dqo_4 (kb_5 53 rfl)
theorem dL_law_374 : decode cL_law 374 = .ok (.iadd, 1) := dqo_96 (kb_5 54 rfl)
theorem dL_law_375 : decode cL_law 375 = .ok (.iaload, 1) := dqo_46 (kb_5 55 rfl)
theorem dL_law_376 : decode cL_law 376 = .ok (.aload_n 0, 1) := dqo_42 (kb_5 56 rfl)
theorem dL_law_377 : decode cL_law 377 = .ok (.iload 4, 2) := dqo_21 4 (kb_5 57 rfl) (kb_5 58 rfl)
theorem dL_law_379 : decode cL_law 379 = .ok (.iconst 2, 1) := dqo_5 (kb_5 59 rfl)
theorem dL_law_380 : decode cL_law 380 = .ok (.iadd, 1) := dqo_96 (kb_5 60 rfl)
theorem dL_law_381 : decode cL_law 381 = .ok (.iaload, 1) := dqo_46 (kb_5 61 rfl)
theorem dL_law_382 : decode cL_law 382 = .ok (.aload_n 0, 1) := dqo_42 (kb_5 62 rfl)
theorem dL_law_383 : decode cL_law 383 = .ok (.iload 4, 2) := dqo_21 4 (kb_5 63 rfl) (kb_6 0 rfl)
theorem dL_law_385 : decode cL_law 385 = .ok (.iconst 3, 1) := dqo_6 (kb_6 1 rfl)
theorem dL_law_386 : decode cL_law 386 = .ok (.iadd, 1) := dqo_96 (kb_6 2 rfl)
theorem dL_law_387 : decode cL_law 387 = .ok (.iaload, 1) := dqo_46 (kb_6 3 rfl)
theorem dL_law_388 : decode cL_law 388 = .ok (.invokevirtual 187, 3) := dqo_182 0 187 (kb_6 4 rfl) (kb_6 5 rfl) (kb_6 6 rfl)
theorem dL_law_391 : decode cL_law 391 = .ok (.istore 6, 2) := dqo_54 6 (kb_6 7 rfl) (kb_6 8 rfl)
theorem dL_law_393 : decode cL_law 393 = .ok (.goto 1736, 3) := dqo_167 6 200 (by decide) (kb_6 9 rfl) (kb_6 10 rfl) (kb_6 11 rfl)
theorem dL_law_396 : decode cL_law 396 = .ok (.aload_n 1, 1) := dqo_43 (kb_6 12 rfl)
theorem dL_law_397 : decode cL_law 397 = .ok (.aload_n 0, 1) := dqo_42 (kb_6 13 rfl)
theorem dL_law_398 : decode cL_law 398 = .ok (.iload 4, 2) := dqo_21 4 (kb_6 14 rfl) (kb_6 15 rfl)
theorem dL_law_400 : decode cL_law 400 = .ok (.iconst 1, 1) := dqo_4 (kb_6 16 rfl)
theorem dL_law_401 : decode cL_law 401 = .ok (.iadd, 1) := dqo_96 (kb_6 17 rfl)
theorem dL_law_402 : decode cL_law 402 = .ok (.iaload, 1) := dqo_46 (kb_6 18 rfl)
theorem dL_law_403 : decode cL_law 403 = .ok (.aload_n 0, 1) := dqo_42 (kb_6 19 rfl)
theorem dL_law_404 : decode cL_law 404 = .ok (.iload 4, 2) := dqo_21 4 (kb_6 20 rfl) (kb_6 21 rfl)
theorem dL_law_406 : decode cL_law 406 = .ok (.iconst 2, 1) := dqo_5 (kb_6 22 rfl)
theorem dL_law_407 : decode cL_law 407 = .ok (.iadd, 1) := dqo_96 (kb_6 23 rfl)
theorem dL_law_408 : decode cL_law 408 = .ok (.iaload, 1) := dqo_46 (kb_6 24 rfl)
theorem dL_law_409 : decode cL_law 409 = .ok (.aload_n 3, 1) := dqo_45 (kb_6 25 rfl)
theorem dL_law_410 : decode cL_law 410 = .ok (.invokestatic 188, 3) := dqo_184 0 188 (kb_6 26 rfl) (kb_6 27 rfl) (kb_6 28 rfl)
theorem dL_law_413 : decode cL_law 413 = .ok (.istore 5, 2) := dqo_54 5 (kb_6 29 rfl) (kb_6 30 rfl)
theorem dL_law_415 : decode cL_law 415 = .ok (.aload_n 2, 1) := dqo_44 (kb_6 31 rfl)
theorem dL_law_416 : decode cL_law 416 = .ok (.aload_n 0, 1) := dqo_42 (kb_6 32 rfl)
theorem dL_law_417 : decode cL_law 417 = .ok (.iload 4, 2) := dqo_21 4 (kb_6 33 rfl) (kb_6 34 rfl)
theorem dL_law_419 : decode cL_law 419 = .ok (.iconst 1, 1) := dqo_4 (kb_6 35 rfl)
theorem dL_law_420 : decode cL_law 420 = .ok (.iadd, 1) := dqo_96 (kb_6 36 rfl)
theorem dL_law_421 : decode cL_law 421 = .ok (.iaload, 1) := dqo_46 (kb_6 37 rfl)
theorem dL_law_422 : decode cL_law 422 = .ok (.aload_n 0, 1) := dqo_42 (kb_6 38 rfl)
theorem dL_law_423 : decode cL_law 423 = .ok (.iload 4, 2) := dqo_21 4 (kb_6 39 rfl) (kb_6 40 rfl)
theorem dL_law_425 : decode cL_law 425 = .ok (.iconst 2, 1) := dqo_5 (kb_6 41 rfl)
theorem dL_law_426 : decode cL_law 426 = .ok (.iadd, 1) := dqo_96 (kb_6 42 rfl)
theorem dL_law_427 : decode cL_law 427 = .ok (.iaload, 1) := dqo_46 (kb_6 43 rfl)
theorem dL_law_428 : decode cL_law 428 = .ok (.invokevirtual 190, 3) := dqo_182 0 190 (kb_6 44 rfl) (kb_6 45 rfl) (kb_6 46 rfl)
theorem dL_law_431 : decode cL_law 431 = .ok (.istore 6, 2) := dqo_54 6 (kb_6 47 rfl) (kb_6 48 rfl)
theorem dL_law_433 : decode cL_law 433 = .ok (.goto 1696, 3) := dqo_167 6 160 (by decide) (kb_6 49 rfl) (kb_6 50 rfl) (kb_6 51 rfl)
theorem dL_law_436 : decode cL_law 436 = .ok (.aload_n 1, 1) := dqo_43 (kb_6 52 rfl)
theorem dL_law_437 : decode cL_law 437 = .ok (.aload_n 0, 1) := dqo_42 (kb_6 53 rfl)
theorem dL_law_438 : decode cL_law 438 = .ok (.iload 4, 2) := dqo_21 4 (kb_6 54 rfl) (kb_6 55 rfl)
theorem dL_law_440 : decode cL_law 440 = .ok (.iconst 1, 1) := dqo_4 (kb_6 56 rfl)
theorem dL_law_441 : decode cL_law 441 = .ok (.iadd, 1) := dqo_96 (kb_6 57 rfl)
theorem dL_law_442 : decode cL_law 442 = .ok (.iaload, 1) := dqo_46 (kb_6 58 rfl)
theorem dL_law_443 : decode cL_law 443 = .ok (.aload_n 3, 1) := dqo_45 (kb_6 59 rfl)
theorem dL_law_444 : decode cL_law 444 = .ok (.invokestatic 191, 3) := dqo_184 0 191 (kb_6 60 rfl) (kb_6 61 rfl) (kb_6 62 rfl)
theorem dL_law_447 : decode cL_law 447 = .ok (.istore 5, 2) := dqo_54 5 (kb_6 63 rfl) (kb_7 0 rfl)
theorem dL_law_449 : decode cL_law 449 = .ok (.aload_n 2, 1) := dqo_44 (kb_7 1 rfl)
theorem dL_law_450 : decode cL_law 450 = .ok (.aload_n 0, 1) := dqo_42 (kb_7 2 rfl)
theorem dL_law_451 : decode cL_law 451 = .ok (.iload 4, 2) := dqo_21 4 (kb_7 3 rfl) (kb_7 4 rfl)
theorem dL_law_453 : decode cL_law 453 = .ok (.iconst 1, 1) := dqo_4 (kb_7 5 rfl)
theorem dL_law_454 : decode cL_law 454 = .ok (.iadd, 1) := dqo_96 (kb_7 6 rfl)
theorem dL_law_455 : decode cL_law 455 = .ok (.iaload, 1) := dqo_46 (kb_7 7 rfl)
theorem dL_law_456 : decode cL_law 456 = .ok (.invokevirtual 194, 3) := dqo_182 0 194 (kb_7 8 rfl) (kb_7 9 rfl) (kb_7 10 rfl)
theorem dL_law_459 : decode cL_law 459 = .ok (.istore 6, 2) := dqo_54 6 (kb_7 11 rfl) (kb_7 12 rfl)
theorem dL_law_461 : decode cL_law 461 = .ok (.goto 1668, 3) := dqo_167 6 132 (by decide) (kb_7 13 rfl) (kb_7 14 rfl) (kb_7 15 rfl)
theorem dL_law_464 : decode cL_law 464 = .ok (.aload_n 1, 1) := dqo_43 (kb_7 16 rfl)
theorem dL_law_465 : decode cL_law 465 = .ok (.aload_n 0, 1) := dqo_42 (kb_7 17 rfl)
theorem dL_law_466 : decode cL_law 466 = .ok (.iload 4, 2) := dqo_21 4 (kb_7 18 rfl) (kb_7 19 rfl)
theorem dL_law_468 : decode cL_law 468 = .ok (.iconst 1, 1) := dqo_4 (kb_7 20 rfl)
theorem dL_law_469 : decode cL_law 469 = .ok (.iadd, 1) := dqo_96 (kb_7 21 rfl)
theorem dL_law_470 : decode cL_law 470 = .ok (.iaload, 1) := dqo_46 (kb_7 22 rfl)
theorem dL_law_471 : decode cL_law 471 = .ok (.aload_n 0, 1) := dqo_42 (kb_7 23 rfl)
theorem dL_law_472 : decode cL_law 472 = .ok (.iload 4, 2) := dqo_21 4 (kb_7 24 rfl) (kb_7 25 rfl)
theorem dL_law_474 : decode cL_law 474 = .ok (.iconst 2, 1) := dqo_5 (kb_7 26 rfl)
theorem dL_law_475 : decode cL_law 475 = .ok (.iadd, 1) := dqo_96 (kb_7 27 rfl)
theorem dL_law_476 : decode cL_law 476 = .ok (.iaload, 1) := dqo_46 (kb_7 28 rfl)
theorem dL_law_477 : decode cL_law 477 = .ok (.aload_n 0, 1) := dqo_42 (kb_7 29 rfl)
theorem dL_law_478 : decode cL_law 478 = .ok (.iload 4, 2) := dqo_21 4 (kb_7 30 rfl) (kb_7 31 rfl)
theorem dL_law_480 : decode cL_law 480 = .ok (.iconst 3, 1) := dqo_6 (kb_7 32 rfl)
theorem dL_law_481 : decode cL_law 481 = .ok (.iadd, 1) := dqo_96 (kb_7 33 rfl)
theorem dL_law_482 : decode cL_law 482 = .ok (.iaload, 1) := dqo_46 (kb_7 34 rfl)
theorem dL_law_483 : decode cL_law 483 = .ok (.aload_n 0, 1) := dqo_42 (kb_7 35 rfl)
theorem dL_law_484 : decode cL_law 484 = .ok (.iload 4, 2) := dqo_21 4 (kb_7 36 rfl) (kb_7 37 rfl)
theorem dL_law_486 : decode cL_law 486 = .ok (.iconst 4, 1) := dqo_7 (kb_7 38 rfl)
theorem dL_law_487 : decode cL_law 487 = .ok (.iadd, 1) := dqo_96 (kb_7 39 rfl)
theorem dL_law_488 : decode cL_law 488 = .ok (.iaload, 1) := dqo_46 (kb_7 40 rfl)
theorem dL_law_489 : decode cL_law 489 = .ok (.aload_n 3, 1) := dqo_45 (kb_7 41 rfl)
theorem dL_law_490 : decode cL_law 490 = .ok (.invokestatic 195, 3) := dqo_184 0 195 (kb_7 42 rfl) (kb_7 43 rfl) (kb_7 44 rfl)
theorem dL_law_493 : decode cL_law 493 = .ok (.istore 5, 2) := dqo_54 5 (kb_7 45 rfl) (kb_7 46 rfl)
theorem dL_law_495 : decode cL_law 495 = .ok (.aload_n 2, 1) := dqo_44 (kb_7 47 rfl)
theorem dL_law_496 : decode cL_law 496 = .ok (.aload_n 0, 1) := dqo_42 (kb_7 48 rfl)
theorem dL_law_497 : decode cL_law 497 = .ok (.iload 4, 2) := dqo_21 4 (kb_7 49 rfl) (kb_7 50 rfl)
theorem dL_law_499 : decode cL_law 499 = .ok (.iconst 1, 1) := dqo_4 (kb_7 51 rfl)
theorem dL_law_500 : decode cL_law 500 = .ok (.iadd, 1) := dqo_96 (kb_7 52 rfl)
theorem dL_law_501 : decode cL_law 501 = .ok (.iaload, 1) := dqo_46 (kb_7 53 rfl)
theorem dL_law_502 : decode cL_law 502 = .ok (.aload_n 0, 1) := dqo_42 (kb_7 54 rfl)
theorem dL_law_503 : decode cL_law 503 = .ok (.iload 4, 2) := dqo_21 4 (kb_7 55 rfl) (kb_7 56 rfl)
theorem dL_law_505 : decode cL_law 505 = .ok (.iconst 2, 1) := dqo_5 (kb_7 57 rfl)
theorem dL_law_506 : decode cL_law 506 = .ok (.iadd, 1) := dqo_96 (kb_7 58 rfl)
theorem dL_law_507 : decode cL_law 507 = .ok (.iaload, 1) := dqo_46 (kb_7 59 rfl)
theorem dL_law_508 : decode cL_law 508 = .ok (.aload_n 0, 1) := dqo_42 (kb_7 60 rfl)
theorem dL_law_509 : decode cL_law 509 = .ok (.iload 4, 2) := dqo_21 4 (kb_7 61 rfl) (kb_7 62 rfl)
theorem dL_law_511 : decode cL_law 511 = .ok (.iconst 3, 1) := dqo_6 (kb_7 63 rfl)
theorem dL_law_512 : decode cL_law 512 = .ok (.iadd, 1) := dqo_96 (kb_8 0 rfl)
theorem dL_law_513 : decode cL_law 513 = .ok (.iaload, 1) := dqo_46 (kb_8 1 rfl)
theorem dL_law_514 : decode cL_law 514 = .ok (.aload_n 0, 1) := dqo_42 (kb_8 2 rfl)
theorem dL_law_515 : decode cL_law 515 = .ok (.iload 4, 2) := dqo_21 4 (kb_8 3 rfl) (kb_8 4 rfl)
theorem dL_law_517 : decode cL_law 517 = .ok (.iconst 4, 1) := dqo_7 (kb_8 5 rfl)
theorem dL_law_518 : decode cL_law 518 = .ok (.iadd, 1) := dqo_96 (kb_8 6 rfl)
theorem dL_law_519 : decode cL_law 519 = .ok (.iaload, 1) := dqo_46 (kb_8 7 rfl)
theorem dL_law_520 : decode cL_law 520 = .ok (.invokevirtual 198, 3) := dqo_182 0 198 (kb_8 8 rfl) (kb_8 9 rfl) (kb_8 10 rfl)
theorem dL_law_523 : decode cL_law 523 = .ok (.istore 6, 2) := dqo_54 6 (kb_8 11 rfl) (kb_8 12 rfl)
theorem dL_law_525 : decode cL_law 525 = .ok (.goto 1604, 3) := dqo_167 6 68 (by decide) (kb_8 13 rfl) (kb_8 14 rfl) (kb_8 15 rfl)
theorem dL_law_528 : decode cL_law 528 = .ok (.aload_n 1, 1) := dqo_43 (kb_8 16 rfl)
theorem dL_law_529 : decode cL_law 529 = .ok (.aload_n 0, 1) := dqo_42 (kb_8 17 rfl)
theorem dL_law_530 : decode cL_law 530 = .ok (.iload 4, 2) := dqo_21 4 (kb_8 18 rfl) (kb_8 19 rfl)
theorem dL_law_532 : decode cL_law 532 = .ok (.iconst 1, 1) := dqo_4 (kb_8 20 rfl)
theorem dL_law_533 : decode cL_law 533 = .ok (.iadd, 1) := dqo_96 (kb_8 21 rfl)
theorem dL_law_534 : decode cL_law 534 = .ok (.iaload, 1) := dqo_46 (kb_8 22 rfl)
theorem dL_law_535 : decode cL_law 535 = .ok (.aload_n 0, 1) := dqo_42 (kb_8 23 rfl)
theorem dL_law_536 : decode cL_law 536 = .ok (.iload 4, 2) := dqo_21 4 (kb_8 24 rfl) (kb_8 25 rfl)
theorem dL_law_538 : decode cL_law 538 = .ok (.iconst 2, 1) := dqo_5 (kb_8 26 rfl)
theorem dL_law_539 : decode cL_law 539 = .ok (.iadd, 1) := dqo_96 (kb_8 27 rfl)
theorem dL_law_540 : decode cL_law 540 = .ok (.iaload, 1) := dqo_46 (kb_8 28 rfl)
theorem dL_law_541 : decode cL_law 541 = .ok (.aload_n 3, 1) := dqo_45 (kb_8 29 rfl)
theorem dL_law_542 : decode cL_law 542 = .ok (.invokestatic 199, 3) := dqo_184 0 199 (kb_8 30 rfl) (kb_8 31 rfl) (kb_8 32 rfl)
theorem dL_law_545 : decode cL_law 545 = .ok (.istore 5, 2) := dqo_54 5 (kb_8 33 rfl) (kb_8 34 rfl)
theorem dL_law_547 : decode cL_law 547 = .ok (.aload_n 2, 1) := dqo_44 (kb_8 35 rfl)
theorem dL_law_548 : decode cL_law 548 = .ok (.aload_n 0, 1) := dqo_42 (kb_8 36 rfl)
theorem dL_law_549 : decode cL_law 549 = .ok (.iload 4, 2) := dqo_21 4 (kb_8 37 rfl) (kb_8 38 rfl)
theorem dL_law_551 : decode cL_law 551 = .ok (.iconst 1, 1) := dqo_4 (kb_8 39 rfl)
theorem dL_law_552 : decode cL_law 552 = .ok (.iadd, 1) := dqo_96 (kb_8 40 rfl)
theorem dL_law_553 : decode cL_law 553 = .ok (.iaload, 1) := dqo_46 (kb_8 41 rfl)
theorem dL_law_554 : decode cL_law 554 = .ok (.aload_n 0, 1) := dqo_42 (kb_8 42 rfl)
theorem dL_law_555 : decode cL_law 555 = .ok (.iload 4, 2) := dqo_21 4 (kb_8 43 rfl) (kb_8 44 rfl)
theorem dL_law_557 : decode cL_law 557 = .ok (.iconst 2, 1) := dqo_5 (kb_8 45 rfl)
theorem dL_law_558 : decode cL_law 558 = .ok (.iadd, 1) := dqo_96 (kb_8 46 rfl)
theorem dL_law_559 : decode cL_law 559 = .ok (.iaload, 1) := dqo_46 (kb_8 47 rfl)
theorem dL_law_560 : decode cL_law 560 = .ok (.invokevirtual 201, 3) := dqo_182 0 201 (kb_8 48 rfl) (kb_8 49 rfl) (kb_8 50 rfl)
theorem dL_law_563 : decode cL_law 563 = .ok (.istore 6, 2) := dqo_54 6 (kb_8 51 rfl) (kb_8 52 rfl)
theorem dL_law_565 : decode cL_law 565 = .ok (.goto 1564, 3) := dqo_167 6 28 (by decide) (kb_8 53 rfl) (kb_8 54 rfl) (kb_8 55 rfl)
theorem dL_law_568 : decode cL_law 568 = .ok (.aload_n 1, 1) := dqo_43 (kb_8 56 rfl)
theorem dL_law_569 : decode cL_law 569 = .ok (.aload_n 0, 1) := dqo_42 (kb_8 57 rfl)
theorem dL_law_570 : decode cL_law 570 = .ok (.iload 4, 2) := dqo_21 4 (kb_8 58 rfl) (kb_8 59 rfl)
theorem dL_law_572 : decode cL_law 572 = .ok (.iconst 1, 1) := dqo_4 (kb_8 60 rfl)
theorem dL_law_573 : decode cL_law 573 = .ok (.iadd, 1) := dqo_96 (kb_8 61 rfl)
theorem dL_law_574 : decode cL_law 574 = .ok (.iaload, 1) := dqo_46 (kb_8 62 rfl)
theorem dL_law_575 : decode cL_law 575 = .ok (.aload_n 3, 1) := dqo_45 (kb_8 63 rfl)
theorem dL_law_576 : decode cL_law 576 = .ok (.invokestatic 202, 3) := dqo_184 0 202 (kb_9 0 rfl) (kb_9 1 rfl) (kb_9 2 rfl)
theorem dL_law_579 : decode cL_law 579 = .ok (.istore 5, 2) := dqo_54 5 (kb_9 3 rfl) (kb_9 4 rfl)
theorem dL_law_581 : decode cL_law 581 = .ok (.aload_n 2, 1) := dqo_44 (kb_9 5 rfl)
theorem dL_law_582 : decode cL_law 582 = .ok (.aload_n 0, 1) := dqo_42 (kb_9 6 rfl)
theorem dL_law_583 : decode cL_law 583 = .ok (.iload 4, 2) := dqo_21 4 (kb_9 7 rfl) (kb_9 8 rfl)
theorem dL_law_585 : decode cL_law 585 = .ok (.iconst 1, 1) := dqo_4 (kb_9 9 rfl)
theorem dL_law_586 : decode cL_law 586 = .ok (.iadd, 1) := dqo_96 (kb_9 10 rfl)
theorem dL_law_587 : decode cL_law 587 = .ok (.iaload, 1) := dqo_46 (kb_9 11 rfl)
theorem dL_law_588 : decode cL_law 588 = .ok (.invokevirtual 204, 3) := dqo_182 0 204 (kb_9 12 rfl) (kb_9 13 rfl) (kb_9 14 rfl)
theorem dL_law_591 : decode cL_law 591 = .ok (.istore 6, 2) := dqo_54 6 (kb_9 15 rfl) (kb_9 16 rfl)
theorem dL_law_593 : decode cL_law 593 = .ok (.goto 1536, 3) := dqo_167 6 0 (by decide) (kb_9 17 rfl) (kb_9 18 rfl) (kb_9 19 rfl)
theorem dL_law_596 : decode cL_law 596 = .ok (.aload_n 1, 1) := dqo_43 (kb_9 20 rfl)
theorem dL_law_597 : decode cL_law 597 = .ok (.aload_n 0, 1) := dqo_42 (kb_9 21 rfl)
theorem dL_law_598 : decode cL_law 598 = .ok (.iload 4, 2) := dqo_21 4 (kb_9 22 rfl) (kb_9 23 rfl)
theorem dL_law_600 : decode cL_law 600 = .ok (.iconst 1, 1) := dqo_4 (kb_9 24 rfl)
theorem dL_law_601 : decode cL_law 601 = .ok (.iadd, 1) := dqo_96 (kb_9 25 rfl)
theorem dL_law_602 : decode cL_law 602 = .ok (.iaload, 1) := dqo_46 (kb_9 26 rfl)
theorem dL_law_603 : decode cL_law 603 = .ok (.aload_n 0, 1) := dqo_42 (kb_9 27 rfl)
theorem dL_law_604 : decode cL_law 604 = .ok (.iload 4, 2) := dqo_21 4 (kb_9 28 rfl) (kb_9 29 rfl)
theorem dL_law_606 : decode cL_law 606 = .ok (.iconst 2, 1) := dqo_5 (kb_9 30 rfl)
theorem dL_law_607 : decode cL_law 607 = .ok (.iadd, 1) := dqo_96 (kb_9 31 rfl)
theorem dL_law_608 : decode cL_law 608 = .ok (.iaload, 1) := dqo_46 (kb_9 32 rfl)
theorem dL_law_609 : decode cL_law 609 = .ok (.aload_n 0, 1) := dqo_42 (kb_9 33 rfl)
theorem dL_law_610 : decode cL_law 610 = .ok (.iload 4, 2) := dqo_21 4 (kb_9 34 rfl) (kb_9 35 rfl)
theorem dL_law_612 : decode cL_law 612 = .ok (.iconst 3, 1) := dqo_6 (kb_9 36 rfl)
theorem dL_law_613 : decode cL_law 613 = .ok (.iadd, 1) := dqo_96 (kb_9 37 rfl)
theorem dL_law_614 : decode cL_law 614 = .ok (.iaload, 1) := dqo_46 (kb_9 38 rfl)
theorem dL_law_615 : decode cL_law 615 = .ok (.aload_n 3, 1) := dqo_45 (kb_9 39 rfl)
theorem dL_law_616 : decode cL_law 616 = .ok (.invokestatic 205, 3) := dqo_184 0 205 (kb_9 40 rfl) (kb_9 41 rfl) (kb_9 42 rfl)
theorem dL_law_619 : decode cL_law 619 = .ok (.istore 5, 2) := dqo_54 5 (kb_9 43 rfl) (kb_9 44 rfl)
theorem dL_law_621 : decode cL_law 621 = .ok (.aload_n 2, 1) := dqo_44 (kb_9 45 rfl)
theorem dL_law_622 : decode cL_law 622 = .ok (.aload_n 0, 1) := dqo_42 (kb_9 46 rfl)
theorem dL_law_623 : decode cL_law 623 = .ok (.iload 4, 2) := dqo_21 4 (kb_9 47 rfl) (kb_9 48 rfl)
theorem dL_law_625 : decode cL_law 625 = .ok (.iconst 1, 1) := dqo_4 (kb_9 49 rfl)
theorem dL_law_626 : decode cL_law 626 = .ok (.iadd, 1) := dqo_96 (kb_9 50 rfl)
theorem dL_law_627 : decode cL_law 627 = .ok (.iaload, 1) := dqo_46 (kb_9 51 rfl)
theorem dL_law_628 : decode cL_law 628 = .ok (.aload_n 0, 1) := dqo_42 (kb_9 52 rfl)
theorem dL_law_629 : decode cL_law 629 = .ok (.iload 4, 2) := dqo_21 4 (kb_9 53 rfl) (kb_9 54 rfl)
theorem dL_law_631 : decode cL_law 631 = .ok (.iconst 2, 1) := dqo_5 (kb_9 55 rfl)
theorem dL_law_632 : decode cL_law 632 = .ok (.iadd, 1) := dqo_96 (kb_9 56 rfl)
theorem dL_law_633 : decode cL_law 633 = .ok (.iaload, 1) := dqo_46 (kb_9 57 rfl)
theorem dL_law_634 : decode cL_law 634 = .ok (.aload_n 0, 1) := dqo_42 (kb_9 58 rfl)
theorem dL_law_635 : decode cL_law 635 = .ok (.iload 4, 2) := dqo_21 4 (kb_9 59 rfl) (kb_9 60 rfl)
theorem dL_law_637 : decode cL_law 637 = .ok (.iconst 3, 1) := dqo_6 (kb_9 61 rfl)
theorem dL_law_638 : decode cL_law 638 = .ok (.iadd, 1) := dqo_96 (kb_9 62 rfl)
theorem dL_law_639 : decode cL_law 639 = .ok (.iaload, 1) := dqo_46 (kb_9 63 rfl)
theorem dL_law_640 : decode cL_law 640 = .ok (.invokevirtual 207, 3) := dqo_182 0 207 (kb_10 0 rfl) (kb_10 1 rfl) (kb_10 2 rfl)
theorem dL_law_643 : decode cL_law 643 = .ok (.istore 6, 2) := dqo_54 6 (kb_10 3 rfl) (kb_10 4 rfl)
theorem dL_law_645 : decode cL_law 645 = .ok (.goto 1484, 3) := dqo_167 5 204 (by decide) (kb_10 5 rfl) (kb_10 6 rfl) (kb_10 7 rfl)
theorem dL_law_648 : decode cL_law 648 = .ok (.aload_n 1, 1) := dqo_43 (kb_10 8 rfl)
theorem dL_law_649 : decode cL_law 649 = .ok (.aload_n 0, 1) := dqo_42 (kb_10 9 rfl)
theorem dL_law_650 : decode cL_law 650 = .ok (.iload 4, 2) := dqo_21 4 (kb_10 10 rfl) (kb_10 11 rfl)
theorem dL_law_652 : decode cL_law 652 = .ok (.iconst 1, 1) := dqo_4 (kb_10 12 rfl)
theorem dL_law_653 : decode cL_law 653 = .ok (.iadd, 1) := dqo_96 (kb_10 13 rfl)
theorem dL_law_654 : decode cL_law 654 = .ok (.iaload, 1) := dqo_46 (kb_10 14 rfl)
theorem dL_law_655 : decode cL_law 655 = .ok (.aload_n 3, 1) := dqo_45 (kb_10 15 rfl)
theorem dL_law_656 : decode cL_law 656 = .ok (.invokestatic 208, 3) := dqo_184 0 208 (kb_10 16 rfl) (kb_10 17 rfl) (kb_10 18 rfl)
theorem dL_law_659 : decode cL_law 659 = .ok (.istore 5, 2) := dqo_54 5 (kb_10 19 rfl) (kb_10 20 rfl)
theorem dL_law_661 : decode cL_law 661 = .ok (.aload_n 2, 1) := dqo_44 (kb_10 21 rfl)
theorem dL_law_662 : decode cL_law 662 = .ok (.aload_n 0, 1) := dqo_42 (kb_10 22 rfl)
theorem dL_law_663 : decode cL_law 663 = .ok (.iload 4, 2) := dqo_21 4 (kb_10 23 rfl) (kb_10 24 rfl)
theorem dL_law_665 : decode cL_law 665 = .ok (.iconst 1, 1) := dqo_4 (kb_10 25 rfl)
theorem dL_law_666 : decode cL_law 666 = .ok (.iadd, 1) := dqo_96 (kb_10 26 rfl)
theorem dL_law_667 : decode cL_law 667 = .ok (.iaload, 1) := dqo_46 (kb_10 27 rfl)
theorem dL_law_668 : decode cL_law 668 = .ok (.invokevirtual 210, 3) := dqo_182 0 210 (kb_10 28 rfl) (kb_10 29 rfl) (kb_10 30 rfl)
theorem dL_law_671 : decode cL_law 671 = .ok (.istore 6, 2) := dqo_54 6 (kb_10 31 rfl) (kb_10 32 rfl)
theorem dL_law_673 : decode cL_law 673 = .ok (.goto 1456, 3) := dqo_167 5 176 (by decide) (kb_10 33 rfl) (kb_10 34 rfl) (kb_10 35 rfl)
theorem dL_law_676 : decode cL_law 676 = .ok (.aload_n 1, 1) := dqo_43 (kb_10 36 rfl)
theorem dL_law_677 : decode cL_law 677 = .ok (.aload_n 0, 1) := dqo_42 (kb_10 37 rfl)
theorem dL_law_678 : decode cL_law 678 = .ok (.iload 4, 2) := dqo_21 4 (kb_10 38 rfl) (kb_10 39 rfl)
theorem dL_law_680 : decode cL_law 680 = .ok (.iconst 1, 1) := dqo_4 (kb_10 40 rfl)
theorem dL_law_681 : decode cL_law 681 = .ok (.iadd, 1) := dqo_96 (kb_10 41 rfl)
theorem dL_law_682 : decode cL_law 682 = .ok (.iaload, 1) := dqo_46 (kb_10 42 rfl)
theorem dL_law_683 : decode cL_law 683 = .ok (.aload_n 3, 1) := dqo_45 (kb_10 43 rfl)
theorem dL_law_684 : decode cL_law 684 = .ok (.invokestatic 211, 3) := dqo_184 0 211 (kb_10 44 rfl) (kb_10 45 rfl) (kb_10 46 rfl)
theorem dL_law_687 : decode cL_law 687 = .ok (.istore 5, 2) := dqo_54 5 (kb_10 47 rfl) (kb_10 48 rfl)
theorem dL_law_689 : decode cL_law 689 = .ok (.aload_n 2, 1) := dqo_44 (kb_10 49 rfl)
theorem dL_law_690 : decode cL_law 690 = .ok (.aload_n 0, 1) := dqo_42 (kb_10 50 rfl)
theorem dL_law_691 : decode cL_law 691 = .ok (.iload 4, 2) := dqo_21 4 (kb_10 51 rfl) (kb_10 52 rfl)
theorem dL_law_693 : decode cL_law 693 = .ok (.iconst 1, 1) := dqo_4 (kb_10 53 rfl)
theorem dL_law_694 : decode cL_law 694 = .ok (.iadd, 1) := dqo_96 (kb_10 54 rfl)
theorem dL_law_695 : decode cL_law 695 = .ok (.iaload, 1) := dqo_46 (kb_10 55 rfl)
theorem dL_law_696 : decode cL_law 696 = .ok (.invokevirtual 213, 3) := dqo_182 0 213 (kb_10 56 rfl) (kb_10 57 rfl) (kb_10 58 rfl)
theorem dL_law_699 : decode cL_law 699 = .ok (.istore 6, 2) := dqo_54 6 (kb_10 59 rfl) (kb_10 60 rfl)
theorem dL_law_701 : decode cL_law 701 = .ok (.goto 1428, 3) := dqo_167 5 148 (by decide) (kb_10 61 rfl) (kb_10 62 rfl) (kb_10 63 rfl)
theorem dL_law_704 : decode cL_law 704 = .ok (.aload_n 1, 1) := dqo_43 (kb_11 0 rfl)
theorem dL_law_705 : decode cL_law 705 = .ok (.aload_n 0, 1) := dqo_42 (kb_11 1 rfl)
theorem dL_law_706 : decode cL_law 706 = .ok (.iload 4, 2) := dqo_21 4 (kb_11 2 rfl) (kb_11 3 rfl)
theorem dL_law_708 : decode cL_law 708 = .ok (.iconst 1, 1) := dqo_4 (kb_11 4 rfl)
theorem dL_law_709 : decode cL_law 709 = .ok (.iadd, 1) := dqo_96 (kb_11 5 rfl)
theorem dL_law_710 : decode cL_law 710 = .ok (.iaload, 1) := dqo_46 (kb_11 6 rfl)
theorem dL_law_711 : decode cL_law 711 = .ok (.aload_n 3, 1) := dqo_45 (kb_11 7 rfl)
theorem dL_law_712 : decode cL_law 712 = .ok (.invokestatic 214, 3) := dqo_184 0 214 (kb_11 8 rfl) (kb_11 9 rfl) (kb_11 10 rfl)
theorem dL_law_715 : decode cL_law 715 = .ok (.istore 5, 2) := dqo_54 5 (kb_11 11 rfl) (kb_11 12 rfl)
theorem dL_law_717 : decode cL_law 717 = .ok (.aload_n 2, 1) := dqo_44 (kb_11 13 rfl)
theorem dL_law_718 : decode cL_law 718 = .ok (.aload_n 0, 1) := dqo_42 (kb_11 14 rfl)
theorem dL_law_719 : decode cL_law 719 = .ok (.iload 4, 2) := dqo_21 4 (kb_11 15 rfl) (kb_11 16 rfl)
theorem dL_law_721 : decode cL_law 721 = .ok (.iconst 1, 1) := dqo_4 (kb_11 17 rfl)
theorem dL_law_722 : decode cL_law 722 = .ok (.iadd, 1) := dqo_96 (kb_11 18 rfl)
theorem dL_law_723 : decode cL_law 723 = .ok (.iaload, 1) := dqo_46 (kb_11 19 rfl)
theorem dL_law_724 : decode cL_law 724 = .ok (.invokevirtual 216, 3) := dqo_182 0 216 (kb_11 20 rfl) (kb_11 21 rfl) (kb_11 22 rfl)
theorem dL_law_727 : decode cL_law 727 = .ok (.istore 6, 2) := dqo_54 6 (kb_11 23 rfl) (kb_11 24 rfl)
theorem dL_law_729 : decode cL_law 729 = .ok (.goto 1400, 3) := dqo_167 5 120 (by decide) (kb_11 25 rfl) (kb_11 26 rfl) (kb_11 27 rfl)
theorem S_add {p : Program} {l : Launch} {e : Env} {s : State} {m : MethodId} {args : Array Value} {below : List Frame} {meth : Method} {c : Code} {D : va_G} {cy : Nat → ClassId} {A : Nat → Prop} {Q : State → Prop} {X : (Nat → Prop) → State → Heap → Prop} {aK aV : Nat → Nat} {tO tT : Nat} {gO gT : Nat → Int32} {a : Nat → Nat → Nat} {ba : Nat → Nat} {o b L i cells slots : Nat} {xs : Nat → Int32} {w : va_W} (C : Fg p s m args meth c cL_law 7 RL D cy A) (hE : X A s s.heap) (hT : EnvT X cy aK aV tO tT gO gT) (hN : EnvN X) (hl : l.stackTraces = false) (hx : va_X b L xs s s.heap) (hbl : b < s.heap.size) (hbA : ¬ A b) (hi : i + 5 ≤ L) (hL : L ≤ 2560) (hc : cells + 500 ≤ room_1.cells) (hs : slots + 10000 ≤ room_1.slots) (hJ : JW cy a ba o w) (kk : ∀ w' : va_W, JW cy a ba o w' → vW p l e room_1 s m args below meth c D vwCl A Q 7 (cells + 500) (slots + 10000) w' [some (.ref b), some (.ref (a 0 0)), some (.ref (ba 9)), some (.ref o), some (.int (nI i)), none, none] 2129 []) : vW p l e room_1 s m args below meth c D vwCl A Q 7 cells slots w [some (.ref b), some (.ref (a 0 0)), some (.ref (ba 9)), some (.ref o), some (.int (nI i)), none, none] 252 [] := by
  have hX := hT.1.1
  obtain ⟨f, r, hf, hq, kn, ra, th, sm, n, v, hC, hB, hM, rfl⟩ := hJ
  refine r_aload_n C dL_law_252 rfl ?_
  refine r_aload_n C dL_law_253 rfl ?_
  refine r_iload C dL_law_254 rfl ?_
  refine r_iconst (v := nI 1) C dL_law_256 (by decide) ?_
  refine r_iaddN C dL_law_257 ?_
  refine r_sld C hx hbl hbA (show i + 1 < L by omega) (by omega) dL_law_258 ?_
  refine r_aload_n C dL_law_259 rfl ?_
  refine r_iload C dL_law_260 rfl ?_
  refine r_iconst (v := nI 2) C dL_law_262 (by decide) ?_
  refine r_iaddN C dL_law_263 ?_
  refine r_sld C hx hbl hbA (show i + 2 < L by omega) (by omega) dL_law_264 ?_
  refine r_aload_n C dL_law_265 rfl ?_
  refine c_SH (st := []) hX.1.stb C hE (W_add hX.1 hN hC hB hM (P_add hX hl hC hB hM (xs (i + 1)) (xs (i + 2)))) pk_L_add qm_L_175 rfl rfl (Nat.le_of_ble_eq_true rfl) dL_law_266 ⟨(Nat.le_of_ble_eq_true rfl), (Nat.le_of_ble_eq_true rfl)⟩ ⟨show cells + 1 ≤ room_1.cells by omega, show slots + 6 ≤ room_1.slots by omega⟩ (fun v9 w9 h9 => ?_) (fun _ h9 => h9.elim)
  obtain ⟨f', r', k, n1, rfl, rfl, hf', hq', n2, hC', hB', hM', hk0, hk4, h2⟩ := h9
  refine r_istore C dL_law_269 (by decide) rfl ?_
  refine r_aload_n C dL_law_271 rfl ?_
  refine r_aload_n C dL_law_272 rfl ?_
  refine r_iload C dL_law_273 rfl ?_
  refine r_iconst (v := nI 1) C dL_law_275 (by decide) ?_
  refine r_iaddN C dL_law_276 ?_
  refine r_sld C hx hbl hbA (show i + 1 < L by omega) (by omega) dL_law_277 ?_
  refine r_aload_n C dL_law_278 rfl ?_
  refine r_iload C dL_law_279 rfl ?_
  refine r_iconst (v := nI 2) C dL_law_281 (by decide) ?_
  refine r_iaddN C dL_law_282 ?_
  refine r_sld C hx hbl hbA (show i + 2 < L by omega) (by omega) dL_law_283 ?_
  refine t_swap3 ?_
  refine c_V (st := []) hX.1.stb C hE (h2 _) pk_X4_add qm_L_180 0 8 rfl rfl wm_0 rfl rfl (Nat.le_of_ble_eq_true rfl) dL_law_284 ⟨(Nat.le_of_ble_eq_true rfl), (Nat.le_of_ble_eq_true rfl)⟩ ⟨show cells + 1 + 4 ≤ room_1.cells by omega, show slots + 6 + 48 ≤ room_1.slots by omega⟩ (fun v9 w9 h9 => ?_) (fun _ h9 => h9.elim)
  obtain ⟨ra9, rfl, rfl⟩ := h9
  refine r_istore C dL_law_287 (by decide) rfl ?_
  refine t_swap3 ?_
  refine r_goto (tgt := 2129) C dL_law_289 (by decide) ?_
  refine r_widen (k := cells + 500) (n := slots + 10000) (show cells + 1 + 4 ≤ cells + 500 by omega) (show slots + 6 + 48 ≤ slots + 10000 by omega) ?_
  refine r_drop 5 ?_
  refine r_drop 6 ?_
  exact kk _ ⟨f', r', hf', hq', kn, ra9, _, sm, _, _, hC', hB', hM', rfl⟩
theorem S_insert {p : Program} {l : Launch} {e : Env} {s : State} {m : MethodId} {args : Array Value} {below : List Frame} {meth : Method} {c : Code} {D : va_G} {cy : Nat → ClassId} {A : Nat → Prop} {Q : State → Prop} {X : (Nat → Prop) → State → Heap → Prop} {aK aV : Nat → Nat} {tO tT : Nat} {gO gT : Nat → Int32} {a : Nat → Nat → Nat} {ba : Nat → Nat} {o b L i cells slots : Nat} {xs : Nat → Int32} {w : va_W} (C : Fg p s m args meth c cL_law 7 RL D cy A) (hE : X A s s.heap) (hT : EnvT X cy aK aV tO tT gO gT) (hN : EnvN X) (hl : l.stackTraces = false) (hx : va_X b L xs s s.heap) (hbl : b < s.heap.size) (hbA : ¬ A b) (hi : i + 5 ≤ L) (hL : L ≤ 2560) (hc : cells + 500 ≤ room_1.cells) (hs : slots + 10000 ≤ room_1.slots) (hJ : JW cy a ba o w) (kk : ∀ w' : va_W, JW cy a ba o w' → vW p l e room_1 s m args below meth c D vwCl A Q 7 (cells + 500) (slots + 10000) w' [some (.ref b), some (.ref (a 0 0)), some (.ref (ba 9)), some (.ref o), some (.int (nI i)), none, none] 2129 []) : vW p l e room_1 s m args below meth c D vwCl A Q 7 cells slots w [some (.ref b), some (.ref (a 0 0)), some (.ref (ba 9)), some (.ref o), some (.int (nI i)), none, none] 292 [] := by
  have hX := hT.1.1
  obtain ⟨f, r, hf, hq, kn, ra, th, sm, n, v, hC, hB, hM, rfl⟩ := hJ
  refine r_aload_n C dL_law_292 rfl ?_
  refine r_aload_n C dL_law_293 rfl ?_
  refine r_iload C dL_law_294 rfl ?_
  refine r_iconst (v := nI 1) C dL_law_296 (by decide) ?_
  refine r_iaddN C dL_law_297 ?_
  refine r_sld C hx hbl hbA (show i + 1 < L by omega) (by omega) dL_law_298 ?_
  refine r_aload_n C dL_law_299 rfl ?_
  refine r_iload C dL_law_300 rfl ?_
  refine r_iconst (v := nI 2) C dL_law_302 (by decide) ?_
  refine r_iaddN C dL_law_303 ?_
  refine r_sld C hx hbl hbA (show i + 2 < L by omega) (by omega) dL_law_304 ?_
  refine r_aload_n C dL_law_305 rfl ?_
  refine r_iload C dL_law_306 rfl ?_
  refine r_iconst (v := nI 3) C dL_law_308 (by decide) ?_
  refine r_iaddN C dL_law_309 ?_
  refine r_sld C hx hbl hbA (show i + 3 < L by omega) (by omega) dL_law_310 ?_
  refine r_aload_n C dL_law_311 rfl ?_
  refine c_SH (st := []) hX.1.stb C hE (W_insert hX.1 hN hC hB hM (P_insert hX hl hC hB hM (xs (i + 1)) (xs (i + 2)) (xs (i + 3)))) pk_L_insert qm_L_181 rfl rfl (Nat.le_of_ble_eq_true rfl) dL_law_312 ⟨(Nat.le_of_ble_eq_true rfl), (Nat.le_of_ble_eq_true rfl)⟩ ⟨show cells + 1 ≤ room_1.cells by omega, show slots + 6 ≤ room_1.slots by omega⟩ (fun v9 w9 h9 => ?_) (fun _ h9 => h9.elim)
  obtain ⟨f', r', k, n1, rfl, rfl, hf', hq', n2, hC', hB', hM', hk0, hk4, h2⟩ := h9
  refine r_istore C dL_law_315 (by decide) rfl ?_
  refine r_aload_n C dL_law_317 rfl ?_
  refine r_aload_n C dL_law_318 rfl ?_
  refine r_iload C dL_law_319 rfl ?_
  refine r_iconst (v := nI 1) C dL_law_321 (by decide) ?_
  refine r_iaddN C dL_law_322 ?_
  refine r_sld C hx hbl hbA (show i + 1 < L by omega) (by omega) dL_law_323 ?_
  refine r_aload_n C dL_law_324 rfl ?_
  refine r_iload C dL_law_325 rfl ?_
  refine r_iconst (v := nI 2) C dL_law_327 (by decide) ?_
  refine r_iaddN C dL_law_328 ?_
  refine r_sld C hx hbl hbA (show i + 2 < L by omega) (by omega) dL_law_329 ?_
  refine r_aload_n C dL_law_330 rfl ?_
  refine r_iload C dL_law_331 rfl ?_
  refine r_iconst (v := nI 3) C dL_law_333 (by decide) ?_
  refine r_iaddN C dL_law_334 ?_
  refine r_sld C hx hbl hbA (show i + 3 < L by omega) (by omega) dL_law_335 ?_
  refine t_swap3 ?_
  refine c_V (st := []) hX.1.stb C hE (h2 _) pk_X4_insert qm_L_184 0 8 rfl rfl wm_0 rfl rfl (Nat.le_of_ble_eq_true rfl) dL_law_336 ⟨(Nat.le_of_ble_eq_true rfl), (Nat.le_of_ble_eq_true rfl)⟩ ⟨show cells + 1 + 4 ≤ room_1.cells by omega, show slots + 6 + 48 ≤ room_1.slots by omega⟩ (fun v9 w9 h9 => ?_) (fun _ h9 => h9.elim)
  obtain ⟨ra9, rfl, rfl⟩ := h9
  refine r_istore C dL_law_339 (by decide) rfl ?_
  refine t_swap3 ?_
  refine r_goto (tgt := 2129) C dL_law_341 (by decide) ?_
  refine r_widen (k := cells + 500) (n := slots + 10000) (show cells + 1 + 4 ≤ cells + 500 by omega) (show slots + 6 + 48 ≤ slots + 10000 by omega) ?_
  refine r_drop 5 ?_
  refine r_drop 6 ?_
  exact kk _ ⟨f', r', hf', hq', kn, ra9, _, sm, _, _, hC', hB', hM', rfl⟩
theorem S_set {p : Program} {l : Launch} {e : Env} {s : State} {m : MethodId} {args : Array Value} {below : List Frame} {meth : Method} {c : Code} {D : va_G} {cy : Nat → ClassId} {A : Nat → Prop} {Q : State → Prop} {X : (Nat → Prop) → State → Heap → Prop} {aK aV : Nat → Nat} {tO tT : Nat} {gO gT : Nat → Int32} {a : Nat → Nat → Nat} {ba : Nat → Nat} {o b L i cells slots : Nat} {xs : Nat → Int32} {w : va_W} (C : Fg p s m args meth c cL_law 7 RL D cy A) (hE : X A s s.heap) (hT : EnvT X cy aK aV tO tT gO gT) (hN : EnvN X) (hl : l.stackTraces = false) (hx : va_X b L xs s s.heap) (hbl : b < s.heap.size) (hbA : ¬ A b) (hi : i + 5 ≤ L) (hL : L ≤ 2560) (hc : cells + 500 ≤ room_1.cells) (hs : slots + 10000 ≤ room_1.slots) (hJ : JW cy a ba o w) (kk : ∀ w' : va_W, JW cy a ba o w' → vW p l e room_1 s m args below meth c D vwCl A Q 7 (cells + 500) (slots + 10000) w' [some (.ref b), some (.ref (a 0 0)), some (.ref (ba 9)), some (.ref o), some (.int (nI i)), none, none] 2129 []) : vW p l e room_1 s m args below meth c D vwCl A Q 7 cells slots w [some (.ref b), some (.ref (a 0 0)), some (.ref (ba 9)), some (.ref o), some (.int (nI i)), none, none] 344 [] := by
  have hX := hT.1.1
  obtain ⟨f, r, hf, hq, kn, ra, th, sm, n, v, hC, hB, hM, rfl⟩ := hJ
  refine r_aload_n C dL_law_344 rfl ?_
  refine r_aload_n C dL_law_345 rfl ?_
  refine r_iload C dL_law_346 rfl ?_
  refine r_iconst (v := nI 1) C dL_law_348 (by decide) ?_
  refine r_iaddN C dL_law_349 ?_
  refine r_sld C hx hbl hbA (show i + 1 < L by omega) (by omega) dL_law_350 ?_
  refine r_aload_n C dL_law_351 rfl ?_
  refine r_iload C dL_law_352 rfl ?_
  refine r_iconst (v := nI 2) C dL_law_354 (by decide) ?_
  refine r_iaddN C dL_law_355 ?_
  refine r_sld C hx hbl hbA (show i + 2 < L by omega) (by omega) dL_law_356 ?_
  refine r_aload_n C dL_law_357 rfl ?_
  refine r_iload C dL_law_358 rfl ?_
  refine r_iconst (v := nI 3) C dL_law_360 (by decide) ?_
  refine r_iaddN C dL_law_361 ?_
  refine r_sld C hx hbl hbA (show i + 3 < L by omega) (by omega) dL_law_362 ?_
  refine r_aload_n C dL_law_363 rfl ?_
  refine c_SH (st := []) hX.1.stb C hE (W_set hX.1 hN hC hB hM (P_set hX hl hC hB hM (xs (i + 1)) (xs (i + 2)) (xs (i + 3)))) pk_L_set qm_L_185 rfl rfl (Nat.le_of_ble_eq_true rfl) dL_law_364 ⟨(Nat.le_of_ble_eq_true rfl), (Nat.le_of_ble_eq_true rfl)⟩ ⟨show cells + 1 ≤ room_1.cells by omega, show slots + 6 ≤ room_1.slots by omega⟩ (fun v9 w9 h9 => ?_) (fun _ h9 => h9.elim)
  obtain ⟨f', r', k, n1, rfl, rfl, hf', hq', n2, hC', hB', hM', hk0, hk4, h2⟩ := h9
  refine r_istore C dL_law_367 (by decide) rfl ?_
  refine r_aload_n C dL_law_369 rfl ?_
  refine r_aload_n C dL_law_370 rfl ?_
  refine r_iload C dL_law_371 rfl ?_
  refine r_iconst (v := nI 1) C dL_law_373 (by decide) ?_
  refine r_iaddN C dL_law_374 ?_
  refine r_sld C hx hbl hbA (show i + 1 < L by omega) (by omega) dL_law_375 ?_
  refine r_aload_n C dL_law_376 rfl ?_
  refine r_iload C dL_law_377 rfl ?_
  refine r_iconst (v := nI 2) C dL_law_379 (by decide) ?_
  refine r_iaddN C dL_law_380 ?_
  refine r_sld C hx hbl hbA (show i + 2 < L by omega) (by omega) dL_law_381 ?_
  refine r_aload_n C dL_law_382 rfl ?_
  refine r_iload C dL_law_383 rfl ?_
  refine r_iconst (v := nI 3) C dL_law_385 (by decide) ?_
  refine r_iaddN C dL_law_386 ?_
  refine r_sld C hx hbl hbA (show i + 3 < L by omega) (by omega) dL_law_387 ?_
  refine t_swap3 ?_
  refine c_V (st := []) hX.1.stb C hE (h2 _) pk_X4_set qm_L_187 0 8 rfl rfl wm_0 rfl rfl (Nat.le_of_ble_eq_true rfl) dL_law_388 ⟨(Nat.le_of_ble_eq_true rfl), (Nat.le_of_ble_eq_true rfl)⟩ ⟨show cells + 1 + 4 ≤ room_1.cells by omega, show slots + 6 + 48 ≤ room_1.slots by omega⟩ (fun v9 w9 h9 => ?_) (fun _ h9 => h9.elim)
  obtain ⟨ra9, rfl, rfl⟩ := h9
  refine r_istore C dL_law_391 (by decide) rfl ?_
  refine t_swap3 ?_
  refine r_goto (tgt := 2129) C dL_law_393 (by decide) ?_
  refine r_widen (k := cells + 500) (n := slots + 10000) (show cells + 1 + 4 ≤ cells + 500 by omega) (show slots + 6 + 48 ≤ slots + 10000 by omega) ?_
  refine r_drop 5 ?_
  refine r_drop 6 ?_
  exact kk _ ⟨f', r', hf', hq', kn, ra9, _, sm, _, _, hC', hB', hM', rfl⟩
theorem S_remove {p : Program} {l : Launch} {e : Env} {s : State} {m : MethodId} {args : Array Value} {below : List Frame} {meth : Method} {c : Code} {D : va_G} {cy : Nat → ClassId} {A : Nat → Prop} {Q : State → Prop} {X : (Nat → Prop) → State → Heap → Prop} {aK aV : Nat → Nat} {tO tT : Nat} {gO gT : Nat → Int32} {a : Nat → Nat → Nat} {ba : Nat → Nat} {o b L i cells slots : Nat} {xs : Nat → Int32} {w : va_W} (C : Fg p s m args meth c cL_law 7 RL D cy A) (hE : X A s s.heap) (hT : EnvT X cy aK aV tO tT gO gT) (hN : EnvN X) (hl : l.stackTraces = false) (hx : va_X b L xs s s.heap) (hbl : b < s.heap.size) (hbA : ¬ A b) (hi : i + 5 ≤ L) (hL : L ≤ 2560) (hc : cells + 500 ≤ room_1.cells) (hs : slots + 10000 ≤ room_1.slots) (hJ : JW cy a ba o w) (kk : ∀ w' : va_W, JW cy a ba o w' → vW p l e room_1 s m args below meth c D vwCl A Q 7 (cells + 500) (slots + 10000) w' [some (.ref b), some (.ref (a 0 0)), some (.ref (ba 9)), some (.ref o), some (.int (nI i)), none, none] 2129 []) : vW p l e room_1 s m args below meth c D vwCl A Q 7 cells slots w [some (.ref b), some (.ref (a 0 0)), some (.ref (ba 9)), some (.ref o), some (.int (nI i)), none, none] 396 [] := by
  have hX := hT.1.1
  obtain ⟨f, r, hf, hq, kn, ra, th, sm, n, v, hC, hB, hM, rfl⟩ := hJ
  refine r_aload_n C dL_law_396 rfl ?_
  refine r_aload_n C dL_law_397 rfl ?_
  refine r_iload C dL_law_398 rfl ?_
  refine r_iconst (v := nI 1) C dL_law_400 (by decide) ?_
  refine r_iaddN C dL_law_401 ?_
  refine r_sld C hx hbl hbA (show i + 1 < L by omega) (by omega) dL_law_402 ?_
  refine r_aload_n C dL_law_403 rfl ?_
  refine r_iload C dL_law_404 rfl ?_
  refine r_iconst (v := nI 2) C dL_law_406 (by decide) ?_
  refine r_iaddN C dL_law_407 ?_
  refine r_sld C hx hbl hbA (show i + 2 < L by omega) (by omega) dL_law_408 ?_
  refine r_aload_n C dL_law_409 rfl ?_
  refine c_SH (st := []) hX.1.stb C hE (W_remove hX.1 hN hC hB hM (P_remove hX hl hC hB hM (xs (i + 1)) (xs (i + 2)))) pk_L_remove qm_L_188 rfl rfl (Nat.le_of_ble_eq_true rfl) dL_law_410 ⟨(Nat.le_of_ble_eq_true rfl), (Nat.le_of_ble_eq_true rfl)⟩ ⟨show cells + 1 ≤ room_1.cells by omega, show slots + 6 ≤ room_1.slots by omega⟩ (fun v9 w9 h9 => ?_) (fun _ h9 => h9.elim)
  obtain ⟨f', r', k, n1, rfl, rfl, hf', hq', n2, hC', hB', hM', hk0, hk4, h2⟩ := h9
  refine r_istore C dL_law_413 (by decide) rfl ?_
  refine r_aload_n C dL_law_415 rfl ?_
  refine r_aload_n C dL_law_416 rfl ?_
  refine r_iload C dL_law_417 rfl ?_
  refine r_iconst (v := nI 1) C dL_law_419 (by decide) ?_
  refine r_iaddN C dL_law_420 ?_
  refine r_sld C hx hbl hbA (show i + 1 < L by omega) (by omega) dL_law_421 ?_
  refine r_aload_n C dL_law_422 rfl ?_
  refine r_iload C dL_law_423 rfl ?_
  refine r_iconst (v := nI 2) C dL_law_425 (by decide) ?_
  refine r_iaddN C dL_law_426 ?_
  refine r_sld C hx hbl hbA (show i + 2 < L by omega) (by omega) dL_law_427 ?_
  refine t_swap3 ?_
  refine c_V (st := []) hX.1.stb C hE (h2 _) pk_X4_remove qm_L_190 0 8 rfl rfl wm_0 rfl rfl (Nat.le_of_ble_eq_true rfl) dL_law_428 ⟨(Nat.le_of_ble_eq_true rfl), (Nat.le_of_ble_eq_true rfl)⟩ ⟨show cells + 1 + 4 ≤ room_1.cells by omega, show slots + 6 + 48 ≤ room_1.slots by omega⟩ (fun v9 w9 h9 => ?_) (fun _ h9 => h9.elim)
  obtain ⟨ra9, rfl, rfl⟩ := h9
  refine r_istore C dL_law_431 (by decide) rfl ?_
  refine t_swap3 ?_
  refine r_goto (tgt := 2129) C dL_law_433 (by decide) ?_
  refine r_widen (k := cells + 500) (n := slots + 10000) (show cells + 1 + 4 ≤ cells + 500 by omega) (show slots + 6 + 48 ≤ slots + 10000 by omega) ?_
  refine r_drop 5 ?_
  refine r_drop 6 ?_
  exact kk _ ⟨f', r', hf', hq', kn, ra9, _, sm, _, _, hC', hB', hM', rfl⟩
theorem S_clear {p : Program} {l : Launch} {e : Env} {s : State} {m : MethodId} {args : Array Value} {below : List Frame} {meth : Method} {c : Code} {D : va_G} {cy : Nat → ClassId} {A : Nat → Prop} {Q : State → Prop} {X : (Nat → Prop) → State → Heap → Prop} {aK aV : Nat → Nat} {tO tT : Nat} {gO gT : Nat → Int32} {a : Nat → Nat → Nat} {ba : Nat → Nat} {o b L i cells slots : Nat} {xs : Nat → Int32} {w : va_W} (C : Fg p s m args meth c cL_law 7 RL D cy A) (hE : X A s s.heap) (hT : EnvT X cy aK aV tO tT gO gT) (hN : EnvN X) (hl : l.stackTraces = false) (hx : va_X b L xs s s.heap) (hbl : b < s.heap.size) (hbA : ¬ A b) (hi : i + 5 ≤ L) (hL : L ≤ 2560) (hc : cells + 500 ≤ room_1.cells) (hs : slots + 10000 ≤ room_1.slots) (hJ : JW cy a ba o w) (kk : ∀ w' : va_W, JW cy a ba o w' → vW p l e room_1 s m args below meth c D vwCl A Q 7 (cells + 500) (slots + 10000) w' [some (.ref b), some (.ref (a 0 0)), some (.ref (ba 9)), some (.ref o), some (.int (nI i)), none, none] 2129 []) : vW p l e room_1 s m args below meth c D vwCl A Q 7 cells slots w [some (.ref b), some (.ref (a 0 0)), some (.ref (ba 9)), some (.ref o), some (.int (nI i)), none, none] 436 [] := by
  have hX := hT.1.1
  obtain ⟨f, r, hf, hq, kn, ra, th, sm, n, v, hC, hB, hM, rfl⟩ := hJ
  refine r_aload_n C dL_law_436 rfl ?_
  refine r_aload_n C dL_law_437 rfl ?_
  refine r_iload C dL_law_438 rfl ?_
  refine r_iconst (v := nI 1) C dL_law_440 (by decide) ?_
  refine r_iaddN C dL_law_441 ?_
  refine r_sld C hx hbl hbA (show i + 1 < L by omega) (by omega) dL_law_442 ?_
  refine r_aload_n C dL_law_443 rfl ?_
  refine c_SH (st := []) hX.1.stb C hE (W_clear hX.1 hN hC hB hM (P_clear hX hl hC hB hM (xs (i + 1)))) pk_L_clear qm_L_191 rfl rfl (Nat.le_of_ble_eq_true rfl) dL_law_444 ⟨(Nat.le_of_ble_eq_true rfl), (Nat.le_of_ble_eq_true rfl)⟩ ⟨show cells + 1 ≤ room_1.cells by omega, show slots + 6 ≤ room_1.slots by omega⟩ (fun v9 w9 h9 => ?_) (fun _ h9 => h9.elim)
  obtain ⟨f', r', k, n1, rfl, rfl, hf', hq', n2, hC', hB', hM', hk0, hk4, h2⟩ := h9
  refine r_istore C dL_law_447 (by decide) rfl ?_
  refine r_aload_n C dL_law_449 rfl ?_
  refine r_aload_n C dL_law_450 rfl ?_
  refine r_iload C dL_law_451 rfl ?_
  refine r_iconst (v := nI 1) C dL_law_453 (by decide) ?_
  refine r_iaddN C dL_law_454 ?_
  refine r_sld C hx hbl hbA (show i + 1 < L by omega) (by omega) dL_law_455 ?_
  refine t_swap3 ?_
  refine c_V (st := []) hX.1.stb C hE (h2 _) pk_X4_clear qm_L_194 0 8 rfl rfl wm_0 rfl rfl (Nat.le_of_ble_eq_true rfl) dL_law_456 ⟨(Nat.le_of_ble_eq_true rfl), (Nat.le_of_ble_eq_true rfl)⟩ ⟨show cells + 1 + 4 ≤ room_1.cells by omega, show slots + 6 + 48 ≤ room_1.slots by omega⟩ (fun v9 w9 h9 => ?_) (fun _ h9 => h9.elim)
  obtain ⟨ra9, rfl, rfl⟩ := h9
  refine r_istore C dL_law_459 (by decide) rfl ?_
  refine t_swap3 ?_
  refine r_goto (tgt := 2129) C dL_law_461 (by decide) ?_
  refine r_widen (k := cells + 500) (n := slots + 10000) (show cells + 1 + 4 ≤ cells + 500 by omega) (show slots + 6 + 48 ≤ slots + 10000 by omega) ?_
  refine r_drop 5 ?_
  refine r_drop 6 ?_
  exact kk _ ⟨f', r', hf', hq', kn, ra9, _, sm, _, _, hC', hB', hM', rfl⟩
theorem S_splice {p : Program} {l : Launch} {e : Env} {s : State} {m : MethodId} {args : Array Value} {below : List Frame} {meth : Method} {c : Code} {D : va_G} {cy : Nat → ClassId} {A : Nat → Prop} {Q : State → Prop} {X : (Nat → Prop) → State → Heap → Prop} {aK aV : Nat → Nat} {tO tT : Nat} {gO gT : Nat → Int32} {a : Nat → Nat → Nat} {ba : Nat → Nat} {o b L i cells slots : Nat} {xs : Nat → Int32} {w : va_W} (C : Fg p s m args meth c cL_law 7 RL D cy A) (hE : X A s s.heap) (hT : EnvT X cy aK aV tO tT gO gT) (hN : EnvN X) (hl : l.stackTraces = false) (hx : va_X b L xs s s.heap) (hbl : b < s.heap.size) (hbA : ¬ A b) (hi : i + 5 ≤ L) (hL : L ≤ 2560) (hc : cells + 500 ≤ room_1.cells) (hs : slots + 10000 ≤ room_1.slots) (hJ : JW cy a ba o w) (kk : ∀ w' : va_W, JW cy a ba o w' → vW p l e room_1 s m args below meth c D vwCl A Q 7 (cells + 500) (slots + 10000) w' [some (.ref b), some (.ref (a 0 0)), some (.ref (ba 9)), some (.ref o), some (.int (nI i)), none, none] 2129 []) : vW p l e room_1 s m args below meth c D vwCl A Q 7 cells slots w [some (.ref b), some (.ref (a 0 0)), some (.ref (ba 9)), some (.ref o), some (.int (nI i)), none, none] 464 [] := by
  have hX := hT.1.1
  obtain ⟨f, r, hf, hq, kn, ra, th, sm, n, v, hC, hB, hM, rfl⟩ := hJ
  refine r_aload_n C dL_law_464 rfl ?_
  refine r_aload_n C dL_law_465 rfl ?_
  refine r_iload C dL_law_466 rfl ?_
  refine r_iconst (v := nI 1) C dL_law_468 (by decide) ?_
  refine r_iaddN C dL_law_469 ?_
  refine r_sld C hx hbl hbA (show i + 1 < L by omega) (by omega) dL_law_470 ?_
  refine r_aload_n C dL_law_471 rfl ?_
  refine r_iload C dL_law_472 rfl ?_
  refine r_iconst (v := nI 2) C dL_law_474 (by decide) ?_
  refine r_iaddN C dL_law_475 ?_
  refine r_sld C hx hbl hbA (show i + 2 < L by omega) (by omega) dL_law_476 ?_
  refine r_aload_n C dL_law_477 rfl ?_
  refine r_iload C dL_law_478 rfl ?_
  refine r_iconst (v := nI 3) C dL_law_480 (by decide) ?_
  refine r_iaddN C dL_law_481 ?_
  refine r_sld C hx hbl hbA (show i + 3 < L by omega) (by omega) dL_law_482 ?_
  refine r_aload_n C dL_law_483 rfl ?_
  refine r_iload C dL_law_484 rfl ?_
  refine r_iconst (v := nI 4) C dL_law_486 (by decide) ?_
  refine r_iaddN C dL_law_487 ?_
  refine r_sld C hx hbl hbA (show i + 4 < L by omega) (by omega) dL_law_488 ?_
  refine r_aload_n C dL_law_489 rfl ?_
  refine c_SH (st := []) hX.1.stb C hE (W_splice hX.1 hN hC hB hM (P_splice hX hl hC hB hM (xs (i + 1)) (xs (i + 2)) (xs (i + 3)) (xs (i + 4)))) pk_L_splice qm_L_195 rfl rfl (Nat.le_of_ble_eq_true rfl) dL_law_490 ⟨(Nat.le_of_ble_eq_true rfl), (Nat.le_of_ble_eq_true rfl)⟩ ⟨show cells + 1 ≤ room_1.cells by omega, show slots + 6 ≤ room_1.slots by omega⟩ (fun v9 w9 h9 => ?_) (fun _ h9 => h9.elim)
  obtain ⟨f', r', k, n1, rfl, rfl, hf', hq', n2, hC', hB', hM', hk0, hk4, h2⟩ := h9
  refine r_istore C dL_law_493 (by decide) rfl ?_
  refine r_aload_n C dL_law_495 rfl ?_
  refine r_aload_n C dL_law_496 rfl ?_
  refine r_iload C dL_law_497 rfl ?_
  refine r_iconst (v := nI 1) C dL_law_499 (by decide) ?_
  refine r_iaddN C dL_law_500 ?_
  refine r_sld C hx hbl hbA (show i + 1 < L by omega) (by omega) dL_law_501 ?_
  refine r_aload_n C dL_law_502 rfl ?_
  refine r_iload C dL_law_503 rfl ?_
  refine r_iconst (v := nI 2) C dL_law_505 (by decide) ?_
  refine r_iaddN C dL_law_506 ?_
  refine r_sld C hx hbl hbA (show i + 2 < L by omega) (by omega) dL_law_507 ?_
  refine r_aload_n C dL_law_508 rfl ?_
  refine r_iload C dL_law_509 rfl ?_
  refine r_iconst (v := nI 3) C dL_law_511 (by decide) ?_
  refine r_iaddN C dL_law_512 ?_
  refine r_sld C hx hbl hbA (show i + 3 < L by omega) (by omega) dL_law_513 ?_
  refine r_aload_n C dL_law_514 rfl ?_
  refine r_iload C dL_law_515 rfl ?_
  refine r_iconst (v := nI 4) C dL_law_517 (by decide) ?_
  refine r_iaddN C dL_law_518 ?_
  refine r_sld C hx hbl hbA (show i + 4 < L by omega) (by omega) dL_law_519 ?_
  refine t_swap3 ?_
  refine c_V (st := []) hX.1.stb C hE (h2 _) pk_X4_splice qm_L_198 0 8 rfl rfl wm_0 rfl rfl (Nat.le_of_ble_eq_true rfl) dL_law_520 ⟨(Nat.le_of_ble_eq_true rfl), (Nat.le_of_ble_eq_true rfl)⟩ ⟨show cells + 1 + 4 ≤ room_1.cells by omega, show slots + 6 + 48 ≤ room_1.slots by omega⟩ (fun v9 w9 h9 => ?_) (fun _ h9 => h9.elim)
  obtain ⟨ra9, rfl, rfl⟩ := h9
  refine r_istore C dL_law_523 (by decide) rfl ?_
  refine t_swap3 ?_
  refine r_goto (tgt := 2129) C dL_law_525 (by decide) ?_
  refine r_widen (k := cells + 500) (n := slots + 10000) (show cells + 1 + 4 ≤ cells + 500 by omega) (show slots + 6 + 48 ≤ slots + 10000 by omega) ?_
  refine r_drop 5 ?_
  refine r_drop 6 ?_
  exact kk _ ⟨f', r', hf', hq', kn, ra9, _, sm, _, _, hC', hB', hM', rfl⟩
theorem S_rotate {p : Program} {l : Launch} {e : Env} {s : State} {m : MethodId} {args : Array Value} {below : List Frame} {meth : Method} {c : Code} {D : va_G} {cy : Nat → ClassId} {A : Nat → Prop} {Q : State → Prop} {X : (Nat → Prop) → State → Heap → Prop} {aK aV : Nat → Nat} {tO tT : Nat} {gO gT : Nat → Int32} {a : Nat → Nat → Nat} {ba : Nat → Nat} {o b L i cells slots : Nat} {xs : Nat → Int32} {w : va_W} (C : Fg p s m args meth c cL_law 7 RL D cy A) (hE : X A s s.heap) (hT : EnvT X cy aK aV tO tT gO gT) (hN : EnvN X) (hl : l.stackTraces = false) (hx : va_X b L xs s s.heap) (hbl : b < s.heap.size) (hbA : ¬ A b) (hi : i + 5 ≤ L) (hL : L ≤ 2560) (hc : cells + 500 ≤ room_1.cells) (hs : slots + 10000 ≤ room_1.slots) (hJ : JW cy a ba o w) (kk : ∀ w' : va_W, JW cy a ba o w' → vW p l e room_1 s m args below meth c D vwCl A Q 7 (cells + 500) (slots + 10000) w' [some (.ref b), some (.ref (a 0 0)), some (.ref (ba 9)), some (.ref o), some (.int (nI i)), none, none] 2129 []) : vW p l e room_1 s m args below meth c D vwCl A Q 7 cells slots w [some (.ref b), some (.ref (a 0 0)), some (.ref (ba 9)), some (.ref o), some (.int (nI i)), none, none] 528 [] := by
  have hX := hT.1.1
  obtain ⟨f, r, hf, hq, kn, ra, th, sm, n, v, hC, hB, hM, rfl⟩ := hJ
  refine r_aload_n C dL_law_528 rfl ?_
  refine r_aload_n C dL_law_529 rfl ?_
  refine r_iload C dL_law_530 rfl ?_
  refine r_iconst (v := nI 1) C dL_law_532 (by decide) ?_
  refine r_iaddN C dL_law_533 ?_
  refine r_sld C hx hbl hbA (show i + 1 < L by omega) (by omega) dL_law_534 ?_
  refine r_aload_n C dL_law_535 rfl ?_
  refine r_iload C dL_law_536 rfl ?_
  refine r_iconst (v := nI 2) C dL_law_538 (by decide) ?_
  refine r_iaddN C dL_law_539 ?_
  refine r_sld C hx hbl hbA (show i + 2 < L by omega) (by omega) dL_law_540 ?_
  refine r_aload_n C dL_law_541 rfl ?_
  refine c_SH (st := []) hX.1.stb C hE (W_rotate hX.1 hN hC hB hM (P_rotate hX hl hC hB hM (xs (i + 1)) (xs (i + 2)))) pk_L_rotate qm_L_199 rfl rfl (Nat.le_of_ble_eq_true rfl) dL_law_542 ⟨(Nat.le_of_ble_eq_true rfl), (Nat.le_of_ble_eq_true rfl)⟩ ⟨show cells + 1 ≤ room_1.cells by omega, show slots + 6 ≤ room_1.slots by omega⟩ (fun v9 w9 h9 => ?_) (fun _ h9 => h9.elim)
  obtain ⟨f', r', k, n1, rfl, rfl, hf', hq', n2, hC', hB', hM', hk0, hk4, h2⟩ := h9
  refine r_istore C dL_law_545 (by decide) rfl ?_
  refine r_aload_n C dL_law_547 rfl ?_
  refine r_aload_n C dL_law_548 rfl ?_
  refine r_iload C dL_law_549 rfl ?_
  refine r_iconst (v := nI 1) C dL_law_551 (by decide) ?_
  refine r_iaddN C dL_law_552 ?_
  refine r_sld C hx hbl hbA (show i + 1 < L by omega) (by omega) dL_law_553 ?_
  refine r_aload_n C dL_law_554 rfl ?_
  refine r_iload C dL_law_555 rfl ?_
  refine r_iconst (v := nI 2) C dL_law_557 (by decide) ?_
  refine r_iaddN C dL_law_558 ?_
  refine r_sld C hx hbl hbA (show i + 2 < L by omega) (by omega) dL_law_559 ?_
  refine t_swap3 ?_
  refine c_V (st := []) hX.1.stb C hE (h2 _) pk_X4_rotate qm_L_201 0 8 rfl rfl wm_0 rfl rfl (Nat.le_of_ble_eq_true rfl) dL_law_560 ⟨(Nat.le_of_ble_eq_true rfl), (Nat.le_of_ble_eq_true rfl)⟩ ⟨show cells + 1 + 4 ≤ room_1.cells by omega, show slots + 6 + 48 ≤ room_1.slots by omega⟩ (fun v9 w9 h9 => ?_) (fun _ h9 => h9.elim)
  obtain ⟨ra9, rfl, rfl⟩ := h9
  refine r_istore C dL_law_563 (by decide) rfl ?_
  refine t_swap3 ?_
  refine r_goto (tgt := 2129) C dL_law_565 (by decide) ?_
  refine r_widen (k := cells + 500) (n := slots + 10000) (show cells + 1 + 4 ≤ cells + 500 by omega) (show slots + 6 + 48 ≤ slots + 10000 by omega) ?_
  refine r_drop 5 ?_
  refine r_drop 6 ?_
  exact kk _ ⟨f', r', hf', hq', kn, ra9, _, sm, _, _, hC', hB', hM', rfl⟩
theorem S_reverse {p : Program} {l : Launch} {e : Env} {s : State} {m : MethodId} {args : Array Value} {below : List Frame} {meth : Method} {c : Code} {D : va_G} {cy : Nat → ClassId} {A : Nat → Prop} {Q : State → Prop} {X : (Nat → Prop) → State → Heap → Prop} {aK aV : Nat → Nat} {tO tT : Nat} {gO gT : Nat → Int32} {a : Nat → Nat → Nat} {ba : Nat → Nat} {o b L i cells slots : Nat} {xs : Nat → Int32} {w : va_W} (C : Fg p s m args meth c cL_law 7 RL D cy A) (hE : X A s s.heap) (hT : EnvT X cy aK aV tO tT gO gT) (hN : EnvN X) (hl : l.stackTraces = false) (hx : va_X b L xs s s.heap) (hbl : b < s.heap.size) (hbA : ¬ A b) (hi : i + 5 ≤ L) (hL : L ≤ 2560) (hc : cells + 500 ≤ room_1.cells) (hs : slots + 10000 ≤ room_1.slots) (hJ : JW cy a ba o w) (kk : ∀ w' : va_W, JW cy a ba o w' → vW p l e room_1 s m args below meth c D vwCl A Q 7 (cells + 500) (slots + 10000) w' [some (.ref b), some (.ref (a 0 0)), some (.ref (ba 9)), some (.ref o), some (.int (nI i)), none, none] 2129 []) : vW p l e room_1 s m args below meth c D vwCl A Q 7 cells slots w [some (.ref b), some (.ref (a 0 0)), some (.ref (ba 9)), some (.ref o), some (.int (nI i)), none, none] 568 [] := by
  have hX := hT.1.1
  obtain ⟨f, r, hf, hq, kn, ra, th, sm, n, v, hC, hB, hM, rfl⟩ := hJ
  refine r_aload_n C dL_law_568 rfl ?_
  refine r_aload_n C dL_law_569 rfl ?_
  refine r_iload C dL_law_570 rfl ?_
  refine r_iconst (v := nI 1) C dL_law_572 (by decide) ?_
  refine r_iaddN C dL_law_573 ?_
  refine r_sld C hx hbl hbA (show i + 1 < L by omega) (by omega) dL_law_574 ?_
  refine r_aload_n C dL_law_575 rfl ?_
  refine c_SH (st := []) hX.1.stb C hE (W_reverse hX.1 hN hC hB hM (P_reverse hX hl hC hB hM (xs (i + 1)))) pk_L_reverse qm_L_202 rfl rfl (Nat.le_of_ble_eq_true rfl) dL_law_576 ⟨(Nat.le_of_ble_eq_true rfl), (Nat.le_of_ble_eq_true rfl)⟩ ⟨show cells + 1 ≤ room_1.cells by omega, show slots + 6 ≤ room_1.slots by omega⟩ (fun v9 w9 h9 => ?_) (fun _ h9 => h9.elim)
  obtain ⟨f', r', k, n1, rfl, rfl, hf', hq', n2, hC', hB', hM', hk0, hk4, h2⟩ := h9
  refine r_istore C dL_law_579 (by decide) rfl ?_
  refine r_aload_n C dL_law_581 rfl ?_
  refine r_aload_n C dL_law_582 rfl ?_
  refine r_iload C dL_law_583 rfl ?_
  refine r_iconst (v := nI 1) C dL_law_585 (by decide) ?_
  refine r_iaddN C dL_law_586 ?_
  refine r_sld C hx hbl hbA (show i + 1 < L by omega) (by omega) dL_law_587 ?_
  refine t_swap3 ?_
  refine c_V (st := []) hX.1.stb C hE (h2 _) pk_X4_reverse qm_L_204 0 8 rfl rfl wm_0 rfl rfl (Nat.le_of_ble_eq_true rfl) dL_law_588 ⟨(Nat.le_of_ble_eq_true rfl), (Nat.le_of_ble_eq_true rfl)⟩ ⟨show cells + 1 + 4 ≤ room_1.cells by omega, show slots + 6 + 48 ≤ room_1.slots by omega⟩ (fun v9 w9 h9 => ?_) (fun _ h9 => h9.elim)
  obtain ⟨ra9, rfl, rfl⟩ := h9
  refine r_istore C dL_law_591 (by decide) rfl ?_
  refine t_swap3 ?_
  refine r_goto (tgt := 2129) C dL_law_593 (by decide) ?_
  refine r_widen (k := cells + 500) (n := slots + 10000) (show cells + 1 + 4 ≤ cells + 500 by omega) (show slots + 6 + 48 ≤ slots + 10000 by omega) ?_
  refine r_drop 5 ?_
  refine r_drop 6 ?_
  exact kk _ ⟨f', r', hf', hq', kn, ra9, _, sm, _, _, hC', hB', hM', rfl⟩
theorem S_swap {p : Program} {l : Launch} {e : Env} {s : State} {m : MethodId} {args : Array Value} {below : List Frame} {meth : Method} {c : Code} {D : va_G} {cy : Nat → ClassId} {A : Nat → Prop} {Q : State → Prop} {X : (Nat → Prop) → State → Heap → Prop} {aK aV : Nat → Nat} {tO tT : Nat} {gO gT : Nat → Int32} {a : Nat → Nat → Nat} {ba : Nat → Nat} {o b L i cells slots : Nat} {xs : Nat → Int32} {w : va_W} (C : Fg p s m args meth c cL_law 7 RL D cy A) (hE : X A s s.heap) (hT : EnvT X cy aK aV tO tT gO gT) (hN : EnvN X) (hl : l.stackTraces = false) (hx : va_X b L xs s s.heap) (hbl : b < s.heap.size) (hbA : ¬ A b) (hi : i + 5 ≤ L) (hL : L ≤ 2560) (hc : cells + 500 ≤ room_1.cells) (hs : slots + 10000 ≤ room_1.slots) (hJ : JW cy a ba o w) (kk : ∀ w' : va_W, JW cy a ba o w' → vW p l e room_1 s m args below meth c D vwCl A Q 7 (cells + 500) (slots + 10000) w' [some (.ref b), some (.ref (a 0 0)), some (.ref (ba 9)), some (.ref o), some (.int (nI i)), none, none] 2129 []) : vW p l e room_1 s m args below meth c D vwCl A Q 7 cells slots w [some (.ref b), some (.ref (a 0 0)), some (.ref (ba 9)), some (.ref o), some (.int (nI i)), none, none] 596 [] := by
  have hX := hT.1.1
  obtain ⟨f, r, hf, hq, kn, ra, th, sm, n, v, hC, hB, hM, rfl⟩ := hJ
  refine r_aload_n C dL_law_596 rfl ?_
  refine r_aload_n C dL_law_597 rfl ?_
  refine r_iload C dL_law_598 rfl ?_
  refine r_iconst (v := nI 1) C dL_law_600 (by decide) ?_
  refine r_iaddN C dL_law_601 ?_
  refine r_sld C hx hbl hbA (show i + 1 < L by omega) (by omega) dL_law_602 ?_
  refine r_aload_n C dL_law_603 rfl ?_
  refine r_iload C dL_law_604 rfl ?_
  refine r_iconst (v := nI 2) C dL_law_606 (by decide) ?_
  refine r_iaddN C dL_law_607 ?_
  refine r_sld C hx hbl hbA (show i + 2 < L by omega) (by omega) dL_law_608 ?_
  refine r_aload_n C dL_law_609 rfl ?_
  refine r_iload C dL_law_610 rfl ?_
  refine r_iconst (v := nI 3) C dL_law_612 (by decide) ?_
  refine r_iaddN C dL_law_613 ?_
  refine r_sld C hx hbl hbA (show i + 3 < L by omega) (by omega) dL_law_614 ?_
  refine r_aload_n C dL_law_615 rfl ?_
  refine c_SH (st := []) hX.1.stb C hE (W_swap hX.1 hN hC hB hM (P_swap hX hl hC hB hM (xs (i + 1)) (xs (i + 2)) (xs (i + 3)))) pk_L_swap qm_L_205 rfl rfl (Nat.le_of_ble_eq_true rfl) dL_law_616 ⟨(Nat.le_of_ble_eq_true rfl), (Nat.le_of_ble_eq_true rfl)⟩ ⟨show cells + 1 ≤ room_1.cells by omega, show slots + 6 ≤ room_1.slots by omega⟩ (fun v9 w9 h9 => ?_) (fun _ h9 => h9.elim)
  obtain ⟨f', r', k, n1, rfl, rfl, hf', hq', n2, hC', hB', hM', hk0, hk4, h2⟩ := h9
  refine r_istore C dL_law_619 (by decide) rfl ?_
  refine r_aload_n C dL_law_621 rfl ?_
  refine r_aload_n C dL_law_622 rfl ?_
  refine r_iload C dL_law_623 rfl ?_
  refine r_iconst (v := nI 1) C dL_law_625 (by decide) ?_
  refine r_iaddN C dL_law_626 ?_
  refine r_sld C hx hbl hbA (show i + 1 < L by omega) (by omega) dL_law_627 ?_
  refine r_aload_n C dL_law_628 rfl ?_
  refine r_iload C dL_law_629 rfl ?_
  refine r_iconst (v := nI 2) C dL_law_631 (by decide) ?_
  refine r_iaddN C dL_law_632 ?_
  refine r_sld C hx hbl hbA (show i + 2 < L by omega) (by omega) dL_law_633 ?_
  refine r_aload_n C dL_law_634 rfl ?_
  refine r_iload C dL_law_635 rfl ?_
  refine r_iconst (v := nI 3) C dL_law_637 (by decide) ?_
  refine r_iaddN C dL_law_638 ?_
  refine r_sld C hx hbl hbA (show i + 3 < L by omega) (by omega) dL_law_639 ?_
  refine t_swap3 ?_
  refine c_V (st := []) hX.1.stb C hE (h2 _) pk_X4_swap qm_L_207 0 8 rfl rfl wm_0 rfl rfl (Nat.le_of_ble_eq_true rfl) dL_law_640 ⟨(Nat.le_of_ble_eq_true rfl), (Nat.le_of_ble_eq_true rfl)⟩ ⟨show cells + 1 + 4 ≤ room_1.cells by omega, show slots + 6 + 48 ≤ room_1.slots by omega⟩ (fun v9 w9 h9 => ?_) (fun _ h9 => h9.elim)
  obtain ⟨ra9, rfl, rfl⟩ := h9
  refine r_istore C dL_law_643 (by decide) rfl ?_
  refine t_swap3 ?_
  refine r_goto (tgt := 2129) C dL_law_645 (by decide) ?_
  refine r_widen (k := cells + 500) (n := slots + 10000) (show cells + 1 + 4 ≤ cells + 500 by omega) (show slots + 6 + 48 ≤ slots + 10000 by omega) ?_
  refine r_drop 5 ?_
  refine r_drop 6 ?_
  exact kk _ ⟨f', r', hf', hq', kn, ra9, _, sm, _, _, hC', hB', hM', rfl⟩
theorem S_riffle {p : Program} {l : Launch} {e : Env} {s : State} {m : MethodId} {args : Array Value} {below : List Frame} {meth : Method} {c : Code} {D : va_G} {cy : Nat → ClassId} {A : Nat → Prop} {Q : State → Prop} {X : (Nat → Prop) → State → Heap → Prop} {aK aV : Nat → Nat} {tO tT : Nat} {gO gT : Nat → Int32} {a : Nat → Nat → Nat} {ba : Nat → Nat} {o b L i cells slots : Nat} {xs : Nat → Int32} {w : va_W} (C : Fg p s m args meth c cL_law 7 RL D cy A) (hE : X A s s.heap) (hT : EnvT X cy aK aV tO tT gO gT) (hN : EnvN X) (hl : l.stackTraces = false) (hx : va_X b L xs s s.heap) (hbl : b < s.heap.size) (hbA : ¬ A b) (hi : i + 5 ≤ L) (hL : L ≤ 2560) (hc : cells + 500 ≤ room_1.cells) (hs : slots + 10000 ≤ room_1.slots) (hJ : JW cy a ba o w) (kk : ∀ w' : va_W, JW cy a ba o w' → vW p l e room_1 s m args below meth c D vwCl A Q 7 (cells + 500) (slots + 10000) w' [some (.ref b), some (.ref (a 0 0)), some (.ref (ba 9)), some (.ref o), some (.int (nI i)), none, none] 2129 []) : vW p l e room_1 s m args below meth c D vwCl A Q 7 cells slots w [some (.ref b), some (.ref (a 0 0)), some (.ref (ba 9)), some (.ref o), some (.int (nI i)), none, none] 648 [] := by
  have hX := hT.1.1
  obtain ⟨f, r, hf, hq, kn, ra, th, sm, n, v, hC, hB, hM, rfl⟩ := hJ
  refine r_aload_n C dL_law_648 rfl ?_
  refine r_aload_n C dL_law_649 rfl ?_
  refine r_iload C dL_law_650 rfl ?_
  refine r_iconst (v := nI 1) C dL_law_652 (by decide) ?_
  refine r_iaddN C dL_law_653 ?_
  refine r_sld C hx hbl hbA (show i + 1 < L by omega) (by omega) dL_law_654 ?_
  refine r_aload_n C dL_law_655 rfl ?_
  refine c_SH (st := []) hX.1.stb C hE (W_riffle hX.1 hN hC hB hM (P_riffle hX hl hC hB hM (xs (i + 1)))) pk_L_riffle qm_L_208 rfl rfl (Nat.le_of_ble_eq_true rfl) dL_law_656 ⟨(Nat.le_of_ble_eq_true rfl), (Nat.le_of_ble_eq_true rfl)⟩ ⟨show cells + 1 ≤ room_1.cells by omega, show slots + 6 ≤ room_1.slots by omega⟩ (fun v9 w9 h9 => ?_) (fun _ h9 => h9.elim)
  obtain ⟨f', r', k, n1, rfl, rfl, hf', hq', n2, hC', hB', hM', hk0, hk4, h2⟩ := h9
  refine r_istore C dL_law_659 (by decide) rfl ?_
  refine r_aload_n C dL_law_661 rfl ?_
  refine r_aload_n C dL_law_662 rfl ?_
  refine r_iload C dL_law_663 rfl ?_
  refine r_iconst (v := nI 1) C dL_law_665 (by decide) ?_
  refine r_iaddN C dL_law_666 ?_
  refine r_sld C hx hbl hbA (show i + 1 < L by omega) (by omega) dL_law_667 ?_
  refine t_swap3 ?_
  refine c_V (st := []) hX.1.stb C hE (h2 _) pk_X4_riffle qm_L_210 0 8 rfl rfl wm_0 rfl rfl (Nat.le_of_ble_eq_true rfl) dL_law_668 ⟨(Nat.le_of_ble_eq_true rfl), (Nat.le_of_ble_eq_true rfl)⟩ ⟨show cells + 1 + 4 ≤ room_1.cells by omega, show slots + 6 + 48 ≤ room_1.slots by omega⟩ (fun v9 w9 h9 => ?_) (fun _ h9 => h9.elim)
  obtain ⟨ra9, rfl, rfl⟩ := h9
  refine r_istore C dL_law_671 (by decide) rfl ?_
  refine t_swap3 ?_
  refine r_goto (tgt := 2129) C dL_law_673 (by decide) ?_
  refine r_widen (k := cells + 500) (n := slots + 10000) (show cells + 1 + 4 ≤ cells + 500 by omega) (show slots + 6 + 48 ≤ slots + 10000 by omega) ?_
  refine r_drop 5 ?_
  refine r_drop 6 ?_
  exact kk _ ⟨f', r', hf', hq', kn, ra9, _, sm, _, _, hC', hB', hM', rfl⟩
theorem S_unriffle {p : Program} {l : Launch} {e : Env} {s : State} {m : MethodId} {args : Array Value} {below : List Frame} {meth : Method} {c : Code} {D : va_G} {cy : Nat → ClassId} {A : Nat → Prop} {Q : State → Prop} {X : (Nat → Prop) → State → Heap → Prop} {aK aV : Nat → Nat} {tO tT : Nat} {gO gT : Nat → Int32} {a : Nat → Nat → Nat} {ba : Nat → Nat} {o b L i cells slots : Nat} {xs : Nat → Int32} {w : va_W} (C : Fg p s m args meth c cL_law 7 RL D cy A) (hE : X A s s.heap) (hT : EnvT X cy aK aV tO tT gO gT) (hN : EnvN X) (hl : l.stackTraces = false) (hx : va_X b L xs s s.heap) (hbl : b < s.heap.size) (hbA : ¬ A b) (hi : i + 5 ≤ L) (hL : L ≤ 2560) (hc : cells + 500 ≤ room_1.cells) (hs : slots + 10000 ≤ room_1.slots) (hJ : JW cy a ba o w) (kk : ∀ w' : va_W, JW cy a ba o w' → vW p l e room_1 s m args below meth c D vwCl A Q 7 (cells + 500) (slots + 10000) w' [some (.ref b), some (.ref (a 0 0)), some (.ref (ba 9)), some (.ref o), some (.int (nI i)), none, none] 2129 []) : vW p l e room_1 s m args below meth c D vwCl A Q 7 cells slots w [some (.ref b), some (.ref (a 0 0)), some (.ref (ba 9)), some (.ref o), some (.int (nI i)), none, none] 676 [] := by
  have hX := hT.1.1
  obtain ⟨f, r, hf, hq, kn, ra, th, sm, n, v, hC, hB, hM, rfl⟩ := hJ
  refine r_aload_n C dL_law_676 rfl ?_
  refine r_aload_n C dL_law_677 rfl ?_
  refine r_iload C dL_law_678 rfl ?_
  refine r_iconst (v := nI 1) C dL_law_680 (by decide) ?_
  refine r_iaddN C dL_law_681 ?_
  refine r_sld C hx hbl hbA (show i + 1 < L by omega) (by omega) dL_law_682 ?_
  refine r_aload_n C dL_law_683 rfl ?_
  refine c_SH (st := []) hX.1.stb C hE (W_unriffle hX.1 hN hC hB hM (P_unriffle hX hl hC hB hM (xs (i + 1)))) pk_L_unriffle qm_L_211 rfl rfl (Nat.le_of_ble_eq_true rfl) dL_law_684 ⟨(Nat.le_of_ble_eq_true rfl), (Nat.le_of_ble_eq_true rfl)⟩ ⟨show cells + 1 ≤ room_1.cells by omega, show slots + 6 ≤ room_1.slots by omega⟩ (fun v9 w9 h9 => ?_) (fun _ h9 => h9.elim)
  obtain ⟨f', r', k, n1, rfl, rfl, hf', hq', n2, hC', hB', hM', hk0, hk4, h2⟩ := h9
  refine r_istore C dL_law_687 (by decide) rfl ?_
  refine r_aload_n C dL_law_689 rfl ?_
  refine r_aload_n C dL_law_690 rfl ?_
  refine r_iload C dL_law_691 rfl ?_
  refine r_iconst (v := nI 1) C dL_law_693 (by decide) ?_
  refine r_iaddN C dL_law_694 ?_
  refine r_sld C hx hbl hbA (show i + 1 < L by omega) (by omega) dL_law_695 ?_
  refine t_swap3 ?_
  refine c_V (st := []) hX.1.stb C hE (h2 _) pk_X4_unriffle qm_L_213 0 8 rfl rfl wm_0 rfl rfl (Nat.le_of_ble_eq_true rfl) dL_law_696 ⟨(Nat.le_of_ble_eq_true rfl), (Nat.le_of_ble_eq_true rfl)⟩ ⟨show cells + 1 + 4 ≤ room_1.cells by omega, show slots + 6 + 48 ≤ room_1.slots by omega⟩ (fun v9 w9 h9 => ?_) (fun _ h9 => h9.elim)
  obtain ⟨ra9, rfl, rfl⟩ := h9
  refine r_istore C dL_law_699 (by decide) rfl ?_
  refine t_swap3 ?_
  refine r_goto (tgt := 2129) C dL_law_701 (by decide) ?_
  refine r_widen (k := cells + 500) (n := slots + 10000) (show cells + 1 + 4 ≤ cells + 500 by omega) (show slots + 6 + 48 ≤ slots + 10000 by omega) ?_
  refine r_drop 5 ?_
  refine r_drop 6 ?_
  exact kk _ ⟨f', r', hf', hq', kn, ra9, _, sm, _, _, hC', hB', hM', rfl⟩
theorem S_sort {p : Program} {l : Launch} {e : Env} {s : State} {m : MethodId} {args : Array Value} {below : List Frame} {meth : Method} {c : Code} {D : va_G} {cy : Nat → ClassId} {A : Nat → Prop} {Q : State → Prop} {X : (Nat → Prop) → State → Heap → Prop} {aK aV : Nat → Nat} {tO tT : Nat} {gO gT : Nat → Int32} {a : Nat → Nat → Nat} {ba : Nat → Nat} {o b L i cells slots : Nat} {xs : Nat → Int32} {w : va_W} (C : Fg p s m args meth c cL_law 7 RL D cy A) (hE : X A s s.heap) (hT : EnvT X cy aK aV tO tT gO gT) (hN : EnvN X) (hl : l.stackTraces = false) (hx : va_X b L xs s s.heap) (hbl : b < s.heap.size) (hbA : ¬ A b) (hi : i + 5 ≤ L) (hL : L ≤ 2560) (hc : cells + 500 ≤ room_1.cells) (hs : slots + 10000 ≤ room_1.slots) (hJ : JW cy a ba o w) (kk : ∀ w' : va_W, JW cy a ba o w' → vW p l e room_1 s m args below meth c D vwCl A Q 7 (cells + 500) (slots + 10000) w' [some (.ref b), some (.ref (a 0 0)), some (.ref (ba 9)), some (.ref o), some (.int (nI i)), none, none] 2129 []) : vW p l e room_1 s m args below meth c D vwCl A Q 7 cells slots w [some (.ref b), some (.ref (a 0 0)), some (.ref (ba 9)), some (.ref o), some (.int (nI i)), none, none] 704 [] := by
  have hX := hT.1.1
  obtain ⟨f, r, hf, hq, kn, ra, th, sm, n, v, hC, hB, hM, rfl⟩ := hJ
  refine r_aload_n C dL_law_704 rfl ?_
  refine r_aload_n C dL_law_705 rfl ?_
  refine r_iload C dL_law_706 rfl ?_
  refine r_iconst (v := nI 1) C dL_law_708 (by decide) ?_
  refine r_iaddN C dL_law_709 ?_
  refine r_sld C hx hbl hbA (show i + 1 < L by omega) (by omega) dL_law_710 ?_
  refine r_aload_n C dL_law_711 rfl ?_
  refine c_SH (st := []) hX.1.stb C hE (W_sort hX.1 hN hC hB hM (P_sort hX hl hC hB hM (xs (i + 1)))) pk_L_sort qm_L_214 rfl rfl (Nat.le_of_ble_eq_true rfl) dL_law_712 ⟨(Nat.le_of_ble_eq_true rfl), (Nat.le_of_ble_eq_true rfl)⟩ ⟨show cells + 1 ≤ room_1.cells by omega, show slots + 6 ≤ room_1.slots by omega⟩ (fun v9 w9 h9 => ?_) (fun _ h9 => h9.elim)
  obtain ⟨f', r', k, n1, rfl, rfl, hf', hq', n2, hC', hB', hM', hk0, hk4, h2⟩ := h9
  refine r_istore C dL_law_715 (by decide) rfl ?_
  refine r_aload_n C dL_law_717 rfl ?_
  refine r_aload_n C dL_law_718 rfl ?_
  refine r_iload C dL_law_719 rfl ?_
  refine r_iconst (v := nI 1) C dL_law_721 (by decide) ?_
  refine r_iaddN C dL_law_722 ?_
  refine r_sld C hx hbl hbA (show i + 1 < L by omega) (by omega) dL_law_723 ?_
  refine t_swap3 ?_
  refine c_V (st := []) hX.1.stb C hE (h2 _) pk_X4_sort qm_L_216 0 8 rfl rfl wm_0 rfl rfl (Nat.le_of_ble_eq_true rfl) dL_law_724 ⟨(Nat.le_of_ble_eq_true rfl), (Nat.le_of_ble_eq_true rfl)⟩ ⟨show cells + 1 + 4 ≤ room_1.cells by omega, show slots + 6 + 48 ≤ room_1.slots by omega⟩ (fun v9 w9 h9 => ?_) (fun _ h9 => h9.elim)
  obtain ⟨ra9, rfl, rfl⟩ := h9
  refine r_istore C dL_law_727 (by decide) rfl ?_
  refine t_swap3 ?_
  refine r_goto (tgt := 2129) C dL_law_729 (by decide) ?_
  refine r_widen (k := cells + 500) (n := slots + 10000) (show cells + 1 + 4 ≤ cells + 500 by omega) (show slots + 6 + 48 ≤ slots + 10000 by omega) ?_
  refine r_drop 5 ?_
  refine r_drop 6 ?_
  exact kk _ ⟨f', r', hf', hq', kn, ra9, _, sm, _, _, hC', hB', hM', rfl⟩
