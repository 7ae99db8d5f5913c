theorem d_LW_law_339 : decode b_LW_law 339 = .ok (.istore 6, 2) := by decide +kernel
theorem d_LW_law_341 : decode b_LW_law 341 = .ok (.aload_n 2, 1) := by decide +kernel
theorem d_LW_law_342 : decode b_LW_law 342 = .ok (.invokevirtual 81, 3) := by decide +kernel
theorem d_LW_law_345 : decode b_LW_law 345 = .ok (.iload 5, 2) := by decide +kernel
theorem d_LW_law_347 : decode b_LW_law 347 = .ok (.if_icmp .eq 5, 3) := by decide +kernel
theorem d_LW_law_350 : decode b_LW_law 350 = .ok (.iconst 0, 1) := by decide +kernel
theorem d_LW_law_351 : decode b_LW_law 351 = .ok (.ireturn, 1) := by decide +kernel
theorem d_LW_law_352 : decode b_LW_law 352 = .ok (.iload 5, 2) := by decide +kernel
theorem d_LW_law_354 : decode b_LW_law 354 = .ok (.ifCond .ne 15, 3) := by decide +kernel
theorem d_LW_law_357 : decode b_LW_law 357 = .ok (.aload_n 3, 1) := by decide +kernel
theorem d_LW_law_358 : decode b_LW_law 358 = .ok (.iconst 0, 1) := by decide +kernel
theorem d_LW_law_359 : decode b_LW_law 359 = .ok (.laload, 1) := by decide +kernel
theorem d_LW_law_360 : decode b_LW_law 360 = .ok (.iload 6, 2) := by decide +kernel
theorem d_LW_law_362 : decode b_LW_law 362 = .ok (.i2l, 1) := by decide +kernel
theorem d_LW_law_363 : decode b_LW_law 363 = .ok (.lcmp, 1) := by decide +kernel
theorem d_LW_law_364 : decode b_LW_law 364 = .ok (.ifCond .eq 5, 3) := by decide +kernel
theorem d_LW_law_367 : decode b_LW_law 367 = .ok (.iconst 0, 1) := by decide +kernel
theorem d_LW_law_368 : decode b_LW_law 368 = .ok (.ireturn, 1) := by decide +kernel
theorem d_LW_law_369 : decode b_LW_law 369 = .ok (.goto 782, 3) := by decide +kernel
theorem d_LW_law_372 : decode b_LW_law 372 = .ok (.aload_n 1, 1) := by decide +kernel
theorem d_LW_law_373 : decode b_LW_law 373 = .ok (.aload_n 0, 1) := by decide +kernel
theorem d_LW_law_374 : decode b_LW_law 374 = .ok (.iload 4, 2) := by decide +kernel
theorem d_LW_law_376 : decode b_LW_law 376 = .ok (.iconst 1, 1) := by decide +kernel
theorem d_LW_law_377 : decode b_LW_law 377 = .ok (.iadd, 1) := by decide +kernel
theorem d_LW_law_378 : decode b_LW_law 378 = .ok (.iaload, 1) := by decide +kernel
theorem d_LW_law_379 : decode b_LW_law 379 = .ok (.aload_n 3, 1) := by decide +kernel
theorem d_LW_law_380 : decode b_LW_law 380 = .ok (.invokestatic 97, 3) := by decide +kernel
theorem d_LW_law_383 : decode b_LW_law 383 = .ok (.istore 5, 2) := by decide +kernel
theorem d_LW_law_385 : decode b_LW_law 385 = .ok (.aload_n 2, 1) := by decide +kernel
theorem d_LW_law_386 : decode b_LW_law 386 = .ok (.aload_n 0, 1) := by decide +kernel
theorem d_LW_law_387 : decode b_LW_law 387 = .ok (.iload 4, 2) := by decide +kernel
theorem d_LW_law_389 : decode b_LW_law 389 = .ok (.iconst 1, 1) := by decide +kernel
theorem d_LW_law_390 : decode b_LW_law 390 = .ok (.iadd, 1) := by decide +kernel
theorem d_LW_law_391 : decode b_LW_law 391 = .ok (.iaload, 1) := by decide +kernel
theorem d_LW_law_392 : decode b_LW_law 392 = .ok (.invokevirtual 99, 3) := by decide +kernel
theorem d_LW_law_395 : decode b_LW_law 395 = .ok (.istore 6, 2) := by decide +kernel
theorem d_LW_law_397 : decode b_LW_law 397 = .ok (.aload_n 2, 1) := by decide +kernel
theorem d_LW_law_398 : decode b_LW_law 398 = .ok (.invokevirtual 81, 3) := by decide +kernel
theorem d_LW_law_401 : decode b_LW_law 401 = .ok (.iload 5, 2) := by decide +kernel
theorem d_LW_law_403 : decode b_LW_law 403 = .ok (.if_icmp .eq 5, 3) := by decide +kernel
theorem d_LW_law_406 : decode b_LW_law 406 = .ok (.iconst 0, 1) := by decide +kernel
theorem d_LW_law_407 : decode b_LW_law 407 = .ok (.ireturn, 1) := by decide +kernel
theorem d_LW_law_408 : decode b_LW_law 408 = .ok (.iload 5, 2) := by decide +kernel
theorem d_LW_law_410 : decode b_LW_law 410 = .ok (.ifCond .ne 15, 3) := by decide +kernel
theorem d_LW_law_413 : decode b_LW_law 413 = .ok (.aload_n 3, 1) := by decide +kernel
theorem d_LW_law_414 : decode b_LW_law 414 = .ok (.iconst 0, 1) := by decide +kernel
theorem d_LW_law_415 : decode b_LW_law 415 = .ok (.laload, 1) := by decide +kernel
theorem d_LW_law_416 : decode b_LW_law 416 = .ok (.iload 6, 2) := by decide +kernel
theorem d_LW_law_418 : decode b_LW_law 418 = .ok (.i2l, 1) := by decide +kernel
theorem d_LW_law_419 : decode b_LW_law 419 = .ok (.lcmp, 1) := by decide +kernel
theorem d_LW_law_420 : decode b_LW_law 420 = .ok (.ifCond .eq 5, 3) := by decide +kernel
theorem d_LW_law_423 : decode b_LW_law 423 = .ok (.iconst 0, 1) := by decide +kernel
theorem d_LW_law_424 : decode b_LW_law 424 = .ok (.ireturn, 1) := by decide +kernel
theorem d_LW_law_425 : decode b_LW_law 425 = .ok (.goto 726, 3) := by decide +kernel
theorem d_LW_law_428 : decode b_LW_law 428 = .ok (.aload_n 1, 1) := by decide +kernel
theorem d_LW_law_429 : decode b_LW_law 429 = .ok (.aload_n 0, 1) := by decide +kernel
theorem d_LW_law_430 : decode b_LW_law 430 = .ok (.iload 4, 2) := by decide +kernel
theorem d_LW_law_432 : decode b_LW_law 432 = .ok (.iconst 1, 1) := by decide +kernel
theorem d_LW_law_433 : decode b_LW_law 433 = .ok (.iadd, 1) := by decide +kernel
theorem d_LW_law_434 : decode b_LW_law 434 = .ok (.iaload, 1) := by decide +kernel
