theorem d_LW_law_435 : decode b_LW_law 435 = .ok (.aload_n 0, 1) := by decide +kernel
theorem d_LW_law_436 : decode b_LW_law 436 = .ok (.iload 4, 2) := by decide +kernel
theorem d_LW_law_438 : decode b_LW_law 438 = .ok (.iconst 2, 1) := by decide +kernel
theorem d_LW_law_439 : decode b_LW_law 439 = .ok (.iadd, 1) := by decide +kernel
theorem d_LW_law_440 : decode b_LW_law 440 = .ok (.iaload, 1) := by decide +kernel
theorem d_LW_law_441 : decode b_LW_law 441 = .ok (.aload_n 0, 1) := by decide +kernel
theorem d_LW_law_442 : decode b_LW_law 442 = .ok (.iload 4, 2) := by decide +kernel
theorem d_LW_law_444 : decode b_LW_law 444 = .ok (.iconst 3, 1) := by decide +kernel
theorem d_LW_law_445 : decode b_LW_law 445 = .ok (.iadd, 1) := by decide +kernel
theorem d_LW_law_446 : decode b_LW_law 446 = .ok (.iaload, 1) := by decide +kernel
theorem d_LW_law_447 : decode b_LW_law 447 = .ok (.aload_n 3, 1) := by decide +kernel
theorem d_LW_law_448 : decode b_LW_law 448 = .ok (.invokestatic 100, 3) := by decide +kernel
theorem d_LW_law_451 : decode b_LW_law 451 = .ok (.istore 5, 2) := by decide +kernel
theorem d_LW_law_453 : decode b_LW_law 453 = .ok (.aload_n 2, 1) := by decide +kernel
theorem d_LW_law_454 : decode b_LW_law 454 = .ok (.aload_n 0, 1) := by decide +kernel
theorem d_LW_law_455 : decode b_LW_law 455 = .ok (.iload 4, 2) := by decide +kernel
theorem d_LW_law_457 : decode b_LW_law 457 = .ok (.iconst 1, 1) := by decide +kernel
theorem d_LW_law_458 : decode b_LW_law 458 = .ok (.iadd, 1) := by decide +kernel
theorem d_LW_law_459 : decode b_LW_law 459 = .ok (.iaload, 1) := by decide +kernel
theorem d_LW_law_460 : decode b_LW_law 460 = .ok (.aload_n 0, 1) := by decide +kernel
theorem d_LW_law_461 : decode b_LW_law 461 = .ok (.iload 4, 2) := by decide +kernel
theorem d_LW_law_463 : decode b_LW_law 463 = .ok (.iconst 2, 1) := by decide +kernel
theorem d_LW_law_464 : decode b_LW_law 464 = .ok (.iadd, 1) := by decide +kernel
theorem d_LW_law_465 : decode b_LW_law 465 = .ok (.iaload, 1) := by decide +kernel
theorem d_LW_law_466 : decode b_LW_law 466 = .ok (.aload_n 0, 1) := by decide +kernel
theorem d_LW_law_467 : decode b_LW_law 467 = .ok (.iload 4, 2) := by decide +kernel
theorem d_LW_law_469 : decode b_LW_law 469 = .ok (.iconst 3, 1) := by decide +kernel
theorem d_LW_law_470 : decode b_LW_law 470 = .ok (.iadd, 1) := by decide +kernel
theorem d_LW_law_471 : decode b_LW_law 471 = .ok (.iaload, 1) := by decide +kernel
theorem d_LW_law_472 : decode b_LW_law 472 = .ok (.invokevirtual 103, 3) := by decide +kernel
theorem d_LW_law_475 : decode b_LW_law 475 = .ok (.istore 6, 2) := by decide +kernel
theorem d_LW_law_477 : decode b_LW_law 477 = .ok (.aload_n 2, 1) := by decide +kernel
theorem d_LW_law_478 : decode b_LW_law 478 = .ok (.invokevirtual 81, 3) := by decide +kernel
theorem d_LW_law_481 : decode b_LW_law 481 = .ok (.iload 5, 2) := by decide +kernel
theorem d_LW_law_483 : decode b_LW_law 483 = .ok (.if_icmp .eq 5, 3) := by decide +kernel
theorem d_LW_law_486 : decode b_LW_law 486 = .ok (.iconst 0, 1) := by decide +kernel
theorem d_LW_law_487 : decode b_LW_law 487 = .ok (.ireturn, 1) := by decide +kernel
theorem d_LW_law_488 : decode b_LW_law 488 = .ok (.iload 5, 2) := by decide +kernel
theorem d_LW_law_490 : decode b_LW_law 490 = .ok (.ifCond .ne 15, 3) := by decide +kernel
theorem d_LW_law_493 : decode b_LW_law 493 = .ok (.aload_n 3, 1) := by decide +kernel
theorem d_LW_law_494 : decode b_LW_law 494 = .ok (.iconst 0, 1) := by decide +kernel
theorem d_LW_law_495 : decode b_LW_law 495 = .ok (.laload, 1) := by decide +kernel
theorem d_LW_law_496 : decode b_LW_law 496 = .ok (.iload 6, 2) := by decide +kernel
theorem d_LW_law_498 : decode b_LW_law 498 = .ok (.i2l, 1) := by decide +kernel
theorem d_LW_law_499 : decode b_LW_law 499 = .ok (.lcmp, 1) := by decide +kernel
theorem d_LW_law_500 : decode b_LW_law 500 = .ok (.ifCond .eq 5, 3) := by decide +kernel
theorem d_LW_law_503 : decode b_LW_law 503 = .ok (.iconst 0, 1) := by decide +kernel
theorem d_LW_law_504 : decode b_LW_law 504 = .ok (.ireturn, 1) := by decide +kernel
theorem d_LW_law_505 : decode b_LW_law 505 = .ok (.goto 646, 3) := by decide +kernel
theorem d_LW_law_508 : decode b_LW_law 508 = .ok (.aload_n 1, 1) := by decide +kernel
theorem d_LW_law_509 : decode b_LW_law 509 = .ok (.aload_n 0, 1) := by decide +kernel
theorem d_LW_law_510 : decode b_LW_law 510 = .ok (.iload 4, 2) := by decide +kernel
theorem d_LW_law_512 : decode b_LW_law 512 = .ok (.iconst 1, 1) := by decide +kernel
theorem d_LW_law_513 : decode b_LW_law 513 = .ok (.iadd, 1) := by decide +kernel
theorem d_LW_law_514 : decode b_LW_law 514 = .ok (.iaload, 1) := by decide +kernel
theorem d_LW_law_515 : decode b_LW_law 515 = .ok (.aload_n 3, 1) := by decide +kernel
theorem d_LW_law_516 : decode b_LW_law 516 = .ok (.invokestatic 104, 3) := by decide +kernel
theorem d_LW_law_519 : decode b_LW_law 519 = .ok (.istore 5, 2) := by decide +kernel
theorem d_LW_law_521 : decode b_LW_law 521 = .ok (.aload_n 2, 1) := by decide +kernel
theorem d_LW_law_522 : decode b_LW_law 522 = .ok (.aload_n 0, 1) := by decide +kernel
