theorem d_LW_law_523 : decode b_LW_law 523 = .ok (.iload 4, 2) := by decide +kernel
theorem d_LW_law_525 : decode b_LW_law 525 = .ok (.iconst 1, 1) := by decide +kernel
theorem d_LW_law_526 : decode b_LW_law 526 = .ok (.iadd, 1) := by decide +kernel
theorem d_LW_law_527 : decode b_LW_law 527 = .ok (.iaload, 1) := by decide +kernel
theorem d_LW_law_528 : decode b_LW_law 528 = .ok (.invokevirtual 106, 3) := by decide +kernel
theorem d_LW_law_531 : decode b_LW_law 531 = .ok (.istore 6, 2) := by decide +kernel
theorem d_LW_law_533 : decode b_LW_law 533 = .ok (.aload_n 2, 1) := by decide +kernel
theorem d_LW_law_534 : decode b_LW_law 534 = .ok (.invokevirtual 81, 3) := by decide +kernel
theorem d_LW_law_537 : decode b_LW_law 537 = .ok (.iload 5, 2) := by decide +kernel
theorem d_LW_law_539 : decode b_LW_law 539 = .ok (.if_icmp .eq 5, 3) := by decide +kernel
theorem d_LW_law_542 : decode b_LW_law 542 = .ok (.iconst 0, 1) := by decide +kernel
theorem d_LW_law_543 : decode b_LW_law 543 = .ok (.ireturn, 1) := by decide +kernel
theorem d_LW_law_544 : decode b_LW_law 544 = .ok (.iload 5, 2) := by decide +kernel
theorem d_LW_law_546 : decode b_LW_law 546 = .ok (.ifCond .ne 15, 3) := by decide +kernel
theorem d_LW_law_549 : decode b_LW_law 549 = .ok (.aload_n 3, 1) := by decide +kernel
theorem d_LW_law_550 : decode b_LW_law 550 = .ok (.iconst 0, 1) := by decide +kernel
theorem d_LW_law_551 : decode b_LW_law 551 = .ok (.laload, 1) := by decide +kernel
theorem d_LW_law_552 : decode b_LW_law 552 = .ok (.iload 6, 2) := by decide +kernel
theorem d_LW_law_554 : decode b_LW_law 554 = .ok (.i2l, 1) := by decide +kernel
theorem d_LW_law_555 : decode b_LW_law 555 = .ok (.lcmp, 1) := by decide +kernel
theorem d_LW_law_556 : decode b_LW_law 556 = .ok (.ifCond .eq 5, 3) := by decide +kernel
theorem d_LW_law_559 : decode b_LW_law 559 = .ok (.iconst 0, 1) := by decide +kernel
theorem d_LW_law_560 : decode b_LW_law 560 = .ok (.ireturn, 1) := by decide +kernel
theorem d_LW_law_561 : decode b_LW_law 561 = .ok (.goto 590, 3) := by decide +kernel
theorem d_LW_law_564 : decode b_LW_law 564 = .ok (.aload_n 1, 1) := by decide +kernel
theorem d_LW_law_565 : decode b_LW_law 565 = .ok (.aload_n 0, 1) := by decide +kernel
theorem d_LW_law_566 : decode b_LW_law 566 = .ok (.iload 4, 2) := by decide +kernel
theorem d_LW_law_568 : decode b_LW_law 568 = .ok (.iconst 1, 1) := by decide +kernel
theorem d_LW_law_569 : decode b_LW_law 569 = .ok (.iadd, 1) := by decide +kernel
theorem d_LW_law_570 : decode b_LW_law 570 = .ok (.iaload, 1) := by decide +kernel
theorem d_LW_law_571 : decode b_LW_law 571 = .ok (.aload_n 0, 1) := by decide +kernel
theorem d_LW_law_572 : decode b_LW_law 572 = .ok (.iload 4, 2) := by decide +kernel
theorem d_LW_law_574 : decode b_LW_law 574 = .ok (.iconst 2, 1) := by decide +kernel
theorem d_LW_law_575 : decode b_LW_law 575 = .ok (.iadd, 1) := by decide +kernel
theorem d_LW_law_576 : decode b_LW_law 576 = .ok (.iaload, 1) := by decide +kernel
theorem d_LW_law_577 : decode b_LW_law 577 = .ok (.aload_n 0, 1) := by decide +kernel
theorem d_LW_law_578 : decode b_LW_law 578 = .ok (.iload 4, 2) := by decide +kernel
theorem d_LW_law_580 : decode b_LW_law 580 = .ok (.iconst 3, 1) := by decide +kernel
theorem d_LW_law_581 : decode b_LW_law 581 = .ok (.iadd, 1) := by decide +kernel
theorem d_LW_law_582 : decode b_LW_law 582 = .ok (.iaload, 1) := by decide +kernel
theorem d_LW_law_583 : decode b_LW_law 583 = .ok (.aload_n 3, 1) := by decide +kernel
theorem d_LW_law_584 : decode b_LW_law 584 = .ok (.invokestatic 107, 3) := by decide +kernel
theorem d_LW_law_587 : decode b_LW_law 587 = .ok (.istore 5, 2) := by decide +kernel
theorem d_LW_law_589 : decode b_LW_law 589 = .ok (.aload_n 2, 1) := by decide +kernel
theorem d_LW_law_590 : decode b_LW_law 590 = .ok (.aload_n 0, 1) := by decide +kernel
theorem d_LW_law_591 : decode b_LW_law 591 = .ok (.iload 4, 2) := by decide +kernel
theorem d_LW_law_593 : decode b_LW_law 593 = .ok (.iconst 1, 1) := by decide +kernel
theorem d_LW_law_594 : decode b_LW_law 594 = .ok (.iadd, 1) := by decide +kernel
theorem d_LW_law_595 : decode b_LW_law 595 = .ok (.iaload, 1) := by decide +kernel
theorem d_LW_law_596 : decode b_LW_law 596 = .ok (.aload_n 0, 1) := by decide +kernel
theorem d_LW_law_597 : decode b_LW_law 597 = .ok (.iload 4, 2) := by decide +kernel
theorem d_LW_law_599 : decode b_LW_law 599 = .ok (.iconst 2, 1) := by decide +kernel
theorem d_LW_law_600 : decode b_LW_law 600 = .ok (.iadd, 1) := by decide +kernel
theorem d_LW_law_601 : decode b_LW_law 601 = .ok (.iaload, 1) := by decide +kernel
theorem d_LW_law_602 : decode b_LW_law 602 = .ok (.aload_n 0, 1) := by decide +kernel
theorem d_LW_law_603 : decode b_LW_law 603 = .ok (.iload 4, 2) := by decide +kernel
theorem d_LW_law_605 : decode b_LW_law 605 = .ok (.iconst 3, 1) := by decide +kernel
theorem d_LW_law_606 : decode b_LW_law 606 = .ok (.iadd, 1) := by decide +kernel
theorem d_LW_law_607 : decode b_LW_law 607 = .ok (.iaload, 1) := by decide +kernel
theorem d_LW_law_608 : decode b_LW_law 608 = .ok (.invokevirtual 109, 3) := by decide +kernel
