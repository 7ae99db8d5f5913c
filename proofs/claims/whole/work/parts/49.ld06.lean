theorem d_LW_law_611 : decode b_LW_law 611 = .ok (.lstore 6, 2) := by decide +kernel
theorem d_LW_law_613 : decode b_LW_law 613 = .ok (.aload_n 2, 1) := by decide +kernel
theorem d_LW_law_614 : decode b_LW_law 614 = .ok (.invokevirtual 81, 3) := by decide +kernel
theorem d_LW_law_617 : decode b_LW_law 617 = .ok (.iload 5, 2) := by decide +kernel
theorem d_LW_law_619 : decode b_LW_law 619 = .ok (.if_icmp .eq 5, 3) := by decide +kernel
theorem d_LW_law_622 : decode b_LW_law 622 = .ok (.iconst 0, 1) := by decide +kernel
theorem d_LW_law_623 : decode b_LW_law 623 = .ok (.ireturn, 1) := by decide +kernel
theorem d_LW_law_624 : decode b_LW_law 624 = .ok (.iload 5, 2) := by decide +kernel
theorem d_LW_law_626 : decode b_LW_law 626 = .ok (.ifCond .ne 14, 3) := by decide +kernel
theorem d_LW_law_629 : decode b_LW_law 629 = .ok (.aload_n 3, 1) := by decide +kernel
theorem d_LW_law_630 : decode b_LW_law 630 = .ok (.iconst 0, 1) := by decide +kernel
theorem d_LW_law_631 : decode b_LW_law 631 = .ok (.laload, 1) := by decide +kernel
theorem d_LW_law_632 : decode b_LW_law 632 = .ok (.lload 6, 2) := by decide +kernel
theorem d_LW_law_634 : decode b_LW_law 634 = .ok (.lcmp, 1) := by decide +kernel
theorem d_LW_law_635 : decode b_LW_law 635 = .ok (.ifCond .eq 5, 3) := by decide +kernel
theorem d_LW_law_638 : decode b_LW_law 638 = .ok (.iconst 0, 1) := by decide +kernel
theorem d_LW_law_639 : decode b_LW_law 639 = .ok (.ireturn, 1) := by decide +kernel
theorem d_LW_law_640 : decode b_LW_law 640 = .ok (.goto 511, 3) := by decide +kernel
theorem d_LW_law_643 : decode b_LW_law 643 = .ok (.aload_n 1, 1) := by decide +kernel
theorem d_LW_law_644 : decode b_LW_law 644 = .ok (.aload_n 0, 1) := by decide +kernel
theorem d_LW_law_645 : decode b_LW_law 645 = .ok (.iload 4, 2) := by decide +kernel
theorem d_LW_law_647 : decode b_LW_law 647 = .ok (.iconst 1, 1) := by decide +kernel
theorem d_LW_law_648 : decode b_LW_law 648 = .ok (.iadd, 1) := by decide +kernel
theorem d_LW_law_649 : decode b_LW_law 649 = .ok (.iaload, 1) := by decide +kernel
theorem d_LW_law_650 : decode b_LW_law 650 = .ok (.aload_n 0, 1) := by decide +kernel
theorem d_LW_law_651 : decode b_LW_law 651 = .ok (.iload 4, 2) := by decide +kernel
theorem d_LW_law_653 : decode b_LW_law 653 = .ok (.iconst 2, 1) := by decide +kernel
theorem d_LW_law_654 : decode b_LW_law 654 = .ok (.iadd, 1) := by decide +kernel
theorem d_LW_law_655 : decode b_LW_law 655 = .ok (.iaload, 1) := by decide +kernel
theorem d_LW_law_656 : decode b_LW_law 656 = .ok (.aload_n 3, 1) := by decide +kernel
theorem d_LW_law_657 : decode b_LW_law 657 = .ok (.invokestatic 110, 3) := by decide +kernel
theorem d_LW_law_660 : decode b_LW_law 660 = .ok (.istore 5, 2) := by decide +kernel
theorem d_LW_law_662 : decode b_LW_law 662 = .ok (.aload_n 2, 1) := by decide +kernel
theorem d_LW_law_663 : decode b_LW_law 663 = .ok (.aload_n 0, 1) := by decide +kernel
theorem d_LW_law_664 : decode b_LW_law 664 = .ok (.iload 4, 2) := by decide +kernel
theorem d_LW_law_666 : decode b_LW_law 666 = .ok (.iconst 1, 1) := by decide +kernel
theorem d_LW_law_667 : decode b_LW_law 667 = .ok (.iadd, 1) := by decide +kernel
theorem d_LW_law_668 : decode b_LW_law 668 = .ok (.iaload, 1) := by decide +kernel
theorem d_LW_law_669 : decode b_LW_law 669 = .ok (.aload_n 0, 1) := by decide +kernel
theorem d_LW_law_670 : decode b_LW_law 670 = .ok (.iload 4, 2) := by decide +kernel
theorem d_LW_law_672 : decode b_LW_law 672 = .ok (.iconst 2, 1) := by decide +kernel
theorem d_LW_law_673 : decode b_LW_law 673 = .ok (.iadd, 1) := by decide +kernel
theorem d_LW_law_674 : decode b_LW_law 674 = .ok (.iaload, 1) := by decide +kernel
theorem d_LW_law_675 : decode b_LW_law 675 = .ok (.invokevirtual 113, 3) := by decide +kernel
theorem d_LW_law_678 : decode b_LW_law 678 = .ok (.lstore 6, 2) := by decide +kernel
theorem d_LW_law_680 : decode b_LW_law 680 = .ok (.aload_n 2, 1) := by decide +kernel
theorem d_LW_law_681 : decode b_LW_law 681 = .ok (.invokevirtual 81, 3) := by decide +kernel
theorem d_LW_law_684 : decode b_LW_law 684 = .ok (.iload 5, 2) := by decide +kernel
theorem d_LW_law_686 : decode b_LW_law 686 = .ok (.if_icmp .eq 5, 3) := by decide +kernel
theorem d_LW_law_689 : decode b_LW_law 689 = .ok (.iconst 0, 1) := by decide +kernel
theorem d_LW_law_690 : decode b_LW_law 690 = .ok (.ireturn, 1) := by decide +kernel
theorem d_LW_law_691 : decode b_LW_law 691 = .ok (.iload 5, 2) := by decide +kernel
theorem d_LW_law_693 : decode b_LW_law 693 = .ok (.ifCond .ne 14, 3) := by decide +kernel
theorem d_LW_law_696 : decode b_LW_law 696 = .ok (.aload_n 3, 1) := by decide +kernel
theorem d_LW_law_697 : decode b_LW_law 697 = .ok (.iconst 0, 1) := by decide +kernel
theorem d_LW_law_698 : decode b_LW_law 698 = .ok (.laload, 1) := by decide +kernel
theorem d_LW_law_699 : decode b_LW_law 699 = .ok (.lload 6, 2) := by decide +kernel
theorem d_LW_law_701 : decode b_LW_law 701 = .ok (.lcmp, 1) := by decide +kernel
theorem d_LW_law_702 : decode b_LW_law 702 = .ok (.ifCond .eq 5, 3) := by decide +kernel
theorem d_LW_law_705 : decode b_LW_law 705 = .ok (.iconst 0, 1) := by decide +kernel
