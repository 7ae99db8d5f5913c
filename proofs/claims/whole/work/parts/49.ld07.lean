theorem d_LW_law_706 : decode b_LW_law 706 = .ok (.ireturn, 1) := by decide +kernel
theorem d_LW_law_707 : decode b_LW_law 707 = .ok (.goto 444, 3) := by decide +kernel
theorem d_LW_law_710 : decode b_LW_law 710 = .ok (.aload_n 1, 1) := by decide +kernel
theorem d_LW_law_711 : decode b_LW_law 711 = .ok (.aload_n 0, 1) := by decide +kernel
theorem d_LW_law_712 : decode b_LW_law 712 = .ok (.iload 4, 2) := by decide +kernel
theorem d_LW_law_714 : decode b_LW_law 714 = .ok (.iconst 1, 1) := by decide +kernel
theorem d_LW_law_715 : decode b_LW_law 715 = .ok (.iadd, 1) := by decide +kernel
theorem d_LW_law_716 : decode b_LW_law 716 = .ok (.iaload, 1) := by decide +kernel
theorem d_LW_law_717 : decode b_LW_law 717 = .ok (.aload_n 0, 1) := by decide +kernel
theorem d_LW_law_718 : decode b_LW_law 718 = .ok (.iload 4, 2) := by decide +kernel
theorem d_LW_law_720 : decode b_LW_law 720 = .ok (.iconst 2, 1) := by decide +kernel
theorem d_LW_law_721 : decode b_LW_law 721 = .ok (.iadd, 1) := by decide +kernel
theorem d_LW_law_722 : decode b_LW_law 722 = .ok (.iaload, 1) := by decide +kernel
theorem d_LW_law_723 : decode b_LW_law 723 = .ok (.aload_n 0, 1) := by decide +kernel
theorem d_LW_law_724 : decode b_LW_law 724 = .ok (.iload 4, 2) := by decide +kernel
theorem d_LW_law_726 : decode b_LW_law 726 = .ok (.iconst 3, 1) := by decide +kernel
theorem d_LW_law_727 : decode b_LW_law 727 = .ok (.iadd, 1) := by decide +kernel
theorem d_LW_law_728 : decode b_LW_law 728 = .ok (.iaload, 1) := by decide +kernel
theorem d_LW_law_729 : decode b_LW_law 729 = .ok (.aload_n 3, 1) := by decide +kernel
theorem d_LW_law_730 : decode b_LW_law 730 = .ok (.invokestatic 114, 3) := by decide +kernel
theorem d_LW_law_733 : decode b_LW_law 733 = .ok (.istore 5, 2) := by decide +kernel
theorem d_LW_law_735 : decode b_LW_law 735 = .ok (.aload_n 2, 1) := by decide +kernel
theorem d_LW_law_736 : decode b_LW_law 736 = .ok (.aload_n 0, 1) := by decide +kernel
theorem d_LW_law_737 : decode b_LW_law 737 = .ok (.iload 4, 2) := by decide +kernel
theorem d_LW_law_739 : decode b_LW_law 739 = .ok (.iconst 1, 1) := by decide +kernel
theorem d_LW_law_740 : decode b_LW_law 740 = .ok (.iadd, 1) := by decide +kernel
theorem d_LW_law_741 : decode b_LW_law 741 = .ok (.iaload, 1) := by decide +kernel
theorem d_LW_law_742 : decode b_LW_law 742 = .ok (.aload_n 0, 1) := by decide +kernel
theorem d_LW_law_743 : decode b_LW_law 743 = .ok (.iload 4, 2) := by decide +kernel
theorem d_LW_law_745 : decode b_LW_law 745 = .ok (.iconst 2, 1) := by decide +kernel
theorem d_LW_law_746 : decode b_LW_law 746 = .ok (.iadd, 1) := by decide +kernel
theorem d_LW_law_747 : decode b_LW_law 747 = .ok (.iaload, 1) := by decide +kernel
theorem d_LW_law_748 : decode b_LW_law 748 = .ok (.aload_n 0, 1) := by decide +kernel
theorem d_LW_law_749 : decode b_LW_law 749 = .ok (.iload 4, 2) := by decide +kernel
theorem d_LW_law_751 : decode b_LW_law 751 = .ok (.iconst 3, 1) := by decide +kernel
theorem d_LW_law_752 : decode b_LW_law 752 = .ok (.iadd, 1) := by decide +kernel
theorem d_LW_law_753 : decode b_LW_law 753 = .ok (.iaload, 1) := by decide +kernel
theorem d_LW_law_754 : decode b_LW_law 754 = .ok (.invokevirtual 116, 3) := by decide +kernel
theorem d_LW_law_757 : decode b_LW_law 757 = .ok (.lstore 6, 2) := by decide +kernel
theorem d_LW_law_759 : decode b_LW_law 759 = .ok (.aload_n 2, 1) := by decide +kernel
theorem d_LW_law_760 : decode b_LW_law 760 = .ok (.invokevirtual 81, 3) := by decide +kernel
theorem d_LW_law_763 : decode b_LW_law 763 = .ok (.iload 5, 2) := by decide +kernel
theorem d_LW_law_765 : decode b_LW_law 765 = .ok (.if_icmp .eq 5, 3) := by decide +kernel
theorem d_LW_law_768 : decode b_LW_law 768 = .ok (.iconst 0, 1) := by decide +kernel
theorem d_LW_law_769 : decode b_LW_law 769 = .ok (.ireturn, 1) := by decide +kernel
theorem d_LW_law_770 : decode b_LW_law 770 = .ok (.iload 5, 2) := by decide +kernel
theorem d_LW_law_772 : decode b_LW_law 772 = .ok (.ifCond .ne 14, 3) := by decide +kernel
theorem d_LW_law_775 : decode b_LW_law 775 = .ok (.aload_n 3, 1) := by decide +kernel
theorem d_LW_law_776 : decode b_LW_law 776 = .ok (.iconst 0, 1) := by decide +kernel
theorem d_LW_law_777 : decode b_LW_law 777 = .ok (.laload, 1) := by decide +kernel
theorem d_LW_law_778 : decode b_LW_law 778 = .ok (.lload 6, 2) := by decide +kernel
theorem d_LW_law_780 : decode b_LW_law 780 = .ok (.lcmp, 1) := by decide +kernel
theorem d_LW_law_781 : decode b_LW_law 781 = .ok (.ifCond .eq 5, 3) := by decide +kernel
theorem d_LW_law_784 : decode b_LW_law 784 = .ok (.iconst 0, 1) := by decide +kernel
theorem d_LW_law_785 : decode b_LW_law 785 = .ok (.ireturn, 1) := by decide +kernel
theorem d_LW_law_786 : decode b_LW_law 786 = .ok (.goto 365, 3) := by decide +kernel
theorem d_LW_law_789 : decode b_LW_law 789 = .ok (.aload_n 1, 1) := by decide +kernel
theorem d_LW_law_790 : decode b_LW_law 790 = .ok (.aload_n 0, 1) := by decide +kernel
theorem d_LW_law_791 : decode b_LW_law 791 = .ok (.iload 4, 2) := by decide +kernel
theorem d_LW_law_793 : decode b_LW_law 793 = .ok (.iconst 1, 1) := by decide +kernel
