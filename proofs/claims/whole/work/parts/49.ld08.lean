theorem d_LW_law_794 : decode b_LW_law 794 = .ok (.iadd, 1) := by decide +kernel
theorem d_LW_law_795 : decode b_LW_law 795 = .ok (.iaload, 1) := by decide +kernel
theorem d_LW_law_796 : decode b_LW_law 796 = .ok (.aload_n 0, 1) := by decide +kernel
theorem d_LW_law_797 : decode b_LW_law 797 = .ok (.iload 4, 2) := by decide +kernel
theorem d_LW_law_799 : decode b_LW_law 799 = .ok (.iconst 2, 1) := by decide +kernel
theorem d_LW_law_800 : decode b_LW_law 800 = .ok (.iadd, 1) := by decide +kernel
theorem d_LW_law_801 : decode b_LW_law 801 = .ok (.iaload, 1) := by decide +kernel
theorem d_LW_law_802 : decode b_LW_law 802 = .ok (.aload_n 3, 1) := by decide +kernel
theorem d_LW_law_803 : decode b_LW_law 803 = .ok (.invokestatic 117, 3) := by decide +kernel
theorem d_LW_law_806 : decode b_LW_law 806 = .ok (.istore 5, 2) := by decide +kernel
theorem d_LW_law_808 : decode b_LW_law 808 = .ok (.aload_n 2, 1) := by decide +kernel
theorem d_LW_law_809 : decode b_LW_law 809 = .ok (.aload_n 0, 1) := by decide +kernel
theorem d_LW_law_810 : decode b_LW_law 810 = .ok (.iload 4, 2) := by decide +kernel
theorem d_LW_law_812 : decode b_LW_law 812 = .ok (.iconst 1, 1) := by decide +kernel
theorem d_LW_law_813 : decode b_LW_law 813 = .ok (.iadd, 1) := by decide +kernel
theorem d_LW_law_814 : decode b_LW_law 814 = .ok (.iaload, 1) := by decide +kernel
theorem d_LW_law_815 : decode b_LW_law 815 = .ok (.aload_n 0, 1) := by decide +kernel
theorem d_LW_law_816 : decode b_LW_law 816 = .ok (.iload 4, 2) := by decide +kernel
theorem d_LW_law_818 : decode b_LW_law 818 = .ok (.iconst 2, 1) := by decide +kernel
theorem d_LW_law_819 : decode b_LW_law 819 = .ok (.iadd, 1) := by decide +kernel
theorem d_LW_law_820 : decode b_LW_law 820 = .ok (.iaload, 1) := by decide +kernel
theorem d_LW_law_821 : decode b_LW_law 821 = .ok (.invokevirtual 119, 3) := by decide +kernel
theorem d_LW_law_824 : decode b_LW_law 824 = .ok (.istore 6, 2) := by decide +kernel
theorem d_LW_law_826 : decode b_LW_law 826 = .ok (.aload_n 2, 1) := by decide +kernel
theorem d_LW_law_827 : decode b_LW_law 827 = .ok (.invokevirtual 81, 3) := by decide +kernel
theorem d_LW_law_830 : decode b_LW_law 830 = .ok (.iload 5, 2) := by decide +kernel
theorem d_LW_law_832 : decode b_LW_law 832 = .ok (.if_icmp .eq 5, 3) := by decide +kernel
theorem d_LW_law_835 : decode b_LW_law 835 = .ok (.iconst 0, 1) := by decide +kernel
theorem d_LW_law_836 : decode b_LW_law 836 = .ok (.ireturn, 1) := by decide +kernel
theorem d_LW_law_837 : decode b_LW_law 837 = .ok (.iload 5, 2) := by decide +kernel
theorem d_LW_law_839 : decode b_LW_law 839 = .ok (.ifCond .ne 15, 3) := by decide +kernel
theorem d_LW_law_842 : decode b_LW_law 842 = .ok (.aload_n 3, 1) := by decide +kernel
theorem d_LW_law_843 : decode b_LW_law 843 = .ok (.iconst 0, 1) := by decide +kernel
theorem d_LW_law_844 : decode b_LW_law 844 = .ok (.laload, 1) := by decide +kernel
theorem d_LW_law_845 : decode b_LW_law 845 = .ok (.iload 6, 2) := by decide +kernel
theorem d_LW_law_847 : decode b_LW_law 847 = .ok (.i2l, 1) := by decide +kernel
theorem d_LW_law_848 : decode b_LW_law 848 = .ok (.lcmp, 1) := by decide +kernel
theorem d_LW_law_849 : decode b_LW_law 849 = .ok (.ifCond .eq 5, 3) := by decide +kernel
theorem d_LW_law_852 : decode b_LW_law 852 = .ok (.iconst 0, 1) := by decide +kernel
theorem d_LW_law_853 : decode b_LW_law 853 = .ok (.ireturn, 1) := by decide +kernel
theorem d_LW_law_854 : decode b_LW_law 854 = .ok (.goto 297, 3) := by decide +kernel
theorem d_LW_law_857 : decode b_LW_law 857 = .ok (.aload_n 1, 1) := by decide +kernel
theorem d_LW_law_858 : decode b_LW_law 858 = .ok (.aload_n 0, 1) := by decide +kernel
theorem d_LW_law_859 : decode b_LW_law 859 = .ok (.iload 4, 2) := by decide +kernel
theorem d_LW_law_861 : decode b_LW_law 861 = .ok (.iconst 1, 1) := by decide +kernel
theorem d_LW_law_862 : decode b_LW_law 862 = .ok (.iadd, 1) := by decide +kernel
theorem d_LW_law_863 : decode b_LW_law 863 = .ok (.iaload, 1) := by decide +kernel
theorem d_LW_law_864 : decode b_LW_law 864 = .ok (.aload_n 0, 1) := by decide +kernel
theorem d_LW_law_865 : decode b_LW_law 865 = .ok (.iload 4, 2) := by decide +kernel
theorem d_LW_law_867 : decode b_LW_law 867 = .ok (.iconst 2, 1) := by decide +kernel
theorem d_LW_law_868 : decode b_LW_law 868 = .ok (.iadd, 1) := by decide +kernel
theorem d_LW_law_869 : decode b_LW_law 869 = .ok (.iaload, 1) := by decide +kernel
theorem d_LW_law_870 : decode b_LW_law 870 = .ok (.aload_n 0, 1) := by decide +kernel
theorem d_LW_law_871 : decode b_LW_law 871 = .ok (.iload 4, 2) := by decide +kernel
theorem d_LW_law_873 : decode b_LW_law 873 = .ok (.iconst 3, 1) := by decide +kernel
theorem d_LW_law_874 : decode b_LW_law 874 = .ok (.iadd, 1) := by decide +kernel
theorem d_LW_law_875 : decode b_LW_law 875 = .ok (.iaload, 1) := by decide +kernel
theorem d_LW_law_876 : decode b_LW_law 876 = .ok (.aload_n 0, 1) := by decide +kernel
theorem d_LW_law_877 : decode b_LW_law 877 = .ok (.iload 4, 2) := by decide +kernel
theorem d_LW_law_879 : decode b_LW_law 879 = .ok (.iconst 4, 1) := by decide +kernel
