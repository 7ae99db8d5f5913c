theorem d_LW_law_880 : decode b_LW_law 880 = .ok (.iadd, 1) := by decide +kernel
theorem d_LW_law_881 : decode b_LW_law 881 = .ok (.iaload, 1) := by decide +kernel
theorem d_LW_law_882 : decode b_LW_law 882 = .ok (.aload_n 0, 1) := by decide +kernel
theorem d_LW_law_883 : decode b_LW_law 883 = .ok (.iload 4, 2) := by decide +kernel
theorem d_LW_law_885 : decode b_LW_law 885 = .ok (.iconst 5, 1) := by decide +kernel
theorem d_LW_law_886 : decode b_LW_law 886 = .ok (.iadd, 1) := by decide +kernel
theorem d_LW_law_887 : decode b_LW_law 887 = .ok (.iaload, 1) := by decide +kernel
theorem d_LW_law_888 : decode b_LW_law 888 = .ok (.aload_n 3, 1) := by decide +kernel
theorem d_LW_law_889 : decode b_LW_law 889 = .ok (.invokestatic 120, 3) := by decide +kernel
theorem d_LW_law_892 : decode b_LW_law 892 = .ok (.istore 5, 2) := by decide +kernel
theorem d_LW_law_894 : decode b_LW_law 894 = .ok (.aload_n 2, 1) := by decide +kernel
theorem d_LW_law_895 : decode b_LW_law 895 = .ok (.aload_n 0, 1) := by decide +kernel
theorem d_LW_law_896 : decode b_LW_law 896 = .ok (.iload 4, 2) := by decide +kernel
theorem d_LW_law_898 : decode b_LW_law 898 = .ok (.iconst 1, 1) := by decide +kernel
theorem d_LW_law_899 : decode b_LW_law 899 = .ok (.iadd, 1) := by decide +kernel
theorem d_LW_law_900 : decode b_LW_law 900 = .ok (.iaload, 1) := by decide +kernel
theorem d_LW_law_901 : decode b_LW_law 901 = .ok (.aload_n 0, 1) := by decide +kernel
theorem d_LW_law_902 : decode b_LW_law 902 = .ok (.iload 4, 2) := by decide +kernel
theorem d_LW_law_904 : decode b_LW_law 904 = .ok (.iconst 2, 1) := by decide +kernel
theorem d_LW_law_905 : decode b_LW_law 905 = .ok (.iadd, 1) := by decide +kernel
theorem d_LW_law_906 : decode b_LW_law 906 = .ok (.iaload, 1) := by decide +kernel
theorem d_LW_law_907 : decode b_LW_law 907 = .ok (.aload_n 0, 1) := by decide +kernel
theorem d_LW_law_908 : decode b_LW_law 908 = .ok (.iload 4, 2) := by decide +kernel
theorem d_LW_law_910 : decode b_LW_law 910 = .ok (.iconst 3, 1) := by decide +kernel
theorem d_LW_law_911 : decode b_LW_law 911 = .ok (.iadd, 1) := by decide +kernel
theorem d_LW_law_912 : decode b_LW_law 912 = .ok (.iaload, 1) := by decide +kernel
theorem d_LW_law_913 : decode b_LW_law 913 = .ok (.aload_n 0, 1) := by decide +kernel
theorem d_LW_law_914 : decode b_LW_law 914 = .ok (.iload 4, 2) := by decide +kernel
theorem d_LW_law_916 : decode b_LW_law 916 = .ok (.iconst 4, 1) := by decide +kernel
theorem d_LW_law_917 : decode b_LW_law 917 = .ok (.iadd, 1) := by decide +kernel
theorem d_LW_law_918 : decode b_LW_law 918 = .ok (.iaload, 1) := by decide +kernel
theorem d_LW_law_919 : decode b_LW_law 919 = .ok (.aload_n 0, 1) := by decide +kernel
theorem d_LW_law_920 : decode b_LW_law 920 = .ok (.iload 4, 2) := by decide +kernel
theorem d_LW_law_922 : decode b_LW_law 922 = .ok (.iconst 5, 1) := by decide +kernel
theorem d_LW_law_923 : decode b_LW_law 923 = .ok (.iadd, 1) := by decide +kernel
theorem d_LW_law_924 : decode b_LW_law 924 = .ok (.iaload, 1) := by decide +kernel
theorem d_LW_law_925 : decode b_LW_law 925 = .ok (.invokevirtual 123, 3) := by decide +kernel
theorem d_LW_law_928 : decode b_LW_law 928 = .ok (.lstore 6, 2) := by decide +kernel
theorem d_LW_law_930 : decode b_LW_law 930 = .ok (.aload_n 2, 1) := by decide +kernel
theorem d_LW_law_931 : decode b_LW_law 931 = .ok (.invokevirtual 81, 3) := by decide +kernel
theorem d_LW_law_934 : decode b_LW_law 934 = .ok (.iload 5, 2) := by decide +kernel
theorem d_LW_law_936 : decode b_LW_law 936 = .ok (.if_icmp .eq 5, 3) := by decide +kernel
theorem d_LW_law_939 : decode b_LW_law 939 = .ok (.iconst 0, 1) := by decide +kernel
theorem d_LW_law_940 : decode b_LW_law 940 = .ok (.ireturn, 1) := by decide +kernel
theorem d_LW_law_941 : decode b_LW_law 941 = .ok (.iload 5, 2) := by decide +kernel
theorem d_LW_law_943 : decode b_LW_law 943 = .ok (.ifCond .ne 14, 3) := by decide +kernel
theorem d_LW_law_946 : decode b_LW_law 946 = .ok (.aload_n 3, 1) := by decide +kernel
theorem d_LW_law_947 : decode b_LW_law 947 = .ok (.iconst 0, 1) := by decide +kernel
theorem d_LW_law_948 : decode b_LW_law 948 = .ok (.laload, 1) := by decide +kernel
theorem d_LW_law_949 : decode b_LW_law 949 = .ok (.lload 6, 2) := by decide +kernel
theorem d_LW_law_951 : decode b_LW_law 951 = .ok (.lcmp, 1) := by decide +kernel
theorem d_LW_law_952 : decode b_LW_law 952 = .ok (.ifCond .eq 5, 3) := by decide +kernel
theorem d_LW_law_955 : decode b_LW_law 955 = .ok (.iconst 0, 1) := by decide +kernel
theorem d_LW_law_956 : decode b_LW_law 956 = .ok (.ireturn, 1) := by decide +kernel
theorem d_LW_law_957 : decode b_LW_law 957 = .ok (.goto 194, 3) := by decide +kernel
theorem d_LW_law_960 : decode b_LW_law 960 = .ok (.aload_n 1, 1) := by decide +kernel
theorem d_LW_law_961 : decode b_LW_law 961 = .ok (.aload_n 0, 1) := by decide +kernel
theorem d_LW_law_962 : decode b_LW_law 962 = .ok (.iload 4, 2) := by decide +kernel
theorem d_LW_law_964 : decode b_LW_law 964 = .ok (.iconst 1, 1) := by decide +kernel
theorem d_LW_law_965 : decode b_LW_law 965 = .ok (.iadd, 1) := by decide +kernel
