theorem d_LW_law_966 : decode b_LW_law 966 = .ok (.iaload, 1) := by decide +kernel
theorem d_LW_law_967 : decode b_LW_law 967 = .ok (.aload_n 0, 1) := by decide +kernel
theorem d_LW_law_968 : decode b_LW_law 968 = .ok (.iload 4, 2) := by decide +kernel
theorem d_LW_law_970 : decode b_LW_law 970 = .ok (.iconst 2, 1) := by decide +kernel
theorem d_LW_law_971 : decode b_LW_law 971 = .ok (.iadd, 1) := by decide +kernel
theorem d_LW_law_972 : decode b_LW_law 972 = .ok (.iaload, 1) := by decide +kernel
theorem d_LW_law_973 : decode b_LW_law 973 = .ok (.aload_n 3, 1) := by decide +kernel
theorem d_LW_law_974 : decode b_LW_law 974 = .ok (.invokestatic 124, 3) := by decide +kernel
theorem d_LW_law_977 : decode b_LW_law 977 = .ok (.istore 5, 2) := by decide +kernel
theorem d_LW_law_979 : decode b_LW_law 979 = .ok (.aload_n 2, 1) := by decide +kernel
theorem d_LW_law_980 : decode b_LW_law 980 = .ok (.aload_n 0, 1) := by decide +kernel
theorem d_LW_law_981 : decode b_LW_law 981 = .ok (.iload 4, 2) := by decide +kernel
theorem d_LW_law_983 : decode b_LW_law 983 = .ok (.iconst 1, 1) := by decide +kernel
theorem d_LW_law_984 : decode b_LW_law 984 = .ok (.iadd, 1) := by decide +kernel
theorem d_LW_law_985 : decode b_LW_law 985 = .ok (.iaload, 1) := by decide +kernel
theorem d_LW_law_986 : decode b_LW_law 986 = .ok (.aload_n 0, 1) := by decide +kernel
theorem d_LW_law_987 : decode b_LW_law 987 = .ok (.iload 4, 2) := by decide +kernel
theorem d_LW_law_989 : decode b_LW_law 989 = .ok (.iconst 2, 1) := by decide +kernel
theorem d_LW_law_990 : decode b_LW_law 990 = .ok (.iadd, 1) := by decide +kernel
theorem d_LW_law_991 : decode b_LW_law 991 = .ok (.iaload, 1) := by decide +kernel
theorem d_LW_law_992 : decode b_LW_law 992 = .ok (.invokevirtual 126, 3) := by decide +kernel
theorem d_LW_law_995 : decode b_LW_law 995 = .ok (.istore 6, 2) := by decide +kernel
theorem d_LW_law_997 : decode b_LW_law 997 = .ok (.aload_n 2, 1) := by decide +kernel
theorem d_LW_law_998 : decode b_LW_law 998 = .ok (.invokevirtual 81, 3) := by decide +kernel
theorem d_LW_law_1001 : decode b_LW_law 1001 = .ok (.iload 5, 2) := by decide +kernel
theorem d_LW_law_1003 : decode b_LW_law 1003 = .ok (.if_icmp .eq 5, 3) := by decide +kernel
theorem d_LW_law_1006 : decode b_LW_law 1006 = .ok (.iconst 0, 1) := by decide +kernel
theorem d_LW_law_1007 : decode b_LW_law 1007 = .ok (.ireturn, 1) := by decide +kernel
theorem d_LW_law_1008 : decode b_LW_law 1008 = .ok (.iload 5, 2) := by decide +kernel
theorem d_LW_law_1010 : decode b_LW_law 1010 = .ok (.ifCond .ne 15, 3) := by decide +kernel
theorem d_LW_law_1013 : decode b_LW_law 1013 = .ok (.aload_n 3, 1) := by decide +kernel
theorem d_LW_law_1014 : decode b_LW_law 1014 = .ok (.iconst 0, 1) := by decide +kernel
theorem d_LW_law_1015 : decode b_LW_law 1015 = .ok (.laload, 1) := by decide +kernel
theorem d_LW_law_1016 : decode b_LW_law 1016 = .ok (.iload 6, 2) := by decide +kernel
theorem d_LW_law_1018 : decode b_LW_law 1018 = .ok (.i2l, 1) := by decide +kernel
theorem d_LW_law_1019 : decode b_LW_law 1019 = .ok (.lcmp, 1) := by decide +kernel
theorem d_LW_law_1020 : decode b_LW_law 1020 = .ok (.ifCond .eq 5, 3) := by decide +kernel
theorem d_LW_law_1023 : decode b_LW_law 1023 = .ok (.iconst 0, 1) := by decide +kernel
theorem d_LW_law_1024 : decode b_LW_law 1024 = .ok (.ireturn, 1) := by decide +kernel
theorem d_LW_law_1025 : decode b_LW_law 1025 = .ok (.goto 126, 3) := by decide +kernel
theorem d_LW_law_1028 : decode b_LW_law 1028 = .ok (.aload_n 1, 1) := by decide +kernel
theorem d_LW_law_1029 : decode b_LW_law 1029 = .ok (.aload_n 0, 1) := by decide +kernel
theorem d_LW_law_1030 : decode b_LW_law 1030 = .ok (.iload 4, 2) := by decide +kernel
theorem d_LW_law_1032 : decode b_LW_law 1032 = .ok (.iconst 1, 1) := by decide +kernel
theorem d_LW_law_1033 : decode b_LW_law 1033 = .ok (.iadd, 1) := by decide +kernel
theorem d_LW_law_1034 : decode b_LW_law 1034 = .ok (.iaload, 1) := by decide +kernel
theorem d_LW_law_1035 : decode b_LW_law 1035 = .ok (.aload_n 0, 1) := by decide +kernel
theorem d_LW_law_1036 : decode b_LW_law 1036 = .ok (.iload 4, 2) := by decide +kernel
theorem d_LW_law_1038 : decode b_LW_law 1038 = .ok (.iconst 2, 1) := by decide +kernel
theorem d_LW_law_1039 : decode b_LW_law 1039 = .ok (.iadd, 1) := by decide +kernel
theorem d_LW_law_1040 : decode b_LW_law 1040 = .ok (.iaload, 1) := by decide +kernel
theorem d_LW_law_1041 : decode b_LW_law 1041 = .ok (.aload_n 3, 1) := by decide +kernel
theorem d_LW_law_1042 : decode b_LW_law 1042 = .ok (.invokestatic 127, 3) := by decide +kernel
theorem d_LW_law_1045 : decode b_LW_law 1045 = .ok (.istore 5, 2) := by decide +kernel
theorem d_LW_law_1047 : decode b_LW_law 1047 = .ok (.aload_n 2, 1) := by decide +kernel
theorem d_LW_law_1048 : decode b_LW_law 1048 = .ok (.aload_n 0, 1) := by decide +kernel
theorem d_LW_law_1049 : decode b_LW_law 1049 = .ok (.iload 4, 2) := by decide +kernel
theorem d_LW_law_1051 : decode b_LW_law 1051 = .ok (.iconst 1, 1) := by decide +kernel
theorem d_LW_law_1052 : decode b_LW_law 1052 = .ok (.iadd, 1) := by decide +kernel
theorem d_LW_law_1053 : decode b_LW_law 1053 = .ok (.iaload, 1) := by decide +kernel
