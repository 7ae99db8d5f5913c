theorem d_LW_law_1054 : decode b_LW_law 1054 = .ok (.aload_n 0, 1) := by decide +kernel
theorem d_LW_law_1055 : decode b_LW_law 1055 = .ok (.iload 4, 2) := by decide +kernel
theorem d_LW_law_1057 : decode b_LW_law 1057 = .ok (.iconst 2, 1) := by decide +kernel
theorem d_LW_law_1058 : decode b_LW_law 1058 = .ok (.iadd, 1) := by decide +kernel
theorem d_LW_law_1059 : decode b_LW_law 1059 = .ok (.iaload, 1) := by decide +kernel
theorem d_LW_law_1060 : decode b_LW_law 1060 = .ok (.invokevirtual 129, 3) := by decide +kernel
theorem d_LW_law_1063 : decode b_LW_law 1063 = .ok (.lstore 6, 2) := by decide +kernel
theorem d_LW_law_1065 : decode b_LW_law 1065 = .ok (.aload_n 2, 1) := by decide +kernel
theorem d_LW_law_1066 : decode b_LW_law 1066 = .ok (.invokevirtual 81, 3) := by decide +kernel
theorem d_LW_law_1069 : decode b_LW_law 1069 = .ok (.iload 5, 2) := by decide +kernel
theorem d_LW_law_1071 : decode b_LW_law 1071 = .ok (.if_icmp .eq 5, 3) := by decide +kernel
theorem d_LW_law_1074 : decode b_LW_law 1074 = .ok (.iconst 0, 1) := by decide +kernel
theorem d_LW_law_1075 : decode b_LW_law 1075 = .ok (.ireturn, 1) := by decide +kernel
theorem d_LW_law_1076 : decode b_LW_law 1076 = .ok (.iload 5, 2) := by decide +kernel
theorem d_LW_law_1078 : decode b_LW_law 1078 = .ok (.ifCond .ne 14, 3) := by decide +kernel
theorem d_LW_law_1081 : decode b_LW_law 1081 = .ok (.aload_n 3, 1) := by decide +kernel
theorem d_LW_law_1082 : decode b_LW_law 1082 = .ok (.iconst 0, 1) := by decide +kernel
theorem d_LW_law_1083 : decode b_LW_law 1083 = .ok (.laload, 1) := by decide +kernel
theorem d_LW_law_1084 : decode b_LW_law 1084 = .ok (.lload 6, 2) := by decide +kernel
theorem d_LW_law_1086 : decode b_LW_law 1086 = .ok (.lcmp, 1) := by decide +kernel
theorem d_LW_law_1087 : decode b_LW_law 1087 = .ok (.ifCond .eq 5, 3) := by decide +kernel
theorem d_LW_law_1090 : decode b_LW_law 1090 = .ok (.iconst 0, 1) := by decide +kernel
theorem d_LW_law_1091 : decode b_LW_law 1091 = .ok (.ireturn, 1) := by decide +kernel
theorem d_LW_law_1092 : decode b_LW_law 1092 = .ok (.goto 59, 3) := by decide +kernel
theorem d_LW_law_1095 : decode b_LW_law 1095 = .ok (.aload_n 1, 1) := by decide +kernel
theorem d_LW_law_1096 : decode b_LW_law 1096 = .ok (.aload_n 0, 1) := by decide +kernel
theorem d_LW_law_1097 : decode b_LW_law 1097 = .ok (.iload 4, 2) := by decide +kernel
theorem d_LW_law_1099 : decode b_LW_law 1099 = .ok (.iconst 1, 1) := by decide +kernel
theorem d_LW_law_1100 : decode b_LW_law 1100 = .ok (.iadd, 1) := by decide +kernel
theorem d_LW_law_1101 : decode b_LW_law 1101 = .ok (.iaload, 1) := by decide +kernel
theorem d_LW_law_1102 : decode b_LW_law 1102 = .ok (.aload_n 3, 1) := by decide +kernel
theorem d_LW_law_1103 : decode b_LW_law 1103 = .ok (.invokestatic 130, 3) := by decide +kernel
theorem d_LW_law_1106 : decode b_LW_law 1106 = .ok (.istore 5, 2) := by decide +kernel
theorem d_LW_law_1108 : decode b_LW_law 1108 = .ok (.aload_n 2, 1) := by decide +kernel
theorem d_LW_law_1109 : decode b_LW_law 1109 = .ok (.aload_n 0, 1) := by decide +kernel
theorem d_LW_law_1110 : decode b_LW_law 1110 = .ok (.iload 4, 2) := by decide +kernel
theorem d_LW_law_1112 : decode b_LW_law 1112 = .ok (.iconst 1, 1) := by decide +kernel
theorem d_LW_law_1113 : decode b_LW_law 1113 = .ok (.iadd, 1) := by decide +kernel
theorem d_LW_law_1114 : decode b_LW_law 1114 = .ok (.iaload, 1) := by decide +kernel
theorem d_LW_law_1115 : decode b_LW_law 1115 = .ok (.invokevirtual 132, 3) := by decide +kernel
theorem d_LW_law_1118 : decode b_LW_law 1118 = .ok (.istore 6, 2) := by decide +kernel
theorem d_LW_law_1120 : decode b_LW_law 1120 = .ok (.aload_n 2, 1) := by decide +kernel
theorem d_LW_law_1121 : decode b_LW_law 1121 = .ok (.invokevirtual 81, 3) := by decide +kernel
theorem d_LW_law_1124 : decode b_LW_law 1124 = .ok (.iload 5, 2) := by decide +kernel
theorem d_LW_law_1126 : decode b_LW_law 1126 = .ok (.if_icmp .eq 5, 3) := by decide +kernel
theorem d_LW_law_1129 : decode b_LW_law 1129 = .ok (.iconst 0, 1) := by decide +kernel
theorem d_LW_law_1130 : decode b_LW_law 1130 = .ok (.ireturn, 1) := by decide +kernel
theorem d_LW_law_1131 : decode b_LW_law 1131 = .ok (.iload 5, 2) := by decide +kernel
theorem d_LW_law_1133 : decode b_LW_law 1133 = .ok (.ifCond .ne 15, 3) := by decide +kernel
theorem d_LW_law_1136 : decode b_LW_law 1136 = .ok (.aload_n 3, 1) := by decide +kernel
theorem d_LW_law_1137 : decode b_LW_law 1137 = .ok (.iconst 0, 1) := by decide +kernel
theorem d_LW_law_1138 : decode b_LW_law 1138 = .ok (.laload, 1) := by decide +kernel
theorem d_LW_law_1139 : decode b_LW_law 1139 = .ok (.iload 6, 2) := by decide +kernel
theorem d_LW_law_1141 : decode b_LW_law 1141 = .ok (.i2l, 1) := by decide +kernel
theorem d_LW_law_1142 : decode b_LW_law 1142 = .ok (.lcmp, 1) := by decide +kernel
theorem d_LW_law_1143 : decode b_LW_law 1143 = .ok (.ifCond .eq 5, 3) := by decide +kernel
theorem d_LW_law_1146 : decode b_LW_law 1146 = .ok (.iconst 0, 1) := by decide +kernel
theorem d_LW_law_1147 : decode b_LW_law 1147 = .ok (.ireturn, 1) := by decide +kernel
theorem d_LW_law_1148 : decode b_LW_law 1148 = .ok (.goto 3, 3) := by decide +kernel
theorem d_LW_law_1151 : decode b_LW_law 1151 = .ok (.iinc 4 6, 3) := by decide +kernel
