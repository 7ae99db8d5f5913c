theorem d_LW_law_0 : decode b_LW_law 0 = .ok (.new 8, 3) := by decide +kernel
theorem d_LW_law_3 : decode b_LW_law 3 = .ok (.dup, 1) := by decide +kernel
theorem d_LW_law_4 : decode b_LW_law 4 = .ok (.invokespecial 71, 3) := by decide +kernel
theorem d_LW_law_7 : decode b_LW_law 7 = .ok (.astore_n 1, 1) := by decide +kernel
theorem d_LW_law_8 : decode b_LW_law 8 = .ok (.new 72, 3) := by decide +kernel
theorem d_LW_law_11 : decode b_LW_law 11 = .ok (.dup, 1) := by decide +kernel
theorem d_LW_law_12 : decode b_LW_law 12 = .ok (.invokespecial 74, 3) := by decide +kernel
theorem d_LW_law_15 : decode b_LW_law 15 = .ok (.astore_n 2, 1) := by decide +kernel
theorem d_LW_law_16 : decode b_LW_law 16 = .ok (.iconst 1, 1) := by decide +kernel
theorem d_LW_law_17 : decode b_LW_law 17 = .ok (.newarray .long, 2) := by decide +kernel
theorem d_LW_law_19 : decode b_LW_law 19 = .ok (.astore_n 3, 1) := by decide +kernel
theorem d_LW_law_20 : decode b_LW_law 20 = .ok (.iconst 0, 1) := by decide +kernel
theorem d_LW_law_21 : decode b_LW_law 21 = .ok (.istore 4, 2) := by decide +kernel
theorem d_LW_law_23 : decode b_LW_law 23 = .ok (.iload 4, 2) := by decide +kernel
theorem d_LW_law_25 : decode b_LW_law 25 = .ok (.aload_n 0, 1) := by decide +kernel
theorem d_LW_law_26 : decode b_LW_law 26 = .ok (.arraylength, 1) := by decide +kernel
theorem d_LW_law_27 : decode b_LW_law 27 = .ok (.bipush 6, 2) := by decide +kernel
theorem d_LW_law_29 : decode b_LW_law 29 = .ok (.isub, 1) := by decide +kernel
theorem d_LW_law_30 : decode b_LW_law 30 = .ok (.if_icmp .gt 1127, 3) := by decide +kernel
theorem d_LW_law_33 : decode b_LW_law 33 = .ok (.aload_n 0, 1) := by decide +kernel
theorem d_LW_law_34 : decode b_LW_law 34 = .ok (.iload 4, 2) := by decide +kernel
theorem d_LW_law_36 : decode b_LW_law 36 = .ok (.iaload, 1) := by decide +kernel
theorem d_LW_law_37 : decode b_LW_law 37 = .ok (.bipush 15, 2) := by decide +kernel
theorem d_LW_law_39 : decode b_LW_law 39 = .ok (.iand, 1) := by decide +kernel
theorem d_LW_law_40 : decode b_LW_law 40 = .ok (.tableswitch 1111 0 14 #[76, 124, 184, 276, 332, 388, 468, 524, 603, 670, 749, 817, 920, 988, 1055], 76) := by decide +kernel
theorem d_LW_law_116 : decode b_LW_law 116 = .ok (.aload_n 1, 1) := by decide +kernel
theorem d_LW_law_117 : decode b_LW_law 117 = .ok (.aload_n 0, 1) := by decide +kernel
theorem d_LW_law_118 : decode b_LW_law 118 = .ok (.iload 4, 2) := by decide +kernel
theorem d_LW_law_120 : decode b_LW_law 120 = .ok (.iconst 1, 1) := by decide +kernel
theorem d_LW_law_121 : decode b_LW_law 121 = .ok (.iadd, 1) := by decide +kernel
theorem d_LW_law_122 : decode b_LW_law 122 = .ok (.iaload, 1) := by decide +kernel
theorem d_LW_law_123 : decode b_LW_law 123 = .ok (.aload_n 0, 1) := by decide +kernel
theorem d_LW_law_124 : decode b_LW_law 124 = .ok (.iload 4, 2) := by decide +kernel
theorem d_LW_law_126 : decode b_LW_law 126 = .ok (.iconst 2, 1) := by decide +kernel
theorem d_LW_law_127 : decode b_LW_law 127 = .ok (.iadd, 1) := by decide +kernel
theorem d_LW_law_128 : decode b_LW_law 128 = .ok (.iaload, 1) := by decide +kernel
theorem d_LW_law_129 : decode b_LW_law 129 = .ok (.invokestatic 75, 3) := by decide +kernel
theorem d_LW_law_132 : decode b_LW_law 132 = .ok (.istore 5, 2) := by decide +kernel
theorem d_LW_law_134 : decode b_LW_law 134 = .ok (.aload_n 2, 1) := by decide +kernel
theorem d_LW_law_135 : decode b_LW_law 135 = .ok (.aload_n 0, 1) := by decide +kernel
theorem d_LW_law_136 : decode b_LW_law 136 = .ok (.iload 4, 2) := by decide +kernel
theorem d_LW_law_138 : decode b_LW_law 138 = .ok (.iconst 1, 1) := by decide +kernel
theorem d_LW_law_139 : decode b_LW_law 139 = .ok (.iadd, 1) := by decide +kernel
theorem d_LW_law_140 : decode b_LW_law 140 = .ok (.iaload, 1) := by decide +kernel
theorem d_LW_law_141 : decode b_LW_law 141 = .ok (.aload_n 0, 1) := by decide +kernel
theorem d_LW_law_142 : decode b_LW_law 142 = .ok (.iload 4, 2) := by decide +kernel
theorem d_LW_law_144 : decode b_LW_law 144 = .ok (.iconst 2, 1) := by decide +kernel
theorem d_LW_law_145 : decode b_LW_law 145 = .ok (.iadd, 1) := by decide +kernel
theorem d_LW_law_146 : decode b_LW_law 146 = .ok (.iaload, 1) := by decide +kernel
theorem d_LW_law_147 : decode b_LW_law 147 = .ok (.invokevirtual 80, 3) := by decide +kernel
theorem d_LW_law_150 : decode b_LW_law 150 = .ok (.aload_n 2, 1) := by decide +kernel
theorem d_LW_law_151 : decode b_LW_law 151 = .ok (.invokevirtual 81, 3) := by decide +kernel
theorem d_LW_law_154 : decode b_LW_law 154 = .ok (.iload 5, 2) := by decide +kernel
theorem d_LW_law_156 : decode b_LW_law 156 = .ok (.if_icmp .eq 5, 3) := by decide +kernel
theorem d_LW_law_159 : decode b_LW_law 159 = .ok (.iconst 0, 1) := by decide +kernel
theorem d_LW_law_160 : decode b_LW_law 160 = .ok (.ireturn, 1) := by decide +kernel
theorem d_LW_law_161 : decode b_LW_law 161 = .ok (.goto 990, 3) := by decide +kernel
theorem d_LW_law_164 : decode b_LW_law 164 = .ok (.aload_n 1, 1) := by decide +kernel
theorem d_LW_law_165 : decode b_LW_law 165 = .ok (.aload_n 0, 1) := by decide +kernel
theorem d_LW_law_166 : decode b_LW_law 166 = .ok (.iload 4, 2) := by decide +kernel
