theorem d_LW_law_1154 : decode b_LW_law 1154 = .ok (.goto (-1131), 3) := by decide +kernel
theorem d_LW_law_1157 : decode b_LW_law 1157 = .ok (.iconst 1, 1) := by decide +kernel
theorem d_LW_law_1158 : decode b_LW_law 1158 = .ok (.ireturn, 1) := by decide +kernel
