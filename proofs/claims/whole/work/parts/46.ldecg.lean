theorem d_w_law_1186 : decode code 1186 = .ok (.goto (-1163), 3) := by decide +kernel
theorem d_w_law_1189 : decode code 1189 = .ok (.iconst 1, 1) := by decide +kernel
theorem d_w_law_1190 : decode code 1190 = .ok (.ireturn, 1) := by decide +kernel
