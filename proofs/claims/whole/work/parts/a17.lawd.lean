theorem dL_law_1134 : decode code 1134 = .ok (.goto (-1116), 3) := by decide +kernel
theorem dL_law_1137 : decode code 1137 = .ok (.iconst 1, 1) := by decide +kernel
theorem dL_law_1138 : decode code 1138 = .ok (.ireturn, 1) := by decide +kernel
