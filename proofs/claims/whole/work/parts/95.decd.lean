/-! the law's instructions (written by program). -/
theorem dL_law_1406 : decode cL_law 1406 = .ok (.ireturn, 1) := by decide +kernel
theorem dL_law_1407 : decode cL_law 1407 = .ok (.iinc 3 6, 3) := by decide +kernel
theorem dL_law_1410 : decode cL_law 1410 = .ok (.goto (-1392), 3) := by decide +kernel
theorem dL_law_1413 : decode cL_law 1413 = .ok (.iconst 1, 1) := by decide +kernel
theorem dL_law_1414 : decode cL_law 1414 = .ok (.ireturn, 1) := by decide +kernel
