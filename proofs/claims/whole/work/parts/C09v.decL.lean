/-! THE LAW, DECODED -/
theorem dL_law_3601 : decode cL_law 3601 = .ok (.i2l, 1) := by decide +kernel
theorem dL_law_3602 : decode cL_law 3602 = .ok (.lcmp, 1) := by decide +kernel
theorem dL_law_3603 : decode cL_law 3603 = .ok (.ifCond .eq 5, 3) := by decide +kernel
theorem dL_law_3606 : decode cL_law 3606 = .ok (.iconst 0, 1) := by decide +kernel
theorem dL_law_3607 : decode cL_law 3607 = .ok (.ireturn, 1) := by decide +kernel
theorem dL_law_3608 : decode cL_law 3608 = .ok (.goto 3, 3) := by decide +kernel
theorem dL_law_3611 : decode cL_law 3611 = .ok (.iinc 5 6, 3) := by decide +kernel
theorem dL_law_3614 : decode cL_law 3614 = .ok (.goto (-3586), 3) := by decide +kernel
theorem dL_law_3617 : decode cL_law 3617 = .ok (.iconst 1, 1) := by decide +kernel
theorem dL_law_3618 : decode cL_law 3618 = .ok (.ireturn, 1) := by decide +kernel
