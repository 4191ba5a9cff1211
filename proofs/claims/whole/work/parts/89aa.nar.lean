/-! PURE: a boolean's narrowing. -/
theorem vp_nar0 : vp_nar .boolean 0 = 0 := by decide
theorem vp_nar1 : vp_nar .boolean 1 = 1 := by decide
