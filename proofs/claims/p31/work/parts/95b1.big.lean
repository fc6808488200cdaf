/-! larger answers -/
theorem ev_C_3 : aq_count A0 8 = some 512 := by decide +kernel
theorem ev_C_4 : aq_count A0 9 = some 1 := by decide +kernel
theorem ev_C_5 : aq_count A0 10 = some 1 := by decide +kernel
theorem ev_C_6 : aq_core A0 7 = some 0 := by decide +kernel
theorem ev_C_10 : aq_count AC1 9 = some 8 := by decide +kernel
