/-! larger answers -/
theorem ev_C_52 : aq_ofStep AC11 0 6 = some 56 := by decide +kernel
theorem ev_C_53 : aq_ofState AC11 64 = some 7 := by decide +kernel
theorem ev_C_54 : aq_ofState AC11 448 = some 6 := by decide +kernel
theorem ev_C_55 : aq_ofState AC11 1 = some 0 := by decide +kernel
theorem ev_C_80 : aq_count AC19 9 = some 2 := by decide +kernel
