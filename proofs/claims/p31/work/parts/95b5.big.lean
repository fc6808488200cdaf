/-! larger answers -/
theorem ev_C_46 : aq_core AC10 187 = some (-6) := by decide +kernel
theorem ev_C_47 : aq_core AC10 232 = some 2 := by decide +kernel
theorem ev_C_48 : aq_needless AC10 = some 0 := by decide +kernel
theorem ev_C_50 : aq_needless AC11 = some 16 := by decide +kernel
theorem ev_C_51 : aq_core AC11 232 = some 2 := by decide +kernel
