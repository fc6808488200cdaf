/-! larger answers -/
theorem ev_C_12 : aq_ofStep AC1 0 5 = some 448 := by decide +kernel
theorem ev_C_28 : aq_count AC7 10 = some 0 := by decide +kernel
theorem ev_C_29 : aq_proves AC7 232 = some (-5) := by decide +kernel
theorem ev_C_30 : aq_core AC7 232 = some (-5) := by decide +kernel
theorem ev_C_31 : aq_witness AC7 232 = some (-6) := by decide +kernel
