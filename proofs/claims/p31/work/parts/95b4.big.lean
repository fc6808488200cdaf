/-! larger answers -/
theorem ev_C_41 : aq_proves AC10 232 = some 1 := by decide +kernel
theorem ev_C_42 : aq_witness AC10 418 = some 448 := by decide +kernel
theorem ev_C_43 : aq_isTrue AC10 187 = some 1 := by decide +kernel
theorem ev_C_44 : aq_proves AC10 187 = some 0 := by decide +kernel
theorem ev_C_45 : aq_witness AC10 187 = some 8 := by decide +kernel
