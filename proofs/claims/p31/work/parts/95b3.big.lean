/-! larger answers -/
theorem ev_C_32 : chkO (fX11_strike AC7.1 zR 0 1 zR) 1 TC8 1 4 4 = true := by decide +kernel
theorem ev_C_35 : chkO (fX11_strike AC8.1 zR 0 1 zR) 0 TC9 1 4 4 = true := by decide +kernel
theorem ev_C_37 : chkO (fX11_settle AC9.1 zR 0 1 zR) 0 TC10 1 4 4 = true := by decide +kernel
theorem ev_C_38 : aq_count AC10 10 = some 1 := by decide +kernel
theorem ev_C_39 : aq_count AC10 8 = some 64 := by decide +kernel
