/-! larger answers -/
theorem ev_R_6 : chkO (cq AR4.1 AR4.2.2.2) 6 TR5 1 3 4 = true := by decide +kernel
theorem ev_R_16 : chkO (cq AR6.1 AR6.2.2.2) 0 TR7 1 3 4 = true := by decide +kernel
theorem ev_R_19 : chkO (cq AR8.1 AR8.2.2.2) 0 TR9 1 3 4 = true := by decide +kernel
theorem ev_R_22 : chkO (cq AR10.1 AR10.2.2.2) 1 TR11 2 3 1 = true := by decide +kernel
theorem ev_R_31 : chkO (cq AR13.1 AR13.2.2.2) 2 TR14 2 5 1 = true := by decide +kernel
