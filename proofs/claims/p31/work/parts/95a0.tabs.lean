/-! tables of a fixed run, and its small answers -/
theorem ev_K_1 : aq_claim 0 0 0 0 = some 7 := by decide +kernel
theorem ev_K_2 : aq_claim 1 2 0 5 = some 237 := by decide +kernel
theorem ev_K_3 : aq_claim 5 0 1 (-7) = some 690 := by decide +kernel
theorem ev_K_4 : aq_claim 9 1 2 1 = some 1298 := by decide +kernel
theorem ev_K_5 : aq_claim 0 1 0 0 = some (-2) := by decide +kernel
theorem ev_K_6 : aq_claim 0 0 0 1 = some (-2) := by decide +kernel
theorem ev_K_7 : aq_claim 1 0 1 0 = some (-2) := by decide +kernel
theorem ev_K_8 : aq_claim 1 0 0 8 = some (-2) := by decide +kernel
theorem ev_K_9 : aq_claim 4 0 0 (-1) = some (-2) := by decide +kernel
theorem ev_K_10 : aq_claim 5 1 1 0 = some (-2) := by decide +kernel
theorem ev_K_11 : aq_claim 7 0 1 8 = some (-2) := by decide +kernel
theorem ev_K_12 : aq_claim 8 1 0 3 = some (-2) := by decide +kernel
theorem ev_K_13 : aq_claim 8 0 1 8 = some (-2) := by decide +kernel
theorem ev_K_14 : aq_claim 9 0 1 2 = some (-2) := by decide +kernel
theorem ev_K_15 : aq_claim 10 0 0 0 = some (-2) := by decide +kernel
theorem ev_K_16 : aq_claim 1 3 0 0 = some (-2) := by decide +kernel
theorem ev_K_17 : aq_claim (-1) 0 0 0 = some (-2) := by decide +kernel
theorem ev_K_18 : aq_claim 5 0 1 2 = some 699 := by decide +kernel
theorem ev_K_19 : aq_holds 699 275 = some 1 := by decide +kernel
theorem ev_K_20 : aq_claim 6 0 1 2 = some 834 := by decide +kernel
theorem ev_K_21 : aq_holds 834 275 = some 0 := by decide +kernel
theorem ev_K_22 : aq_claim 7 2 1 0 = some 1057 := by decide +kernel
theorem ev_K_23 : aq_holds 1057 275 = some 0 := by decide +kernel
theorem ev_K_24 : aq_claim 7 2 1 1 = some 1058 := by decide +kernel
theorem ev_K_25 : aq_holds 1058 275 = some 1 := by decide +kernel
theorem ev_K_26 : aq_claim 8 0 2 7 = some 1124 := by decide +kernel
theorem ev_K_27 : aq_holds 1124 275 = some 1 := by decide +kernel
theorem ev_K_28 : aq_claim 9 0 2 1 = some 1253 := by decide +kernel
theorem ev_K_29 : aq_holds 1253 275 = some 1 := by decide +kernel
theorem ev_K_30 : aq_claim 9 0 1 1 = some 1238 := by decide +kernel
theorem ev_K_31 : aq_holds 1238 275 = some 0 := by decide +kernel
theorem ev_K_32 : aq_claim 3 2 0 3 = some 505 := by decide +kernel
theorem ev_K_33 : aq_holds 505 275 = some 1 := by decide +kernel
theorem ev_K_34 : aq_claim 4 2 0 4 = some 641 := by decide +kernel
theorem ev_K_35 : aq_holds 641 275 = some 0 := by decide +kernel
theorem ev_K_36 : aq_claim 2 1 0 2 = some 324 := by decide +kernel
theorem ev_K_37 : aq_holds 324 275 = some 0 := by decide +kernel
theorem ev_K_38 : aq_holds 690 56 = some 1 := by decide +kernel
