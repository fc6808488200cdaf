/-! tables of a fixed run, and its small answers -/
def AR1 : AS := (A0.1, A0.2.1, A0.2.2.1, [115, 42, 58, 97, 61, 97, 43, 49])
def AR2 : AS := (AR1.1, AR1.2.1, AR1.2.2.1, [115, 42, 58, 97, 61, 97, 43, 49, 59, 99, 97, 60, 54, 59, 99, 99])
def AR3 : AS := (AR2.1, AR2.2.1, AR2.2.2.1, [115, 42, 58, 97, 61, 97, 43, 49, 59, 99, 97, 60, 54, 59, 99, 99, 61, 48, 59, 99, 97, 37, 98, 48])
def AR4 : AS := (AR3.1, AR3.2.1, AR3.2.2.1, [115, 42, 58, 97, 61, 97, 43, 49, 59, 99, 97, 60, 54, 59, 99, 99, 61, 48, 59, 99, 97, 37, 98, 48, 59, 114, 48, 42, 51, 59, 107])
def TR5 : RW := tb [0, 0, 1, 3, 4, 1, 1] [7, 1, 0, 0, 1] [418, 3, 384, 0, 1, 232, 0, -6, -6, -6, 1237, 2, 64, 0, -6] [0, 64, 128, 192] [0, 0, 0, 0]
def AR5 : AS := (TR5, push AR4.2.1 AR4.1, AR4.2.2.1, [])
def AR6 : AS := (AR5.1, AR5.2.1, AR5.2.2.1, [99, 97, 61, 97, 59, 107])
def TR7 : RW := tb [0, 0, 1, 3, 4, 1, 1] [7, 1, 0, 0, 1] [418, 3, 384, 0, 1, 232, 0, -6, -6, -6, 1237, 2, 64, 0, -6] [0, 64, 128, 192] [0, 0, 0, 0]
def AR7 : AS := (TR7, push AR6.2.1 AR6.1, AR6.2.2.1, [])
def AR8 : AS := (AR7.1, AR7.2.1, AR7.2.2.1, [114, 48, 42, 48, 59, 107])
def TR9 : RW := tb [0, 0, 1, 3, 4, 1, 1] [7, 1, 0, 0, 1] [418, 3, 384, 0, 1, 232, 0, -6, -6, -6, 1237, 2, 64, 0, -6] [0, 64, 128, 192] [0, 0, 0, 0]
def AR9 : AS := (TR9, push AR8.2.1 AR8.1, AR8.2.2.1, [])
def AR10 : AS := (AR9.1, AR9.2.1, AR9.2.2.1, [115, 98, 62, 50, 58, 99, 126, 97])
def TR11 : RW := tb [0, 0, 2, 3, 1, 0, 0] [7, 1, 0, 0, 1, 594, 2, 2, 0, 0] [418, 0, -6, -6, -6, 232, 0, -6, -6, -6, 1237, 0, -6, -6, -6] [0] [0]
def AR11 : AS := (TR11, push AR10.2.1 AR10.1, AR10.2.2.1, [])
def AR12 : AS := (AR11.1, AR11.2.1, AR11.2.2.1, [99, 98, 33, 97, 45, 49, 59])
def AR13 : AS := (AR12.1, AR12.2.1, AR12.2.2.1, [99, 98, 33, 97, 45, 49, 59, 99, 42])
def TR14 : RW := tb [0, 0, 2, 5, 1, 0, 0] [7, 1, 0, 0, 1, 594, 2, 2, 0, 0] [418, 0, -6, -6, -6, 232, 0, -6, -6, -6, 1237, 0, -6, -6, -6, 861, 0, -6, -6, -6, 7, 0, -6, -6, -6] [0] [0]
def AR14 : AS := (TR14, push AR13.2.1 AR13.1, AR13.2.2.1, [])
def AR15 : AS := (AR14.1, AR14.2.1, AR14.2.2.1, [107, 59])
def AR16 : AS := (AR15.1, AR15.2.1, AR15.2.2.1, [])
def AR17 : AS := (AR16.1, AR16.2.1, AR16.2.2.1, List.replicate 80 107)
def AR18 : AS := (AR17.1, AR17.2.1, AR17.2.2.1, [])
def AR19 : AS := (AR13.1, AR13.2.1, AR18.2.2)
theorem ev_R_1 : chkP (fX11_put (pad A0.2.2.2) (nI A0.2.2.2.length) 8298509452699577137) 8 [115, 42, 58, 97, 61, 97, 43, 49] = true := by decide +kernel
theorem ev_R_2 : chkP (fX11_put (pad AR1.2.2.2) (nI AR1.2.2.2.length) 4279370982167896931) 16 [115, 42, 58, 97, 61, 97, 43, 49, 59, 99, 97, 60, 54, 59, 99, 99] = true := by decide +kernel
theorem ev_R_3 : chkP (fX11_put (pad AR2.2.2.2) (nI AR2.2.2.2.length) 4409089333213356592) 24 [115, 42, 58, 97, 61, 97, 43, 49, 59, 99, 97, 60, 54, 59, 99, 99, 61, 48, 59, 99, 97, 37, 98, 48] = true := by decide +kernel
theorem ev_R_4 : chkP (fX11_put (pad AR3.2.2.2) (nI AR3.2.2.2.length) 16732574817925995) 31 [115, 42, 58, 97, 61, 97, 43, 49, 59, 99, 97, 60, 54, 59, 99, 99, 61, 48, 59, 99, 97, 37, 98, 48, 59, 114, 48, 42, 51, 59, 107] = true := by decide +kernel
theorem ev_R_5 : aq_count AR4 11 = some 31 := by decide +kernel
theorem ev_R_7 : aq_count AR5 11 = some 0 := by decide +kernel
theorem ev_R_8 : aq_count AR5 12 = some 1 := by decide +kernel
theorem ev_R_9 : aq_count AR5 0 = some 1 := by decide +kernel
theorem ev_R_10 : aq_count AR5 1 = some 3 := by decide +kernel
theorem ev_R_11_1 : aq_ofCandidate AR5 0 1 = some 3 := by decide +kernel
theorem ev_R_11_2 : aq_ofCandidate AR5 0 2 = some 384 := by decide +kernel
theorem ev_R_11_3 : aq_ofCandidate AR5 0 3 = some 0 := by decide +kernel
theorem ev_R_11_4 : aq_ofCandidate AR5 0 4 = some 1 := by decide +kernel
theorem ev_R_12 : aq_ofCandidate AR5 0 0 = some 418 := by decide +kernel
theorem ev_R_13 : aq_ofCandidate AR5 1 0 = some 232 := by decide +kernel
theorem ev_R_14_1 : aq_ofCandidate AR5 2 1 = some 2 := by decide +kernel
theorem ev_R_14_2 : aq_ofCandidate AR5 2 2 = some 64 := by decide +kernel
theorem ev_R_14_3 : aq_ofCandidate AR5 2 3 = some 0 := by decide +kernel
theorem ev_R_14_4 : aq_ofCandidate AR5 2 4 = some (-6) := by decide +kernel
theorem ev_R_15 : chkP (fX11_put (pad AR5.2.2.2) (nI AR5.2.2.2.length) 109269292759915) 6 [99, 97, 61, 97, 59, 107] = true := by decide +kernel
theorem ev_R_17 : aq_count AR7 12 = some 2 := by decide +kernel
theorem ev_R_18 : chkP (fX11_put (pad AR7.2.2.2) (nI AR7.2.2.2.length) 125551191800683) 6 [114, 48, 42, 48, 59, 107] = true := by decide +kernel
theorem ev_R_20 : aq_count AR9 12 = some 3 := by decide +kernel
theorem ev_R_21 : chkP (fX11_put (pad AR9.2.2.2) (nI AR9.2.2.2.length) 8314276247528242785) 8 [115, 98, 62, 50, 58, 99, 126, 97] = true := by decide +kernel
theorem ev_R_23 : aq_ofStep AR11 1 0 = some 594 := by decide +kernel
theorem ev_R_24 : aq_claim 4 1 0 2 = some 594 := by decide +kernel
theorem ev_R_25 : aq_ofStep AR11 1 1 = some 2 := by decide +kernel
theorem ev_R_26 : aq_ofStep AR11 1 2 = some 2 := by decide +kernel
theorem ev_R_27 : aq_ofStep AR11 1 3 = some 0 := by decide +kernel
theorem ev_R_28 : aq_ofStep AR11 1 4 = some 7 := by decide +kernel
theorem ev_R_29 : chkP (fX11_put (pad AR11.2.2.2) (nI AR11.2.2.2.length) 27973918198149435) 7 [99, 98, 33, 97, 45, 49, 59] = true := by decide +kernel
theorem ev_R_30 : chkP (fX11_put (pad AR12.2.2.2) (nI AR12.2.2.2.length) 25386) 9 [99, 98, 33, 97, 45, 49, 59, 99, 42] = true := by decide +kernel
theorem ev_R_32 : aq_ofCandidate AR14 3 0 = some 861 := by decide +kernel
theorem ev_R_33 : aq_claim 6 1 0 (-1) = some 861 := by decide +kernel
theorem ev_R_34 : chkP (fX11_put (pad AR14.2.2.2) (nI AR14.2.2.2.length) 27451) 2 [107, 59] = true := by decide +kernel
theorem ev_R_35 : aq_fault AR15.2.2.2 = some 2 := by decide +kernel
theorem ev_R_36 : aq_count AR15 11 = some 2 := by decide +kernel
theorem ev_R_39 : chkP (fX11_put (pad AR17.2.2.2) (nI AR17.2.2.2.length) 107) (-4) AR17.2.2.2 = true := by decide +kernel
theorem ev_R_42 : aq_count AR19 1 = some 3 := by decide +kernel
