/-! tables of a fixed run, and its small answers -/
def TC1 : RW := tb [0, 0, 1, 0, 1, 0, 0] [7, 1, 0, 0, 1] [] [0] [0]
def AC1 : AS := (TC1, push A0.2.1 A0.1, A0.2.2)
def TC2 : RW := tb [0, 0, 1, 1, 1, 0, 0] [7, 1, 0, 0, 1] [418, 0, -6, -6, -6] [0] [0]
def AC2 : AS := (TC2, push AC1.2.1 AC1.1, AC1.2.2)
def TC3 : RW := tb [0, 0, 1, 2, 1, 0, 0] [7, 1, 0, 0, 1] [418, 0, -6, -6, -6, 232, 0, -6, -6, -6] [0] [0]
def AC3 : AS := (TC3, push AC2.2.1 AC2.1, AC2.2.2)
def TC4 : RW := tb [0, 0, 1, 3, 1, 0, 0] [7, 1, 0, 0, 1] [418, 0, -6, -6, -6, 232, 0, -6, -6, -6, 1237, 0, -6, -6, -6] [0] [0]
def AC4 : AS := (TC4, push AC3.2.1 AC3.1, AC3.2.2)
def TC5 : RW := tb [0, 0, 1, 4, 1, 0, 0] [7, 1, 0, 0, 1] [418, 0, -6, -6, -6, 232, 0, -6, -6, -6, 1237, 0, -6, -6, -6, 145, 1, 0, -6, -6] [0] [0]
def AC5 : AS := (TC5, push AC4.2.1 AC4.1, AC4.2.2)
def TC6 : RW := tb [0, 0, 1, 4, 4, 1, 0] [7, 1, 0, 0, 1] [418, 0, -6, -6, -6, 232, 0, -6, -6, -6, 1237, 2, 64, 0, -6, 145, 1, 0, -6, -6] [0, 64, 128, 192] [0, 0, 0, 0]
def AC6 : AS := (TC6, push AC5.2.1 AC5.1, AC5.2.2)
def TC7 : RW := tb [0, 0, 1, 4, 4, 2, 0] [7, 1, 0, 0, 1] [418, 0, -6, -6, -6, 232, 0, -6, -6, -6, 1237, 2, 64, 0, -6, 145, 1, 0, -6, -6] [0, 64, 128, 192] [0, 0, 0, 0]
def AC7 : AS := (TC7, push AC6.2.1 AC6.1, AC6.2.2)
def TC8 : RW := tb [0, 0, 1, 4, 4, 2, 1] [7, 1, 0, 0, 1] [418, 3, 384, 0, 1, 232, 0, -6, -6, -6, 1237, 2, 64, 0, -6, 145, 1, 0, -6, -6] [0, 64, 128, 192] [0, 0, 0, 0]
def AC8 : AS := (TC8, push AC7.2.1 AC7.1, AC7.2.2)
def TC9 : RW := tb [0, 0, 1, 4, 4, 2, 1] [7, 1, 0, 0, 1] [418, 3, 384, 0, 1, 232, 0, -6, -6, -6, 1237, 2, 64, 0, -6, 145, 1, 0, -6, -6] [0, 64, 128, 192] [0, 0, 0, 0]
def AC9 : AS := (TC9, push AC8.2.1 AC8.1, AC8.2.2)
def TC10 : RW := tb [0, 0, 1, 4, 4, 2, 1] [7, 1, 0, 0, 1] [418, 3, 384, 0, 1, 232, 0, -6, -6, -6, 1237, 2, 64, 0, -6, 145, 1, 0, -6, -6] [0, 64, 128, 192] [0, 0, 0, 0]
def AC10 : AS := (TC10, push AC9.2.1 AC9.1, AC9.2.2)
def TC11 : RW := tb [0, 0, 1, 5, 4, 2, 1] [7, 1, 0, 0, 1] [418, 3, 384, 0, 1, 232, 0, -6, -6, -6, 1237, 2, 64, 0, -6, 145, 1, 0, -6, -6, 7, 0, -6, -6, -6] [0, 64, 128, 192] [0, 0, 0, 0]
def AC11 : AS := (TC11, push AC10.2.1 AC10.1, AC10.2.2)
def TC12 : RW := tb [0, 0, 1, 7, 4, 2, 1] [7, 1, 0, 0, 1] [418, 3, 384, 0, 1, 232, 0, -6, -6, -6, 1237, 2, 64, 0, -6, 145, 1, 0, -6, -6, 7, 0, -6, -6, -6, 757, 0, -6, -6, -6, 787, 0, -6, -6, -6] [0, 64, 128, 192] [0, 0, 0, 0]
def AC12 : AS := (TC12, push AC11.2.1 AC11.1, AC11.2.2)
def TC13 : RW := tb [0, 0, 1, 7, 4, 2, 1] [7, 1, 0, 0, 1] [418, 3, 384, 0, 1, 232, 0, -6, -6, -6, 1237, 2, 64, 0, -6, 145, 1, 0, -6, -6, 7, 0, -6, -6, -6, 757, 0, -6, -6, -6, 787, 0, -6, -6, -6] [0, 64, 128, 192] [0, 0, 0, 0]
def AC13 : AS := (TC13, push AC12.2.1 AC12.1, AC12.2.2)
def TC14 : RW := tb [0, 0, 1, 8, 4, 2, 1] [7, 1, 0, 0, 1] [418, 3, 384, 0, 1, 232, 0, -6, -6, -6, 1237, 2, 64, 0, -6, 145, 1, 0, -6, -6, 7, 0, -6, -6, -6, 757, 0, -6, -6, -6, 787, 0, -6, -6, -6, 279, 2, 128, 0, -6] [0, 64, 128, 192] [0, 0, 0, 0]
def AC14 : AS := (TC14, push AC13.2.1 AC13.1, AC13.2.2)
def TC15 : RW := tb [0, 1, 1, 8, 1, 0, 0] [7, 1, 0, 0, 1] [418, 0, -6, -6, -6, 232, 0, -6, -6, -6, 1237, 0, -6, -6, -6, 145, 1, 0, -6, -6, 7, 0, -6, -6, -6, 757, 0, -6, -6, -6, 787, 0, -6, -6, -6, 279, 0, -6, -6, -6] [0] [0]
def AC15 : AS := (TC15, push AC14.2.1 AC14.1, AC14.2.2)
def TC16 : RW := tb [0, 1, 0, 8, 1, 0, 0] [] [418, 0, -6, -6, -6, 232, 0, -6, -6, -6, 1237, 0, -6, -6, -6, 145, 1, 0, -6, -6, 7, 0, -6, -6, -6, 757, 0, -6, -6, -6, 787, 0, -6, -6, -6, 279, 0, -6, -6, -6] [0] [0]
def AC16 : AS := (TC16, push AC15.2.1 AC15.1, AC15.2.2)
def TC17 : RW := tb [0, 1, 0, 8, 1, 1, 0] [] [418, 0, -6, -6, -6, 232, 0, -6, -6, -6, 1237, 0, -6, -6, -6, 145, 1, 0, -6, -6, 7, 0, -6, -6, -6, 757, 0, -6, -6, -6, 787, 0, -6, -6, -6, 279, 0, -6, -6, -6] [0] [0]
def AC17 : AS := (TC17, push AC16.2.1 AC16.1, AC16.2.2)
def TC18 : RW := tb [192, 1, 0, 8, 1, 0, 0] [] [418, 0, -6, -6, -6, 232, 0, -6, -6, -6, 1237, 1, 192, -6, -6, 145, 0, -6, -6, -6, 7, 0, -6, -6, -6, 757, 0, -6, -6, -6, 787, 0, -6, -6, -6, 279, 0, -6, -6, -6] [192] [0]
def AC18 : AS := (TC18, push AC17.2.1 AC17.1, AC17.2.2)
def TC19 : RW := tb [192, 1, 1, 8, 1, 0, 0] [7, 2, 0, 1, 0] [418, 0, -6, -6, -6, 232, 0, -6, -6, -6, 1237, 1, 192, -6, -6, 145, 0, -6, -6, -6, 7, 0, -6, -6, -6, 757, 0, -6, -6, -6, 787, 0, -6, -6, -6, 279, 0, -6, -6, -6] [192] [0]
def AC19 : AS := (TC19, push AC18.2.1 AC18.1, AC18.2.2)
def AC20 : AS := (AC19.1, AC19.2.1, upS AC19.2.2.1 1 AC19.1, AC19.2.2.2)
theorem ev_C_7 : chkO (fX11_step A0.1 zR 0 1 7 1 0 0 1) 0 TC1 1 0 1 = true := by decide +kernel
theorem ev_C_8 : aq_leads AC1 0 0 = some 64 := by decide +kernel
theorem ev_C_9 : aq_leads AC1 0 448 = some (-6) := by decide +kernel
theorem ev_C_11 : aq_ofStep AC1 0 4 = some 8 := by decide +kernel
theorem ev_C_13 : chkO (fX11_candidate AC1.1 zR 0 1 418) 0 TC2 1 1 1 = true := by decide +kernel
theorem ev_C_14 : chkO (fX11_candidate AC2.1 zR 0 1 232) 1 TC3 1 2 1 = true := by decide +kernel
theorem ev_C_15 : chkO (fX11_candidate AC3.1 zR 0 1 1237) 2 TC4 1 3 1 = true := by decide +kernel
theorem ev_C_16 : chkV (fX11_candidate AC4.1 zR 0 1 232) (-5) = true := by decide +kernel
theorem ev_C_17 : aq_claim 1 0 0 3 = some 145 := by decide +kernel
theorem ev_C_18 : chkO (fX11_candidate AC4.1 zR 0 1 145) 3 TC5 1 4 1 = true := by decide +kernel
theorem ev_C_19_1 : aq_ofCandidate AC5 3 1 = some 1 := by decide +kernel
theorem ev_C_19_2 : aq_ofCandidate AC5 3 2 = some 0 := by decide +kernel
theorem ev_C_19_3 : aq_ofCandidate AC5 3 3 = some (-6) := by decide +kernel
theorem ev_C_19_4 : aq_ofCandidate AC5 3 4 = some (-6) := by decide +kernel
theorem ev_C_20 : aq_count AC5 2 = some 3 := by decide +kernel
theorem ev_C_21 : chkO (fX11_run AC5.1 zR 0 1 0 3) 3 TC6 1 4 4 = true := by decide +kernel
theorem ev_C_22 : aq_count AC6 3 = some 4 := by decide +kernel
theorem ev_C_23 : aq_count AC6 4 = some 1 := by decide +kernel
theorem ev_C_24_1 : aq_ofCandidate AC6 2 1 = some 2 := by decide +kernel
theorem ev_C_24_2 : aq_ofCandidate AC6 2 2 = some 64 := by decide +kernel
theorem ev_C_24_3 : aq_ofCandidate AC6 2 3 = some 0 := by decide +kernel
theorem ev_C_24_4 : aq_ofCandidate AC6 2 4 = some (-6) := by decide +kernel
theorem ev_C_25_1 : aq_ofCandidate AC6 0 1 = some 0 := by decide +kernel
theorem ev_C_25_2 : aq_ofCandidate AC6 0 2 = some (-6) := by decide +kernel
theorem ev_C_25_3 : aq_ofCandidate AC6 0 3 = some (-6) := by decide +kernel
theorem ev_C_25_4 : aq_ofCandidate AC6 0 4 = some (-6) := by decide +kernel
theorem ev_C_26 : chkO (fX11_run AC6.1 zR 0 1 77 3) 0 TC7 1 4 4 = true := by decide +kernel
theorem ev_C_27 : aq_count AC7 4 = some 2 := by decide +kernel
theorem ev_C_33_1 : aq_ofCandidate AC8 0 1 = some 3 := by decide +kernel
theorem ev_C_33_2 : aq_ofCandidate AC8 0 2 = some 384 := by decide +kernel
theorem ev_C_33_3 : aq_ofCandidate AC8 0 3 = some 0 := by decide +kernel
theorem ev_C_33_4 : aq_ofCandidate AC8 0 4 = some 1 := by decide +kernel
theorem ev_C_34 : aq_count AC8 5 = some 1 := by decide +kernel
theorem ev_C_36 : aq_count AC9 5 = some 1 := by decide +kernel
theorem ev_C_40 : aq_claim 1 1 0 0 = some 187 := by decide +kernel
theorem ev_C_49 : chkO (fX11_candidate AC10.1 zR 0 1 7) 4 TC11 1 5 4 = true := by decide +kernel
theorem ev_C_56 : chkO (fX11_guess AC11.1 zR 0 1 5) 2 TC12 1 7 4 = true := by decide +kernel
theorem ev_C_57 : aq_ofCandidate AC12 5 0 = some 757 := by decide +kernel
theorem ev_C_58 : aq_ofCandidate AC12 6 0 = some 787 := by decide +kernel
theorem ev_C_59 : chkO (fX11_guess AC12.1 zR 0 1 5) 0 TC13 1 7 4 = true := by decide +kernel
theorem ev_C_60 : aq_claim 2 0 0 2 = some 279 := by decide +kernel
theorem ev_C_61 : chkO (fX11_candidate AC13.1 zR 0 1 279) 7 TC14 1 8 4 = true := by decide +kernel
theorem ev_C_62_1 : aq_ofCandidate AC14 7 1 = some 2 := by decide +kernel
theorem ev_C_62_2 : aq_ofCandidate AC14 7 2 = some 128 := by decide +kernel
theorem ev_C_62_3 : aq_ofCandidate AC14 7 3 = some 0 := by decide +kernel
theorem ev_C_62_4 : aq_ofCandidate AC14 7 4 = some (-6) := by decide +kernel
theorem ev_C_64 : chkO (fX11_wrap AC14.1 zR 0 1 1) 0 TC15 1 8 1 = true := by decide +kernel
theorem ev_C_65 : aq_leads AC15 0 448 = some 0 := by decide +kernel
theorem ev_C_66 : aq_count AC15 3 = some 1 := by decide +kernel
theorem ev_C_67 : aq_count AC15 4 = some 0 := by decide +kernel
theorem ev_C_68 : aq_count AC15 5 = some 0 := by decide +kernel
theorem ev_C_69_1 : aq_ofCandidate AC15 0 1 = some 0 := by decide +kernel
theorem ev_C_69_2 : aq_ofCandidate AC15 0 2 = some (-6) := by decide +kernel
theorem ev_C_69_3 : aq_ofCandidate AC15 0 3 = some (-6) := by decide +kernel
theorem ev_C_69_4 : aq_ofCandidate AC15 0 4 = some (-6) := by decide +kernel
theorem ev_C_70_1 : aq_ofCandidate AC15 3 1 = some 1 := by decide +kernel
theorem ev_C_70_2 : aq_ofCandidate AC15 3 2 = some 0 := by decide +kernel
theorem ev_C_70_3 : aq_ofCandidate AC15 3 3 = some (-6) := by decide +kernel
theorem ev_C_70_4 : aq_ofCandidate AC15 3 4 = some (-6) := by decide +kernel
theorem ev_C_71 : chkO (fX11_drop AC15.1 zR 0 1 0) 0 TC16 0 8 1 = true := by decide +kernel
theorem ev_C_72 : chkO (fX11_run AC16.1 zR 0 1 5 9) 0 TC17 0 8 1 = true := by decide +kernel
theorem ev_C_73 : aq_count AC17 4 = some 1 := by decide +kernel
theorem ev_C_74 : chkO (fX11_start AC17.1 zR 0 1 3 0 0) 0 TC18 0 8 1 = true := by decide +kernel
theorem ev_C_75_1 : aq_ofCandidate AC18 2 1 = some 1 := by decide +kernel
theorem ev_C_75_2 : aq_ofCandidate AC18 2 2 = some 192 := by decide +kernel
theorem ev_C_75_3 : aq_ofCandidate AC18 2 3 = some (-6) := by decide +kernel
theorem ev_C_75_4 : aq_ofCandidate AC18 2 4 = some (-6) := by decide +kernel
theorem ev_C_76_1 : aq_ofCandidate AC18 3 1 = some 0 := by decide +kernel
theorem ev_C_76_2 : aq_ofCandidate AC18 3 2 = some (-6) := by decide +kernel
theorem ev_C_76_3 : aq_ofCandidate AC18 3 3 = some (-6) := by decide +kernel
theorem ev_C_76_4 : aq_ofCandidate AC18 3 4 = some (-6) := by decide +kernel
theorem ev_C_77 : chkO (fX11_step AC18.1 zR 0 1 7 2 0 1 0) 0 TC19 1 8 1 = true := by decide +kernel
theorem ev_C_78 : aq_leads AC19 0 192 = some 24 := by decide +kernel
theorem ev_C_79 : aq_leads AC19 0 511 = some 511 := by decide +kernel
theorem ev_C_81 : aq_st AC19.1 = some 7 := by decide +kernel
theorem ev_C_82 : aq_count AC20 2 = some 7 := by decide +kernel
