def rmL_codes : Room := { frames := 7, cells := 187, slots := 8998, locals := 146 }
set_option maxRecDepth 100000 in
def fL_codes  : Option (Int32) :=
  bd newC fun y_4 : CS => bd (oC_claim y_4 (0 : Int32) (0 : Int32) (0 : Int32) (0 : Int32)) fun y_13 : Int32 × CS => if y_13.1 = (7 : Int32) then bd (oC_claim y_13.2 (1 : Int32) (2 : Int32) (0 : Int32) (5 : Int32)) fun y_26 : Int32 × CS => if y_26.1 = (237 : Int32) then bd (oC_claim y_26.2 (5 : Int32) (0 : Int32) (1 : Int32) (-7 : Int32)) fun y_41 : Int32 × CS => if y_41.1 = (690 : Int32) then bd (oC_claim y_41.2 (9 : Int32) (1 : Int32) (2 : Int32) (1 : Int32)) fun y_56 : Int32 × CS => if y_56.1 = (1298 : Int32) then bd (oC_claim y_56.2 (0 : Int32) (1 : Int32) (0 : Int32) (0 : Int32)) fun y_70 : Int32 × CS => if y_70.1 = (-2 : Int32) then bd (oC_claim y_70.2 (0 : Int32) (0 : Int32) (0 : Int32) (1 : Int32)) fun y_83 : Int32 × CS => if y_83.1 = (-2 : Int32) then bd (oC_claim y_83.2 (1 : Int32) (0 : Int32) (1 : Int32) (0 : Int32)) fun y_96 : Int32 × CS => if y_96.1 = (-2 : Int32) then bd (oC_claim y_96.2 (1 : Int32) (0 : Int32) (0 : Int32) (8 : Int32)) fun y_110 : Int32 × CS => if y_110.1 = (-2 : Int32) then bd (oC_claim y_110.2 (4 : Int32) (0 : Int32) (0 : Int32) (-1 : Int32)) fun y_123 : Int32 × CS => if y_123.1 = (-2 : Int32) then bd (oC_claim y_123.2 (5 : Int32) (1 : Int32) (1 : Int32) (0 : Int32)) fun y_136 : Int32 × CS => if y_136.1 = (-2 : Int32) then bd (oC_claim y_136.2 (7 : Int32) (0 : Int32) (1 : Int32) (8 : Int32)) fun y_151 : Int32 × CS => if y_151.1 = (-2 : Int32) then bd (oC_claim y_151.2 (8 : Int32) (1 : Int32) (0 : Int32) (3 : Int32)) fun y_165 : Int32 × CS => if y_165.1 = (-2 : Int32) then bd (oC_claim y_165.2 (8 : Int32) (0 : Int32) (1 : Int32) (8 : Int32)) fun y_180 : Int32 × CS => if y_180.1 = (-2 : Int32) then bd (oC_claim y_180.2 (9 : Int32) (0 : Int32) (1 : Int32) (2 : Int32)) fun y_194 : Int32 × CS => if y_194.1 = (-2 : Int32) then bd (oC_claim y_194.2 (10 : Int32) (0 : Int32) (0 : Int32) (0 : Int32)) fun y_208 : Int32 × CS => if y_208.1 = (-2 : Int32) then bd (oC_claim y_208.2 (1 : Int32) (3 : Int32) (0 : Int32) (0 : Int32)) fun y_221 : Int32 × CS => if y_221.1 = (-2 : Int32) then bd (oC_claim y_221.2 (-1 : Int32) (0 : Int32) (0 : Int32) (0 : Int32)) fun y_234 : Int32 × CS => if y_234.1 = (-2 : Int32) then bd (oC_claim y_234.2 (5 : Int32) (0 : Int32) (1 : Int32) (2 : Int32)) fun y_250 : Int32 × CS => bd (oC_holds y_250.2 y_250.1 (275 : Int32)) fun y_256 : Int32 × CS => if y_256.1 = (1 : Int32) then bd (oC_claim y_256.2 (6 : Int32) (0 : Int32) (1 : Int32) (2 : Int32)) fun y_270 : Int32 × CS => bd (oC_holds y_270.2 y_270.1 (275 : Int32)) fun y_276 : Int32 × CS => if y_276.1 = 0 then bd (oC_claim y_276.2 (7 : Int32) (2 : Int32) (1 : Int32) (0 : Int32)) fun y_289 : Int32 × CS => bd (oC_holds y_289.2 y_289.1 (275 : Int32)) fun y_295 : Int32 × CS => if y_295.1 = 0 then bd (oC_claim y_295.2 (7 : Int32) (2 : Int32) (1 : Int32) (1 : Int32)) fun y_308 : Int32 × CS => bd (oC_holds y_308.2 y_308.1 (275 : Int32)) fun y_314 : Int32 × CS => if y_314.1 = (1 : Int32) then bd (oC_claim y_314.2 (8 : Int32) (0 : Int32) (2 : Int32) (7 : Int32)) fun y_329 : Int32 × CS => bd (oC_holds y_329.2 y_329.1 (275 : Int32)) fun y_335 : Int32 × CS => if y_335.1 = (1 : Int32) then bd (oC_claim y_335.2 (9 : Int32) (0 : Int32) (2 : Int32) (1 : Int32)) fun y_349 : Int32 × CS => bd (oC_holds y_349.2 y_349.1 (275 : Int32)) fun y_355 : Int32 × CS => if y_355.1 = (1 : Int32) then bd (oC_claim y_355.2 (9 : Int32) (0 : Int32) (1 : Int32) (1 : Int32)) fun y_369 : Int32 × CS => bd (oC_holds y_369.2 y_369.1 (275 : Int32)) fun y_375 : Int32 × CS => if y_375.1 = 0 then bd (oC_claim y_375.2 (3 : Int32) (2 : Int32) (0 : Int32) (3 : Int32)) fun y_387 : Int32 × CS => bd (oC_holds y_387.2 y_387.1 (275 : Int32)) fun y_393 : Int32 × CS => if y_393.1 = (1 : Int32) then bd (oC_claim y_393.2 (4 : Int32) (2 : Int32) (0 : Int32) (4 : Int32)) fun y_406 : Int32 × CS => bd (oC_holds y_406.2 y_406.1 (275 : Int32)) fun y_412 : Int32 × CS => if y_412.1 = 0 then bd (oC_claim y_412.2 (2 : Int32) (1 : Int32) (0 : Int32) (2 : Int32)) fun y_424 : Int32 × CS => bd (oC_holds y_424.2 y_424.1 (275 : Int32)) fun y_430 : Int32 × CS => if y_430.1 = 0 then bd (oC_holds y_430.2 (690 : Int32) (56 : Int32)) fun y_442 : Int32 × CS => if y_442.1 = (1 : Int32) then some (1 : Int32) else some (0 : Int32) else some (0 : Int32) else some (0 : Int32) else some (0 : Int32) else some (0 : Int32) else some (0 : Int32) else some (0 : Int32) else some (0 : Int32) else some (0 : Int32) else some (0 : Int32) else some (0 : Int32) else some (0 : Int32) else some (0 : Int32) else some (0 : Int32) else some (0 : Int32) else some (0 : Int32) else some (0 : Int32) else some (0 : Int32) else some (0 : Int32) else some (0 : Int32) else some (0 : Int32) else some (0 : Int32) else some (0 : Int32) else some (0 : Int32) else some (0 : Int32) else some (0 : Int32) else some (0 : Int32) else some (0 : Int32)
set_option maxRecDepth 100000 in
set_option maxHeartbeats 4000000 in
theorem eL_codes (x : GX) (C : GC x cL_codes RL rmL_codes) (N : xn x = 1)  (o : Int32) (E : GE x (some .boolean) 187 8998 (fun zv _ => zv = some ((.int o)))) (hf : fL_codes  = some o)  : GW x 0 0 [] [] 0 [] := by
  unfold fL_codes at hf
  obtain ⟨y_4, h_4, hf⟩ := k_bd hf
  obtain ⟨ob, h0, h1⟩ := k_bd h_4
  cases h1
  refine g_new C (pc := 0) lWL_14 [.null, .null, .null, .null, .null, .null, .null] (fun j hj => by rcases (show j = 0 ∨ j = 1 ∨ j = 2 ∨ j = 3 ∨ j = 4 ∨ j = 5 ∨ j = 6 by omega) with rfl | rfl | rfl | rfl | rfl | rfl | rfl <;> rfl) ⟨Nat.le_of_ble_eq_true rfl, Nat.le_of_ble_eq_true rfl⟩ dL_codes_0 (fun qk => ?_)
  refine g_dup C (pc := 3) dL_codes_3 rfl ?_
  refine g_callJ C (pc := 4) (b := qk) (As := []) (rest := [.ref qk]) (wr := []) (wc := [newT qk]) lkX10_init lIL_100 (cX10_init_k (xl x) (xD x) (xy x) qk ob h0) rfl ⟨⟨Nat.le_of_ble_eq_true rfl, Nat.le_of_ble_eq_true rfl⟩, ⟨rfl, rfl⟩, ⟨Nat.le_of_ble_eq_true rfl, Nat.le_of_ble_eq_true rfl⟩⟩ rfl (Nat.le_of_ble_eq_true rfl) dL_codes_4 rfl (fun zv zw hw => ?_)
  obtain ⟨rfl, ta, kf, sf, zQ, zS, rfl, hk, hs, hw⟩ := hw
  refine g_perm (ws' := tkw (xy x) ta kf sf zQ zS (C0 ob)) hw ?_
  refine g_nil ?_
  show GW x 187 8998 (tkw (xy x) ta kf sf zQ zS (C0 ob) ++ []) _ 7 [.ref ta.1]
  refine g_astore_n C (pc := 7) (lo' := [(0, .ref ta.1)]) dL_codes_7 rfl N rfl rfl ?_
  refine g_aload_n C (pc := 8) 0 dL_codes_8 rfl rfl ?_
  refine g_iconst C (pc := 9) dL_codes_9 ck_iconst_0 ?_
  refine g_iconst C (pc := 10) dL_codes_10 ck_iconst_0 ?_
  refine g_iconst C (pc := 11) dL_codes_11 ck_iconst_0 ?_
  refine g_iconst C (pc := 12) dL_codes_12 ck_iconst_0 ?_
  obtain ⟨y_13, h_13, hf⟩ := k_bd hf
  refine g_callO C (pc := 13) (As := [.int (0 : Int32), .int (0 : Int32), .int (0 : Int32), .int (0 : Int32)]) (rest := []) (v1 := .int y_13.1) (c' := y_13.2) (st' := [.int y_13.1]) lkX10_claim lVL_101 (kC_claim (xl x) (xD x) (xy x) ta kf sf zQ zS (C0 ob) (0 : Int32) (0 : Int32) (0 : Int32) (0 : Int32) y_13 hk hs h_13) rfl ⟨⟨Nat.le_of_ble_eq_true rfl, Nat.le_of_ble_eq_true rfl⟩, ⟨rfl, rfl⟩, ⟨Nat.le_of_ble_eq_true rfl, Nat.le_of_ble_eq_true rfl⟩⟩ rfl rfl (Nat.le_of_ble_eq_true rfl) rfl dL_codes_13 (fun kf_13 zQ_13 hk_13 => ?_)
  refine g_bipush C (pc := 16) dL_codes_16 ck_bipush_7 ?_
  refine g_icmp_ne C (pc := 18) 242 dL_codes_18 (by decide) (fun c_18 => ?_) (fun c_18 => ?_)
  · replace hf := (k_if hf).2 c_18
    refine g_iconst C (pc := 242) dL_codes_242 ck_iconst_0 ?_
    cases hf
    exact g_wid (Nat.le_of_ble_eq_true rfl) (Nat.le_of_ble_eq_true rfl) (g_zret C E rfl (pc := 243) dL_codes_243 rfl)
  · replace hf := (k_if hf).1 c_18
    refine g_aload_n C (pc := 21) 0 dL_codes_21 rfl rfl ?_
    refine g_iconst C (pc := 22) dL_codes_22 ck_iconst_1 ?_
    refine g_iconst C (pc := 23) dL_codes_23 ck_iconst_2 ?_
    refine g_iconst C (pc := 24) dL_codes_24 ck_iconst_0 ?_
    refine g_iconst C (pc := 25) dL_codes_25 ck_iconst_5 ?_
    obtain ⟨y_26, h_26, hf⟩ := k_bd hf
    refine g_callO C (pc := 26) (As := [.int (1 : Int32), .int (2 : Int32), .int (0 : Int32), .int (5 : Int32)]) (rest := []) (v1 := .int y_26.1) (c' := y_26.2) (st' := [.int y_26.1]) lkX10_claim lVL_101 (kC_claim (xl x) (xD x) (xy x) ta kf_13 sf zQ_13 zS y_13.2 (1 : Int32) (2 : Int32) (0 : Int32) (5 : Int32) y_26 hk_13 hs h_26) rfl ⟨⟨Nat.le_of_ble_eq_true rfl, Nat.le_of_ble_eq_true rfl⟩, ⟨rfl, rfl⟩, ⟨Nat.le_of_ble_eq_true rfl, Nat.le_of_ble_eq_true rfl⟩⟩ rfl rfl (Nat.le_of_ble_eq_true rfl) rfl dL_codes_26 (fun kf_26 zQ_26 hk_26 => ?_)
    refine g_sipush C (pc := 29) dL_codes_29 ck_sipush_237 ?_
    refine g_icmp_ne C (pc := 32) 242 dL_codes_32 (by decide) (fun c_32 => ?_) (fun c_32 => ?_)
    · replace hf := (k_if hf).2 c_32
      refine g_iconst C (pc := 242) dL_codes_242 ck_iconst_0 ?_
      cases hf
      exact g_wid (Nat.le_of_ble_eq_true rfl) (Nat.le_of_ble_eq_true rfl) (g_zret C E rfl (pc := 243) dL_codes_243 rfl)
    · replace hf := (k_if hf).1 c_32
      refine g_aload_n C (pc := 35) 0 dL_codes_35 rfl rfl ?_
      refine g_iconst C (pc := 36) dL_codes_36 ck_iconst_5 ?_
      refine g_iconst C (pc := 37) dL_codes_37 ck_iconst_0 ?_
      refine g_iconst C (pc := 38) dL_codes_38 ck_iconst_1 ?_
      refine g_bipush C (pc := 39) dL_codes_39 ck_bipush_m7 ?_
      obtain ⟨y_41, h_41, hf⟩ := k_bd hf
      refine g_callO C (pc := 41) (As := [.int (5 : Int32), .int (0 : Int32), .int (1 : Int32), .int (-7 : Int32)]) (rest := []) (v1 := .int y_41.1) (c' := y_41.2) (st' := [.int y_41.1]) lkX10_claim lVL_101 (kC_claim (xl x) (xD x) (xy x) ta kf_26 sf zQ_26 zS y_26.2 (5 : Int32) (0 : Int32) (1 : Int32) (-7 : Int32) y_41 hk_26 hs h_41) rfl ⟨⟨Nat.le_of_ble_eq_true rfl, Nat.le_of_ble_eq_true rfl⟩, ⟨rfl, rfl⟩, ⟨Nat.le_of_ble_eq_true rfl, Nat.le_of_ble_eq_true rfl⟩⟩ rfl rfl (Nat.le_of_ble_eq_true rfl) rfl dL_codes_41 (fun kf_41 zQ_41 hk_41 => ?_)
      refine g_sipush C (pc := 44) dL_codes_44 ck_sipush_690 ?_
      refine g_icmp_ne C (pc := 47) 242 dL_codes_47 (by decide) (fun c_47 => ?_) (fun c_47 => ?_)
      · replace hf := (k_if hf).2 c_47
        refine g_iconst C (pc := 242) dL_codes_242 ck_iconst_0 ?_
        cases hf
        exact g_wid (Nat.le_of_ble_eq_true rfl) (Nat.le_of_ble_eq_true rfl) (g_zret C E rfl (pc := 243) dL_codes_243 rfl)
      · replace hf := (k_if hf).1 c_47
        refine g_aload_n C (pc := 50) 0 dL_codes_50 rfl rfl ?_
        refine g_bipush C (pc := 51) dL_codes_51 ck_bipush_9 ?_
        refine g_iconst C (pc := 53) dL_codes_53 ck_iconst_1 ?_
        refine g_iconst C (pc := 54) dL_codes_54 ck_iconst_2 ?_
        refine g_iconst C (pc := 55) dL_codes_55 ck_iconst_1 ?_
        obtain ⟨y_56, h_56, hf⟩ := k_bd hf
        refine g_callO C (pc := 56) (As := [.int (9 : Int32), .int (1 : Int32), .int (2 : Int32), .int (1 : Int32)]) (rest := []) (v1 := .int y_56.1) (c' := y_56.2) (st' := [.int y_56.1]) lkX10_claim lVL_101 (kC_claim (xl x) (xD x) (xy x) ta kf_41 sf zQ_41 zS y_41.2 (9 : Int32) (1 : Int32) (2 : Int32) (1 : Int32) y_56 hk_41 hs h_56) rfl ⟨⟨Nat.le_of_ble_eq_true rfl, Nat.le_of_ble_eq_true rfl⟩, ⟨rfl, rfl⟩, ⟨Nat.le_of_ble_eq_true rfl, Nat.le_of_ble_eq_true rfl⟩⟩ rfl rfl (Nat.le_of_ble_eq_true rfl) rfl dL_codes_56 (fun kf_56 zQ_56 hk_56 => ?_)
        refine g_sipush C (pc := 59) dL_codes_59 ck_sipush_1298 ?_
        refine g_icmp_ne C (pc := 62) 242 dL_codes_62 (by decide) (fun c_62 => ?_) (fun c_62 => ?_)
        · replace hf := (k_if hf).2 c_62
          refine g_iconst C (pc := 242) dL_codes_242 ck_iconst_0 ?_
          cases hf
          exact g_wid (Nat.le_of_ble_eq_true rfl) (Nat.le_of_ble_eq_true rfl) (g_zret C E rfl (pc := 243) dL_codes_243 rfl)
        · replace hf := (k_if hf).1 c_62
          refine g_aload_n C (pc := 65) 0 dL_codes_65 rfl rfl ?_
          refine g_iconst C (pc := 66) dL_codes_66 ck_iconst_0 ?_
          refine g_iconst C (pc := 67) dL_codes_67 ck_iconst_1 ?_
          refine g_iconst C (pc := 68) dL_codes_68 ck_iconst_0 ?_
          refine g_iconst C (pc := 69) dL_codes_69 ck_iconst_0 ?_
          obtain ⟨y_70, h_70, hf⟩ := k_bd hf
          refine g_callO C (pc := 70) (As := [.int (0 : Int32), .int (1 : Int32), .int (0 : Int32), .int (0 : Int32)]) (rest := []) (v1 := .int y_70.1) (c' := y_70.2) (st' := [.int y_70.1]) lkX10_claim lVL_101 (kC_claim (xl x) (xD x) (xy x) ta kf_56 sf zQ_56 zS y_56.2 (0 : Int32) (1 : Int32) (0 : Int32) (0 : Int32) y_70 hk_56 hs h_70) rfl ⟨⟨Nat.le_of_ble_eq_true rfl, Nat.le_of_ble_eq_true rfl⟩, ⟨rfl, rfl⟩, ⟨Nat.le_of_ble_eq_true rfl, Nat.le_of_ble_eq_true rfl⟩⟩ rfl rfl (Nat.le_of_ble_eq_true rfl) rfl dL_codes_70 (fun kf_70 zQ_70 hk_70 => ?_)
          refine g_bipush C (pc := 73) dL_codes_73 ck_bipush_m2 ?_
          refine g_icmp_ne C (pc := 75) 242 dL_codes_75 (by decide) (fun c_75 => ?_) (fun c_75 => ?_)
          · replace hf := (k_if hf).2 c_75
            refine g_iconst C (pc := 242) dL_codes_242 ck_iconst_0 ?_
            cases hf
            exact g_wid (Nat.le_of_ble_eq_true rfl) (Nat.le_of_ble_eq_true rfl) (g_zret C E rfl (pc := 243) dL_codes_243 rfl)
          · replace hf := (k_if hf).1 c_75
            refine g_aload_n C (pc := 78) 0 dL_codes_78 rfl rfl ?_
            refine g_iconst C (pc := 79) dL_codes_79 ck_iconst_0 ?_
            refine g_iconst C (pc := 80) dL_codes_80 ck_iconst_0 ?_
            refine g_iconst C (pc := 81) dL_codes_81 ck_iconst_0 ?_
            refine g_iconst C (pc := 82) dL_codes_82 ck_iconst_1 ?_
            obtain ⟨y_83, h_83, hf⟩ := k_bd hf
            refine g_callO C (pc := 83) (As := [.int (0 : Int32), .int (0 : Int32), .int (0 : Int32), .int (1 : Int32)]) (rest := []) (v1 := .int y_83.1) (c' := y_83.2) (st' := [.int y_83.1]) lkX10_claim lVL_101 (kC_claim (xl x) (xD x) (xy x) ta kf_70 sf zQ_70 zS y_70.2 (0 : Int32) (0 : Int32) (0 : Int32) (1 : Int32) y_83 hk_70 hs h_83) rfl ⟨⟨Nat.le_of_ble_eq_true rfl, Nat.le_of_ble_eq_true rfl⟩, ⟨rfl, rfl⟩, ⟨Nat.le_of_ble_eq_true rfl, Nat.le_of_ble_eq_true rfl⟩⟩ rfl rfl (Nat.le_of_ble_eq_true rfl) rfl dL_codes_83 (fun kf_83 zQ_83 hk_83 => ?_)
            refine g_bipush C (pc := 86) dL_codes_86 ck_bipush_m2 ?_
            refine g_icmp_ne C (pc := 88) 242 dL_codes_88 (by decide) (fun c_88 => ?_) (fun c_88 => ?_)
            · replace hf := (k_if hf).2 c_88
              refine g_iconst C (pc := 242) dL_codes_242 ck_iconst_0 ?_
              cases hf
              exact g_wid (Nat.le_of_ble_eq_true rfl) (Nat.le_of_ble_eq_true rfl) (g_zret C E rfl (pc := 243) dL_codes_243 rfl)
            · replace hf := (k_if hf).1 c_88
              refine g_aload_n C (pc := 91) 0 dL_codes_91 rfl rfl ?_
              refine g_iconst C (pc := 92) dL_codes_92 ck_iconst_1 ?_
              refine g_iconst C (pc := 93) dL_codes_93 ck_iconst_0 ?_
              refine g_iconst C (pc := 94) dL_codes_94 ck_iconst_1 ?_
              refine g_iconst C (pc := 95) dL_codes_95 ck_iconst_0 ?_
              obtain ⟨y_96, h_96, hf⟩ := k_bd hf
              refine g_callO C (pc := 96) (As := [.int (1 : Int32), .int (0 : Int32), .int (1 : Int32), .int (0 : Int32)]) (rest := []) (v1 := .int y_96.1) (c' := y_96.2) (st' := [.int y_96.1]) lkX10_claim lVL_101 (kC_claim (xl x) (xD x) (xy x) ta kf_83 sf zQ_83 zS y_83.2 (1 : Int32) (0 : Int32) (1 : Int32) (0 : Int32) y_96 hk_83 hs h_96) rfl ⟨⟨Nat.le_of_ble_eq_true rfl, Nat.le_of_ble_eq_true rfl⟩, ⟨rfl, rfl⟩, ⟨Nat.le_of_ble_eq_true rfl, Nat.le_of_ble_eq_true rfl⟩⟩ rfl rfl (Nat.le_of_ble_eq_true rfl) rfl dL_codes_96 (fun kf_96 zQ_96 hk_96 => ?_)
              refine g_bipush C (pc := 99) dL_codes_99 ck_bipush_m2 ?_
              refine g_icmp_ne C (pc := 101) 242 dL_codes_101 (by decide) (fun c_101 => ?_) (fun c_101 => ?_)
              · replace hf := (k_if hf).2 c_101
                refine g_iconst C (pc := 242) dL_codes_242 ck_iconst_0 ?_
                cases hf
                exact g_wid (Nat.le_of_ble_eq_true rfl) (Nat.le_of_ble_eq_true rfl) (g_zret C E rfl (pc := 243) dL_codes_243 rfl)
              · replace hf := (k_if hf).1 c_101
                refine g_aload_n C (pc := 104) 0 dL_codes_104 rfl rfl ?_
                refine g_iconst C (pc := 105) dL_codes_105 ck_iconst_1 ?_
                refine g_iconst C (pc := 106) dL_codes_106 ck_iconst_0 ?_
                refine g_iconst C (pc := 107) dL_codes_107 ck_iconst_0 ?_
                refine g_bipush C (pc := 108) dL_codes_108 ck_bipush_8 ?_
                obtain ⟨y_110, h_110, hf⟩ := k_bd hf
                refine g_callO C (pc := 110) (As := [.int (1 : Int32), .int (0 : Int32), .int (0 : Int32), .int (8 : Int32)]) (rest := []) (v1 := .int y_110.1) (c' := y_110.2) (st' := [.int y_110.1]) lkX10_claim lVL_101 (kC_claim (xl x) (xD x) (xy x) ta kf_96 sf zQ_96 zS y_96.2 (1 : Int32) (0 : Int32) (0 : Int32) (8 : Int32) y_110 hk_96 hs h_110) rfl ⟨⟨Nat.le_of_ble_eq_true rfl, Nat.le_of_ble_eq_true rfl⟩, ⟨rfl, rfl⟩, ⟨Nat.le_of_ble_eq_true rfl, Nat.le_of_ble_eq_true rfl⟩⟩ rfl rfl (Nat.le_of_ble_eq_true rfl) rfl dL_codes_110 (fun kf_110 zQ_110 hk_110 => ?_)
                refine g_bipush C (pc := 113) dL_codes_113 ck_bipush_m2 ?_
                refine g_icmp_ne C (pc := 115) 242 dL_codes_115 (by decide) (fun c_115 => ?_) (fun c_115 => ?_)
                · replace hf := (k_if hf).2 c_115
                  refine g_iconst C (pc := 242) dL_codes_242 ck_iconst_0 ?_
                  cases hf
                  exact g_wid (Nat.le_of_ble_eq_true rfl) (Nat.le_of_ble_eq_true rfl) (g_zret C E rfl (pc := 243) dL_codes_243 rfl)
                · replace hf := (k_if hf).1 c_115
                  refine g_aload_n C (pc := 118) 0 dL_codes_118 rfl rfl ?_
                  refine g_iconst C (pc := 119) dL_codes_119 ck_iconst_4 ?_
                  refine g_iconst C (pc := 120) dL_codes_120 ck_iconst_0 ?_
                  refine g_iconst C (pc := 121) dL_codes_121 ck_iconst_0 ?_
                  refine g_iconst C (pc := 122) dL_codes_122 ck_iconst_m1 ?_
                  obtain ⟨y_123, h_123, hf⟩ := k_bd hf
                  refine g_callO C (pc := 123) (As := [.int (4 : Int32), .int (0 : Int32), .int (0 : Int32), .int (-1 : Int32)]) (rest := []) (v1 := .int y_123.1) (c' := y_123.2) (st' := [.int y_123.1]) lkX10_claim lVL_101 (kC_claim (xl x) (xD x) (xy x) ta kf_110 sf zQ_110 zS y_110.2 (4 : Int32) (0 : Int32) (0 : Int32) (-1 : Int32) y_123 hk_110 hs h_123) rfl ⟨⟨Nat.le_of_ble_eq_true rfl, Nat.le_of_ble_eq_true rfl⟩, ⟨rfl, rfl⟩, ⟨Nat.le_of_ble_eq_true rfl, Nat.le_of_ble_eq_true rfl⟩⟩ rfl rfl (Nat.le_of_ble_eq_true rfl) rfl dL_codes_123 (fun kf_123 zQ_123 hk_123 => ?_)
                  refine g_bipush C (pc := 126) dL_codes_126 ck_bipush_m2 ?_
                  refine g_icmp_ne C (pc := 128) 242 dL_codes_128 (by decide) (fun c_128 => ?_) (fun c_128 => ?_)
                  · replace hf := (k_if hf).2 c_128
                    refine g_iconst C (pc := 242) dL_codes_242 ck_iconst_0 ?_
                    cases hf
                    exact g_wid (Nat.le_of_ble_eq_true rfl) (Nat.le_of_ble_eq_true rfl) (g_zret C E rfl (pc := 243) dL_codes_243 rfl)
                  · replace hf := (k_if hf).1 c_128
                    refine g_aload_n C (pc := 131) 0 dL_codes_131 rfl rfl ?_
                    refine g_iconst C (pc := 132) dL_codes_132 ck_iconst_5 ?_
                    refine g_iconst C (pc := 133) dL_codes_133 ck_iconst_1 ?_
                    refine g_iconst C (pc := 134) dL_codes_134 ck_iconst_1 ?_
                    refine g_iconst C (pc := 135) dL_codes_135 ck_iconst_0 ?_
                    obtain ⟨y_136, h_136, hf⟩ := k_bd hf
                    refine g_callO C (pc := 136) (As := [.int (5 : Int32), .int (1 : Int32), .int (1 : Int32), .int (0 : Int32)]) (rest := []) (v1 := .int y_136.1) (c' := y_136.2) (st' := [.int y_136.1]) lkX10_claim lVL_101 (kC_claim (xl x) (xD x) (xy x) ta kf_123 sf zQ_123 zS y_123.2 (5 : Int32) (1 : Int32) (1 : Int32) (0 : Int32) y_136 hk_123 hs h_136) rfl ⟨⟨Nat.le_of_ble_eq_true rfl, Nat.le_of_ble_eq_true rfl⟩, ⟨rfl, rfl⟩, ⟨Nat.le_of_ble_eq_true rfl, Nat.le_of_ble_eq_true rfl⟩⟩ rfl rfl (Nat.le_of_ble_eq_true rfl) rfl dL_codes_136 (fun kf_136 zQ_136 hk_136 => ?_)
                    refine g_bipush C (pc := 139) dL_codes_139 ck_bipush_m2 ?_
                    refine g_icmp_ne C (pc := 141) 242 dL_codes_141 (by decide) (fun c_141 => ?_) (fun c_141 => ?_)
                    · replace hf := (k_if hf).2 c_141
                      refine g_iconst C (pc := 242) dL_codes_242 ck_iconst_0 ?_
                      cases hf
                      exact g_wid (Nat.le_of_ble_eq_true rfl) (Nat.le_of_ble_eq_true rfl) (g_zret C E rfl (pc := 243) dL_codes_243 rfl)
                    · replace hf := (k_if hf).1 c_141
                      refine g_aload_n C (pc := 144) 0 dL_codes_144 rfl rfl ?_
                      refine g_bipush C (pc := 145) dL_codes_145 ck_bipush_7 ?_
                      refine g_iconst C (pc := 147) dL_codes_147 ck_iconst_0 ?_
                      refine g_iconst C (pc := 148) dL_codes_148 ck_iconst_1 ?_
                      refine g_bipush C (pc := 149) dL_codes_149 ck_bipush_8 ?_
                      obtain ⟨y_151, h_151, hf⟩ := k_bd hf
                      refine g_callO C (pc := 151) (As := [.int (7 : Int32), .int (0 : Int32), .int (1 : Int32), .int (8 : Int32)]) (rest := []) (v1 := .int y_151.1) (c' := y_151.2) (st' := [.int y_151.1]) lkX10_claim lVL_101 (kC_claim (xl x) (xD x) (xy x) ta kf_136 sf zQ_136 zS y_136.2 (7 : Int32) (0 : Int32) (1 : Int32) (8 : Int32) y_151 hk_136 hs h_151) rfl ⟨⟨Nat.le_of_ble_eq_true rfl, Nat.le_of_ble_eq_true rfl⟩, ⟨rfl, rfl⟩, ⟨Nat.le_of_ble_eq_true rfl, Nat.le_of_ble_eq_true rfl⟩⟩ rfl rfl (Nat.le_of_ble_eq_true rfl) rfl dL_codes_151 (fun kf_151 zQ_151 hk_151 => ?_)
                      refine g_bipush C (pc := 154) dL_codes_154 ck_bipush_m2 ?_
                      refine g_icmp_ne C (pc := 156) 242 dL_codes_156 (by decide) (fun c_156 => ?_) (fun c_156 => ?_)
                      · replace hf := (k_if hf).2 c_156
                        refine g_iconst C (pc := 242) dL_codes_242 ck_iconst_0 ?_
                        cases hf
                        exact g_wid (Nat.le_of_ble_eq_true rfl) (Nat.le_of_ble_eq_true rfl) (g_zret C E rfl (pc := 243) dL_codes_243 rfl)
                      · replace hf := (k_if hf).1 c_156
                        refine g_aload_n C (pc := 159) 0 dL_codes_159 rfl rfl ?_
                        refine g_bipush C (pc := 160) dL_codes_160 ck_bipush_8 ?_
                        refine g_iconst C (pc := 162) dL_codes_162 ck_iconst_1 ?_
                        refine g_iconst C (pc := 163) dL_codes_163 ck_iconst_0 ?_
                        refine g_iconst C (pc := 164) dL_codes_164 ck_iconst_3 ?_
                        obtain ⟨y_165, h_165, hf⟩ := k_bd hf
                        refine g_callO C (pc := 165) (As := [.int (8 : Int32), .int (1 : Int32), .int (0 : Int32), .int (3 : Int32)]) (rest := []) (v1 := .int y_165.1) (c' := y_165.2) (st' := [.int y_165.1]) lkX10_claim lVL_101 (kC_claim (xl x) (xD x) (xy x) ta kf_151 sf zQ_151 zS y_151.2 (8 : Int32) (1 : Int32) (0 : Int32) (3 : Int32) y_165 hk_151 hs h_165) rfl ⟨⟨Nat.le_of_ble_eq_true rfl, Nat.le_of_ble_eq_true rfl⟩, ⟨rfl, rfl⟩, ⟨Nat.le_of_ble_eq_true rfl, Nat.le_of_ble_eq_true rfl⟩⟩ rfl rfl (Nat.le_of_ble_eq_true rfl) rfl dL_codes_165 (fun kf_165 zQ_165 hk_165 => ?_)
                        refine g_bipush C (pc := 168) dL_codes_168 ck_bipush_m2 ?_
                        refine g_icmp_ne C (pc := 170) 242 dL_codes_170 (by decide) (fun c_170 => ?_) (fun c_170 => ?_)
                        · replace hf := (k_if hf).2 c_170
                          refine g_iconst C (pc := 242) dL_codes_242 ck_iconst_0 ?_
                          cases hf
                          exact g_wid (Nat.le_of_ble_eq_true rfl) (Nat.le_of_ble_eq_true rfl) (g_zret C E rfl (pc := 243) dL_codes_243 rfl)
                        · replace hf := (k_if hf).1 c_170
                          refine g_aload_n C (pc := 173) 0 dL_codes_173 rfl rfl ?_
                          refine g_bipush C (pc := 174) dL_codes_174 ck_bipush_8 ?_
                          refine g_iconst C (pc := 176) dL_codes_176 ck_iconst_0 ?_
                          refine g_iconst C (pc := 177) dL_codes_177 ck_iconst_1 ?_
                          refine g_bipush C (pc := 178) dL_codes_178 ck_bipush_8 ?_
                          obtain ⟨y_180, h_180, hf⟩ := k_bd hf
                          refine g_callO C (pc := 180) (As := [.int (8 : Int32), .int (0 : Int32), .int (1 : Int32), .int (8 : Int32)]) (rest := []) (v1 := .int y_180.1) (c' := y_180.2) (st' := [.int y_180.1]) lkX10_claim lVL_101 (kC_claim (xl x) (xD x) (xy x) ta kf_165 sf zQ_165 zS y_165.2 (8 : Int32) (0 : Int32) (1 : Int32) (8 : Int32) y_180 hk_165 hs h_180) rfl ⟨⟨Nat.le_of_ble_eq_true rfl, Nat.le_of_ble_eq_true rfl⟩, ⟨rfl, rfl⟩, ⟨Nat.le_of_ble_eq_true rfl, Nat.le_of_ble_eq_true rfl⟩⟩ rfl rfl (Nat.le_of_ble_eq_true rfl) rfl dL_codes_180 (fun kf_180 zQ_180 hk_180 => ?_)
                          refine g_bipush C (pc := 183) dL_codes_183 ck_bipush_m2 ?_
                          refine g_icmp_ne C (pc := 185) 242 dL_codes_185 (by decide) (fun c_185 => ?_) (fun c_185 => ?_)
                          · replace hf := (k_if hf).2 c_185
                            refine g_iconst C (pc := 242) dL_codes_242 ck_iconst_0 ?_
                            cases hf
                            exact g_wid (Nat.le_of_ble_eq_true rfl) (Nat.le_of_ble_eq_true rfl) (g_zret C E rfl (pc := 243) dL_codes_243 rfl)
                          · replace hf := (k_if hf).1 c_185
                            refine g_aload_n C (pc := 188) 0 dL_codes_188 rfl rfl ?_
                            refine g_bipush C (pc := 189) dL_codes_189 ck_bipush_9 ?_
                            refine g_iconst C (pc := 191) dL_codes_191 ck_iconst_0 ?_
                            refine g_iconst C (pc := 192) dL_codes_192 ck_iconst_1 ?_
                            refine g_iconst C (pc := 193) dL_codes_193 ck_iconst_2 ?_
                            obtain ⟨y_194, h_194, hf⟩ := k_bd hf
                            refine g_callO C (pc := 194) (As := [.int (9 : Int32), .int (0 : Int32), .int (1 : Int32), .int (2 : Int32)]) (rest := []) (v1 := .int y_194.1) (c' := y_194.2) (st' := [.int y_194.1]) lkX10_claim lVL_101 (kC_claim (xl x) (xD x) (xy x) ta kf_180 sf zQ_180 zS y_180.2 (9 : Int32) (0 : Int32) (1 : Int32) (2 : Int32) y_194 hk_180 hs h_194) rfl ⟨⟨Nat.le_of_ble_eq_true rfl, Nat.le_of_ble_eq_true rfl⟩, ⟨rfl, rfl⟩, ⟨Nat.le_of_ble_eq_true rfl, Nat.le_of_ble_eq_true rfl⟩⟩ rfl rfl (Nat.le_of_ble_eq_true rfl) rfl dL_codes_194 (fun kf_194 zQ_194 hk_194 => ?_)
                            refine g_bipush C (pc := 197) dL_codes_197 ck_bipush_m2 ?_
                            refine g_icmp_ne C (pc := 199) 242 dL_codes_199 (by decide) (fun c_199 => ?_) (fun c_199 => ?_)
                            · replace hf := (k_if hf).2 c_199
                              refine g_iconst C (pc := 242) dL_codes_242 ck_iconst_0 ?_
                              cases hf
                              exact g_wid (Nat.le_of_ble_eq_true rfl) (Nat.le_of_ble_eq_true rfl) (g_zret C E rfl (pc := 243) dL_codes_243 rfl)
                            · replace hf := (k_if hf).1 c_199
                              refine g_aload_n C (pc := 202) 0 dL_codes_202 rfl rfl ?_
                              refine g_bipush C (pc := 203) dL_codes_203 ck_bipush_10 ?_
                              refine g_iconst C (pc := 205) dL_codes_205 ck_iconst_0 ?_
                              refine g_iconst C (pc := 206) dL_codes_206 ck_iconst_0 ?_
                              refine g_iconst C (pc := 207) dL_codes_207 ck_iconst_0 ?_
                              obtain ⟨y_208, h_208, hf⟩ := k_bd hf
                              refine g_callO C (pc := 208) (As := [.int (10 : Int32), .int (0 : Int32), .int (0 : Int32), .int (0 : Int32)]) (rest := []) (v1 := .int y_208.1) (c' := y_208.2) (st' := [.int y_208.1]) lkX10_claim lVL_101 (kC_claim (xl x) (xD x) (xy x) ta kf_194 sf zQ_194 zS y_194.2 (10 : Int32) (0 : Int32) (0 : Int32) (0 : Int32) y_208 hk_194 hs h_208) rfl ⟨⟨Nat.le_of_ble_eq_true rfl, Nat.le_of_ble_eq_true rfl⟩, ⟨rfl, rfl⟩, ⟨Nat.le_of_ble_eq_true rfl, Nat.le_of_ble_eq_true rfl⟩⟩ rfl rfl (Nat.le_of_ble_eq_true rfl) rfl dL_codes_208 (fun kf_208 zQ_208 hk_208 => ?_)
                              refine g_bipush C (pc := 211) dL_codes_211 ck_bipush_m2 ?_
                              refine g_icmp_ne C (pc := 213) 242 dL_codes_213 (by decide) (fun c_213 => ?_) (fun c_213 => ?_)
                              · replace hf := (k_if hf).2 c_213
                                refine g_iconst C (pc := 242) dL_codes_242 ck_iconst_0 ?_
                                cases hf
                                exact g_wid (Nat.le_of_ble_eq_true rfl) (Nat.le_of_ble_eq_true rfl) (g_zret C E rfl (pc := 243) dL_codes_243 rfl)
                              · replace hf := (k_if hf).1 c_213
                                refine g_aload_n C (pc := 216) 0 dL_codes_216 rfl rfl ?_
                                refine g_iconst C (pc := 217) dL_codes_217 ck_iconst_1 ?_
                                refine g_iconst C (pc := 218) dL_codes_218 ck_iconst_3 ?_
                                refine g_iconst C (pc := 219) dL_codes_219 ck_iconst_0 ?_
                                refine g_iconst C (pc := 220) dL_codes_220 ck_iconst_0 ?_
                                obtain ⟨y_221, h_221, hf⟩ := k_bd hf
                                refine g_callO C (pc := 221) (As := [.int (1 : Int32), .int (3 : Int32), .int (0 : Int32), .int (0 : Int32)]) (rest := []) (v1 := .int y_221.1) (c' := y_221.2) (st' := [.int y_221.1]) lkX10_claim lVL_101 (kC_claim (xl x) (xD x) (xy x) ta kf_208 sf zQ_208 zS y_208.2 (1 : Int32) (3 : Int32) (0 : Int32) (0 : Int32) y_221 hk_208 hs h_221) rfl ⟨⟨Nat.le_of_ble_eq_true rfl, Nat.le_of_ble_eq_true rfl⟩, ⟨rfl, rfl⟩, ⟨Nat.le_of_ble_eq_true rfl, Nat.le_of_ble_eq_true rfl⟩⟩ rfl rfl (Nat.le_of_ble_eq_true rfl) rfl dL_codes_221 (fun kf_221 zQ_221 hk_221 => ?_)
                                refine g_bipush C (pc := 224) dL_codes_224 ck_bipush_m2 ?_
                                refine g_icmp_ne C (pc := 226) 242 dL_codes_226 (by decide) (fun c_226 => ?_) (fun c_226 => ?_)
                                · replace hf := (k_if hf).2 c_226
                                  refine g_iconst C (pc := 242) dL_codes_242 ck_iconst_0 ?_
                                  cases hf
                                  exact g_wid (Nat.le_of_ble_eq_true rfl) (Nat.le_of_ble_eq_true rfl) (g_zret C E rfl (pc := 243) dL_codes_243 rfl)
                                · replace hf := (k_if hf).1 c_226
                                  refine g_aload_n C (pc := 229) 0 dL_codes_229 rfl rfl ?_
                                  refine g_iconst C (pc := 230) dL_codes_230 ck_iconst_m1 ?_
                                  refine g_iconst C (pc := 231) dL_codes_231 ck_iconst_0 ?_
                                  refine g_iconst C (pc := 232) dL_codes_232 ck_iconst_0 ?_
                                  refine g_iconst C (pc := 233) dL_codes_233 ck_iconst_0 ?_
                                  obtain ⟨y_234, h_234, hf⟩ := k_bd hf
                                  refine g_callO C (pc := 234) (As := [.int (-1 : Int32), .int (0 : Int32), .int (0 : Int32), .int (0 : Int32)]) (rest := []) (v1 := .int y_234.1) (c' := y_234.2) (st' := [.int y_234.1]) lkX10_claim lVL_101 (kC_claim (xl x) (xD x) (xy x) ta kf_221 sf zQ_221 zS y_221.2 (-1 : Int32) (0 : Int32) (0 : Int32) (0 : Int32) y_234 hk_221 hs h_234) rfl ⟨⟨Nat.le_of_ble_eq_true rfl, Nat.le_of_ble_eq_true rfl⟩, ⟨rfl, rfl⟩, ⟨Nat.le_of_ble_eq_true rfl, Nat.le_of_ble_eq_true rfl⟩⟩ rfl rfl (Nat.le_of_ble_eq_true rfl) rfl dL_codes_234 (fun kf_234 zQ_234 hk_234 => ?_)
                                  refine g_bipush C (pc := 237) dL_codes_237 ck_bipush_m2 ?_
                                  refine g_icmp_eq C (pc := 239) 244 dL_codes_239 (by decide) (fun c_239 => ?_) (fun c_239 => ?_)
                                  · replace hf := (k_if hf).1 c_239
                                    refine g_aload_n C (pc := 244) 0 dL_codes_244 rfl rfl ?_
                                    refine g_aload_n C (pc := 245) 0 dL_codes_245 rfl rfl ?_
                                    refine g_iconst C (pc := 246) dL_codes_246 ck_iconst_5 ?_
                                    refine g_iconst C (pc := 247) dL_codes_247 ck_iconst_0 ?_
                                    refine g_iconst C (pc := 248) dL_codes_248 ck_iconst_1 ?_
                                    refine g_iconst C (pc := 249) dL_codes_249 ck_iconst_2 ?_
                                    obtain ⟨y_250, h_250, hf⟩ := k_bd hf
                                    refine g_callO C (pc := 250) (As := [.int (5 : Int32), .int (0 : Int32), .int (1 : Int32), .int (2 : Int32)]) (rest := [.ref ta.1]) (v1 := .int y_250.1) (c' := y_250.2) (st' := [.int y_250.1, .ref ta.1]) lkX10_claim lVL_101 (kC_claim (xl x) (xD x) (xy x) ta kf_234 sf zQ_234 zS y_234.2 (5 : Int32) (0 : Int32) (1 : Int32) (2 : Int32) y_250 hk_234 hs h_250) rfl ⟨⟨Nat.le_of_ble_eq_true rfl, Nat.le_of_ble_eq_true rfl⟩, ⟨rfl, rfl⟩, ⟨Nat.le_of_ble_eq_true rfl, Nat.le_of_ble_eq_true rfl⟩⟩ rfl rfl (Nat.le_of_ble_eq_true rfl) rfl dL_codes_250 (fun kf_250 zQ_250 hk_250 => ?_)
                                    refine g_sipush C (pc := 253) dL_codes_253 ck_sipush_275 ?_
                                    obtain ⟨y_256, h_256, hf⟩ := k_bd hf
                                    refine g_callO C (pc := 256) (As := [.int y_250.1, .int (275 : Int32)]) (rest := []) (v1 := .int y_256.1) (c' := y_256.2) (st' := [.int y_256.1]) lkX10_holds lVL_51 (kC_holds (xl x) (xD x) (xy x) ta kf_250 sf zQ_250 zS y_250.2 y_250.1 (275 : Int32) y_256 hk_250 hs h_256) rfl ⟨⟨Nat.le_of_ble_eq_true rfl, Nat.le_of_ble_eq_true rfl⟩, ⟨rfl, rfl⟩, ⟨Nat.le_of_ble_eq_true rfl, Nat.le_of_ble_eq_true rfl⟩⟩ rfl rfl (Nat.le_of_ble_eq_true rfl) rfl dL_codes_256 (fun kf_256 zQ_256 hk_256 => ?_)
                                    refine g_iconst C (pc := 259) dL_codes_259 ck_iconst_1 ?_
                                    refine g_icmp_ne C (pc := 260) 453 dL_codes_260 (by decide) (fun c_260 => ?_) (fun c_260 => ?_)
                                    · replace hf := (k_if hf).2 c_260
                                      refine g_iconst C (pc := 453) dL_codes_453 ck_iconst_0 ?_
                                      cases hf
                                      exact g_wid (Nat.le_of_ble_eq_true rfl) (Nat.le_of_ble_eq_true rfl) (g_zret C E rfl (pc := 454) dL_codes_454 rfl)
                                    · replace hf := (k_if hf).1 c_260
                                      refine g_aload_n C (pc := 263) 0 dL_codes_263 rfl rfl ?_
                                      refine g_aload_n C (pc := 264) 0 dL_codes_264 rfl rfl ?_
                                      refine g_bipush C (pc := 265) dL_codes_265 ck_bipush_6 ?_
                                      refine g_iconst C (pc := 267) dL_codes_267 ck_iconst_0 ?_
                                      refine g_iconst C (pc := 268) dL_codes_268 ck_iconst_1 ?_
                                      refine g_iconst C (pc := 269) dL_codes_269 ck_iconst_2 ?_
                                      obtain ⟨y_270, h_270, hf⟩ := k_bd hf
                                      refine g_callO C (pc := 270) (As := [.int (6 : Int32), .int (0 : Int32), .int (1 : Int32), .int (2 : Int32)]) (rest := [.ref ta.1]) (v1 := .int y_270.1) (c' := y_270.2) (st' := [.int y_270.1, .ref ta.1]) lkX10_claim lVL_101 (kC_claim (xl x) (xD x) (xy x) ta kf_256 sf zQ_256 zS y_256.2 (6 : Int32) (0 : Int32) (1 : Int32) (2 : Int32) y_270 hk_256 hs h_270) rfl ⟨⟨Nat.le_of_ble_eq_true rfl, Nat.le_of_ble_eq_true rfl⟩, ⟨rfl, rfl⟩, ⟨Nat.le_of_ble_eq_true rfl, Nat.le_of_ble_eq_true rfl⟩⟩ rfl rfl (Nat.le_of_ble_eq_true rfl) rfl dL_codes_270 (fun kf_270 zQ_270 hk_270 => ?_)
                                      refine g_sipush C (pc := 273) dL_codes_273 ck_sipush_275 ?_
                                      obtain ⟨y_276, h_276, hf⟩ := k_bd hf
                                      refine g_callO C (pc := 276) (As := [.int y_270.1, .int (275 : Int32)]) (rest := []) (v1 := .int y_276.1) (c' := y_276.2) (st' := [.int y_276.1]) lkX10_holds lVL_51 (kC_holds (xl x) (xD x) (xy x) ta kf_270 sf zQ_270 zS y_270.2 y_270.1 (275 : Int32) y_276 hk_270 hs h_276) rfl ⟨⟨Nat.le_of_ble_eq_true rfl, Nat.le_of_ble_eq_true rfl⟩, ⟨rfl, rfl⟩, ⟨Nat.le_of_ble_eq_true rfl, Nat.le_of_ble_eq_true rfl⟩⟩ rfl rfl (Nat.le_of_ble_eq_true rfl) rfl dL_codes_276 (fun kf_276 zQ_276 hk_276 => ?_)
                                      refine g_if_ne C (pc := 279) 453 dL_codes_279 (by decide) (fun c_279 => ?_) (fun c_279 => ?_)
                                      · replace hf := (k_if hf).2 c_279
                                        refine g_iconst C (pc := 453) dL_codes_453 ck_iconst_0 ?_
                                        cases hf
                                        exact g_wid (Nat.le_of_ble_eq_true rfl) (Nat.le_of_ble_eq_true rfl) (g_zret C E rfl (pc := 454) dL_codes_454 rfl)
                                      · replace hf := (k_if hf).1 c_279
                                        refine g_aload_n C (pc := 282) 0 dL_codes_282 rfl rfl ?_
                                        refine g_aload_n C (pc := 283) 0 dL_codes_283 rfl rfl ?_
                                        refine g_bipush C (pc := 284) dL_codes_284 ck_bipush_7 ?_
                                        refine g_iconst C (pc := 286) dL_codes_286 ck_iconst_2 ?_
                                        refine g_iconst C (pc := 287) dL_codes_287 ck_iconst_1 ?_
                                        refine g_iconst C (pc := 288) dL_codes_288 ck_iconst_0 ?_
                                        obtain ⟨y_289, h_289, hf⟩ := k_bd hf
                                        refine g_callO C (pc := 289) (As := [.int (7 : Int32), .int (2 : Int32), .int (1 : Int32), .int (0 : Int32)]) (rest := [.ref ta.1]) (v1 := .int y_289.1) (c' := y_289.2) (st' := [.int y_289.1, .ref ta.1]) lkX10_claim lVL_101 (kC_claim (xl x) (xD x) (xy x) ta kf_276 sf zQ_276 zS y_276.2 (7 : Int32) (2 : Int32) (1 : Int32) (0 : Int32) y_289 hk_276 hs h_289) rfl ⟨⟨Nat.le_of_ble_eq_true rfl, Nat.le_of_ble_eq_true rfl⟩, ⟨rfl, rfl⟩, ⟨Nat.le_of_ble_eq_true rfl, Nat.le_of_ble_eq_true rfl⟩⟩ rfl rfl (Nat.le_of_ble_eq_true rfl) rfl dL_codes_289 (fun kf_289 zQ_289 hk_289 => ?_)
                                        refine g_sipush C (pc := 292) dL_codes_292 ck_sipush_275 ?_
                                        obtain ⟨y_295, h_295, hf⟩ := k_bd hf
                                        refine g_callO C (pc := 295) (As := [.int y_289.1, .int (275 : Int32)]) (rest := []) (v1 := .int y_295.1) (c' := y_295.2) (st' := [.int y_295.1]) lkX10_holds lVL_51 (kC_holds (xl x) (xD x) (xy x) ta kf_289 sf zQ_289 zS y_289.2 y_289.1 (275 : Int32) y_295 hk_289 hs h_295) rfl ⟨⟨Nat.le_of_ble_eq_true rfl, Nat.le_of_ble_eq_true rfl⟩, ⟨rfl, rfl⟩, ⟨Nat.le_of_ble_eq_true rfl, Nat.le_of_ble_eq_true rfl⟩⟩ rfl rfl (Nat.le_of_ble_eq_true rfl) rfl dL_codes_295 (fun kf_295 zQ_295 hk_295 => ?_)
                                        refine g_if_ne C (pc := 298) 453 dL_codes_298 (by decide) (fun c_298 => ?_) (fun c_298 => ?_)
                                        · replace hf := (k_if hf).2 c_298
                                          refine g_iconst C (pc := 453) dL_codes_453 ck_iconst_0 ?_
                                          cases hf
                                          exact g_wid (Nat.le_of_ble_eq_true rfl) (Nat.le_of_ble_eq_true rfl) (g_zret C E rfl (pc := 454) dL_codes_454 rfl)
                                        · replace hf := (k_if hf).1 c_298
                                          refine g_aload_n C (pc := 301) 0 dL_codes_301 rfl rfl ?_
                                          refine g_aload_n C (pc := 302) 0 dL_codes_302 rfl rfl ?_
                                          refine g_bipush C (pc := 303) dL_codes_303 ck_bipush_7 ?_
                                          refine g_iconst C (pc := 305) dL_codes_305 ck_iconst_2 ?_
                                          refine g_iconst C (pc := 306) dL_codes_306 ck_iconst_1 ?_
                                          refine g_iconst C (pc := 307) dL_codes_307 ck_iconst_1 ?_
                                          obtain ⟨y_308, h_308, hf⟩ := k_bd hf
                                          refine g_callO C (pc := 308) (As := [.int (7 : Int32), .int (2 : Int32), .int (1 : Int32), .int (1 : Int32)]) (rest := [.ref ta.1]) (v1 := .int y_308.1) (c' := y_308.2) (st' := [.int y_308.1, .ref ta.1]) lkX10_claim lVL_101 (kC_claim (xl x) (xD x) (xy x) ta kf_295 sf zQ_295 zS y_295.2 (7 : Int32) (2 : Int32) (1 : Int32) (1 : Int32) y_308 hk_295 hs h_308) rfl ⟨⟨Nat.le_of_ble_eq_true rfl, Nat.le_of_ble_eq_true rfl⟩, ⟨rfl, rfl⟩, ⟨Nat.le_of_ble_eq_true rfl, Nat.le_of_ble_eq_true rfl⟩⟩ rfl rfl (Nat.le_of_ble_eq_true rfl) rfl dL_codes_308 (fun kf_308 zQ_308 hk_308 => ?_)
                                          refine g_sipush C (pc := 311) dL_codes_311 ck_sipush_275 ?_
                                          obtain ⟨y_314, h_314, hf⟩ := k_bd hf
                                          refine g_callO C (pc := 314) (As := [.int y_308.1, .int (275 : Int32)]) (rest := []) (v1 := .int y_314.1) (c' := y_314.2) (st' := [.int y_314.1]) lkX10_holds lVL_51 (kC_holds (xl x) (xD x) (xy x) ta kf_308 sf zQ_308 zS y_308.2 y_308.1 (275 : Int32) y_314 hk_308 hs h_314) rfl ⟨⟨Nat.le_of_ble_eq_true rfl, Nat.le_of_ble_eq_true rfl⟩, ⟨rfl, rfl⟩, ⟨Nat.le_of_ble_eq_true rfl, Nat.le_of_ble_eq_true rfl⟩⟩ rfl rfl (Nat.le_of_ble_eq_true rfl) rfl dL_codes_314 (fun kf_314 zQ_314 hk_314 => ?_)
                                          refine g_iconst C (pc := 317) dL_codes_317 ck_iconst_1 ?_
                                          refine g_icmp_ne C (pc := 318) 453 dL_codes_318 (by decide) (fun c_318 => ?_) (fun c_318 => ?_)
                                          · replace hf := (k_if hf).2 c_318
                                            refine g_iconst C (pc := 453) dL_codes_453 ck_iconst_0 ?_
                                            cases hf
                                            exact g_wid (Nat.le_of_ble_eq_true rfl) (Nat.le_of_ble_eq_true rfl) (g_zret C E rfl (pc := 454) dL_codes_454 rfl)
                                          · replace hf := (k_if hf).1 c_318
                                            refine g_aload_n C (pc := 321) 0 dL_codes_321 rfl rfl ?_
                                            refine g_aload_n C (pc := 322) 0 dL_codes_322 rfl rfl ?_
                                            refine g_bipush C (pc := 323) dL_codes_323 ck_bipush_8 ?_
                                            refine g_iconst C (pc := 325) dL_codes_325 ck_iconst_0 ?_
                                            refine g_iconst C (pc := 326) dL_codes_326 ck_iconst_2 ?_
                                            refine g_bipush C (pc := 327) dL_codes_327 ck_bipush_7 ?_
                                            obtain ⟨y_329, h_329, hf⟩ := k_bd hf
                                            refine g_callO C (pc := 329) (As := [.int (8 : Int32), .int (0 : Int32), .int (2 : Int32), .int (7 : Int32)]) (rest := [.ref ta.1]) (v1 := .int y_329.1) (c' := y_329.2) (st' := [.int y_329.1, .ref ta.1]) lkX10_claim lVL_101 (kC_claim (xl x) (xD x) (xy x) ta kf_314 sf zQ_314 zS y_314.2 (8 : Int32) (0 : Int32) (2 : Int32) (7 : Int32) y_329 hk_314 hs h_329) rfl ⟨⟨Nat.le_of_ble_eq_true rfl, Nat.le_of_ble_eq_true rfl⟩, ⟨rfl, rfl⟩, ⟨Nat.le_of_ble_eq_true rfl, Nat.le_of_ble_eq_true rfl⟩⟩ rfl rfl (Nat.le_of_ble_eq_true rfl) rfl dL_codes_329 (fun kf_329 zQ_329 hk_329 => ?_)
                                            refine g_sipush C (pc := 332) dL_codes_332 ck_sipush_275 ?_
                                            obtain ⟨y_335, h_335, hf⟩ := k_bd hf
                                            refine g_callO C (pc := 335) (As := [.int y_329.1, .int (275 : Int32)]) (rest := []) (v1 := .int y_335.1) (c' := y_335.2) (st' := [.int y_335.1]) lkX10_holds lVL_51 (kC_holds (xl x) (xD x) (xy x) ta kf_329 sf zQ_329 zS y_329.2 y_329.1 (275 : Int32) y_335 hk_329 hs h_335) rfl ⟨⟨Nat.le_of_ble_eq_true rfl, Nat.le_of_ble_eq_true rfl⟩, ⟨rfl, rfl⟩, ⟨Nat.le_of_ble_eq_true rfl, Nat.le_of_ble_eq_true rfl⟩⟩ rfl rfl (Nat.le_of_ble_eq_true rfl) rfl dL_codes_335 (fun kf_335 zQ_335 hk_335 => ?_)
                                            refine g_iconst C (pc := 338) dL_codes_338 ck_iconst_1 ?_
                                            refine g_icmp_ne C (pc := 339) 453 dL_codes_339 (by decide) (fun c_339 => ?_) (fun c_339 => ?_)
                                            · replace hf := (k_if hf).2 c_339
                                              refine g_iconst C (pc := 453) dL_codes_453 ck_iconst_0 ?_
                                              cases hf
                                              exact g_wid (Nat.le_of_ble_eq_true rfl) (Nat.le_of_ble_eq_true rfl) (g_zret C E rfl (pc := 454) dL_codes_454 rfl)
                                            · replace hf := (k_if hf).1 c_339
                                              refine g_aload_n C (pc := 342) 0 dL_codes_342 rfl rfl ?_
                                              refine g_aload_n C (pc := 343) 0 dL_codes_343 rfl rfl ?_
                                              refine g_bipush C (pc := 344) dL_codes_344 ck_bipush_9 ?_
                                              refine g_iconst C (pc := 346) dL_codes_346 ck_iconst_0 ?_
                                              refine g_iconst C (pc := 347) dL_codes_347 ck_iconst_2 ?_
                                              refine g_iconst C (pc := 348) dL_codes_348 ck_iconst_1 ?_
                                              obtain ⟨y_349, h_349, hf⟩ := k_bd hf
                                              refine g_callO C (pc := 349) (As := [.int (9 : Int32), .int (0 : Int32), .int (2 : Int32), .int (1 : Int32)]) (rest := [.ref ta.1]) (v1 := .int y_349.1) (c' := y_349.2) (st' := [.int y_349.1, .ref ta.1]) lkX10_claim lVL_101 (kC_claim (xl x) (xD x) (xy x) ta kf_335 sf zQ_335 zS y_335.2 (9 : Int32) (0 : Int32) (2 : Int32) (1 : Int32) y_349 hk_335 hs h_349) rfl ⟨⟨Nat.le_of_ble_eq_true rfl, Nat.le_of_ble_eq_true rfl⟩, ⟨rfl, rfl⟩, ⟨Nat.le_of_ble_eq_true rfl, Nat.le_of_ble_eq_true rfl⟩⟩ rfl rfl (Nat.le_of_ble_eq_true rfl) rfl dL_codes_349 (fun kf_349 zQ_349 hk_349 => ?_)
                                              refine g_sipush C (pc := 352) dL_codes_352 ck_sipush_275 ?_
                                              obtain ⟨y_355, h_355, hf⟩ := k_bd hf
                                              refine g_callO C (pc := 355) (As := [.int y_349.1, .int (275 : Int32)]) (rest := []) (v1 := .int y_355.1) (c' := y_355.2) (st' := [.int y_355.1]) lkX10_holds lVL_51 (kC_holds (xl x) (xD x) (xy x) ta kf_349 sf zQ_349 zS y_349.2 y_349.1 (275 : Int32) y_355 hk_349 hs h_355) rfl ⟨⟨Nat.le_of_ble_eq_true rfl, Nat.le_of_ble_eq_true rfl⟩, ⟨rfl, rfl⟩, ⟨Nat.le_of_ble_eq_true rfl, Nat.le_of_ble_eq_true rfl⟩⟩ rfl rfl (Nat.le_of_ble_eq_true rfl) rfl dL_codes_355 (fun kf_355 zQ_355 hk_355 => ?_)
                                              refine g_iconst C (pc := 358) dL_codes_358 ck_iconst_1 ?_
                                              refine g_icmp_ne C (pc := 359) 453 dL_codes_359 (by decide) (fun c_359 => ?_) (fun c_359 => ?_)
                                              · replace hf := (k_if hf).2 c_359
                                                refine g_iconst C (pc := 453) dL_codes_453 ck_iconst_0 ?_
                                                cases hf
                                                exact g_wid (Nat.le_of_ble_eq_true rfl) (Nat.le_of_ble_eq_true rfl) (g_zret C E rfl (pc := 454) dL_codes_454 rfl)
                                              · replace hf := (k_if hf).1 c_359
                                                refine g_aload_n C (pc := 362) 0 dL_codes_362 rfl rfl ?_
                                                refine g_aload_n C (pc := 363) 0 dL_codes_363 rfl rfl ?_
                                                refine g_bipush C (pc := 364) dL_codes_364 ck_bipush_9 ?_
                                                refine g_iconst C (pc := 366) dL_codes_366 ck_iconst_0 ?_
                                                refine g_iconst C (pc := 367) dL_codes_367 ck_iconst_1 ?_
                                                refine g_iconst C (pc := 368) dL_codes_368 ck_iconst_1 ?_
                                                obtain ⟨y_369, h_369, hf⟩ := k_bd hf
                                                refine g_callO C (pc := 369) (As := [.int (9 : Int32), .int (0 : Int32), .int (1 : Int32), .int (1 : Int32)]) (rest := [.ref ta.1]) (v1 := .int y_369.1) (c' := y_369.2) (st' := [.int y_369.1, .ref ta.1]) lkX10_claim lVL_101 (kC_claim (xl x) (xD x) (xy x) ta kf_355 sf zQ_355 zS y_355.2 (9 : Int32) (0 : Int32) (1 : Int32) (1 : Int32) y_369 hk_355 hs h_369) rfl ⟨⟨Nat.le_of_ble_eq_true rfl, Nat.le_of_ble_eq_true rfl⟩, ⟨rfl, rfl⟩, ⟨Nat.le_of_ble_eq_true rfl, Nat.le_of_ble_eq_true rfl⟩⟩ rfl rfl (Nat.le_of_ble_eq_true rfl) rfl dL_codes_369 (fun kf_369 zQ_369 hk_369 => ?_)
                                                refine g_sipush C (pc := 372) dL_codes_372 ck_sipush_275 ?_
                                                obtain ⟨y_375, h_375, hf⟩ := k_bd hf
                                                refine g_callO C (pc := 375) (As := [.int y_369.1, .int (275 : Int32)]) (rest := []) (v1 := .int y_375.1) (c' := y_375.2) (st' := [.int y_375.1]) lkX10_holds lVL_51 (kC_holds (xl x) (xD x) (xy x) ta kf_369 sf zQ_369 zS y_369.2 y_369.1 (275 : Int32) y_375 hk_369 hs h_375) rfl ⟨⟨Nat.le_of_ble_eq_true rfl, Nat.le_of_ble_eq_true rfl⟩, ⟨rfl, rfl⟩, ⟨Nat.le_of_ble_eq_true rfl, Nat.le_of_ble_eq_true rfl⟩⟩ rfl rfl (Nat.le_of_ble_eq_true rfl) rfl dL_codes_375 (fun kf_375 zQ_375 hk_375 => ?_)
                                                refine g_if_ne C (pc := 378) 453 dL_codes_378 (by decide) (fun c_378 => ?_) (fun c_378 => ?_)
                                                · replace hf := (k_if hf).2 c_378
                                                  refine g_iconst C (pc := 453) dL_codes_453 ck_iconst_0 ?_
                                                  cases hf
                                                  exact g_wid (Nat.le_of_ble_eq_true rfl) (Nat.le_of_ble_eq_true rfl) (g_zret C E rfl (pc := 454) dL_codes_454 rfl)
                                                · replace hf := (k_if hf).1 c_378
                                                  refine g_aload_n C (pc := 381) 0 dL_codes_381 rfl rfl ?_
                                                  refine g_aload_n C (pc := 382) 0 dL_codes_382 rfl rfl ?_
                                                  refine g_iconst C (pc := 383) dL_codes_383 ck_iconst_3 ?_
                                                  refine g_iconst C (pc := 384) dL_codes_384 ck_iconst_2 ?_
                                                  refine g_iconst C (pc := 385) dL_codes_385 ck_iconst_0 ?_
                                                  refine g_iconst C (pc := 386) dL_codes_386 ck_iconst_3 ?_
                                                  obtain ⟨y_387, h_387, hf⟩ := k_bd hf
                                                  refine g_callO C (pc := 387) (As := [.int (3 : Int32), .int (2 : Int32), .int (0 : Int32), .int (3 : Int32)]) (rest := [.ref ta.1]) (v1 := .int y_387.1) (c' := y_387.2) (st' := [.int y_387.1, .ref ta.1]) lkX10_claim lVL_101 (kC_claim (xl x) (xD x) (xy x) ta kf_375 sf zQ_375 zS y_375.2 (3 : Int32) (2 : Int32) (0 : Int32) (3 : Int32) y_387 hk_375 hs h_387) rfl ⟨⟨Nat.le_of_ble_eq_true rfl, Nat.le_of_ble_eq_true rfl⟩, ⟨rfl, rfl⟩, ⟨Nat.le_of_ble_eq_true rfl, Nat.le_of_ble_eq_true rfl⟩⟩ rfl rfl (Nat.le_of_ble_eq_true rfl) rfl dL_codes_387 (fun kf_387 zQ_387 hk_387 => ?_)
                                                  refine g_sipush C (pc := 390) dL_codes_390 ck_sipush_275 ?_
                                                  obtain ⟨y_393, h_393, hf⟩ := k_bd hf
                                                  refine g_callO C (pc := 393) (As := [.int y_387.1, .int (275 : Int32)]) (rest := []) (v1 := .int y_393.1) (c' := y_393.2) (st' := [.int y_393.1]) lkX10_holds lVL_51 (kC_holds (xl x) (xD x) (xy x) ta kf_387 sf zQ_387 zS y_387.2 y_387.1 (275 : Int32) y_393 hk_387 hs h_393) rfl ⟨⟨Nat.le_of_ble_eq_true rfl, Nat.le_of_ble_eq_true rfl⟩, ⟨rfl, rfl⟩, ⟨Nat.le_of_ble_eq_true rfl, Nat.le_of_ble_eq_true rfl⟩⟩ rfl rfl (Nat.le_of_ble_eq_true rfl) rfl dL_codes_393 (fun kf_393 zQ_393 hk_393 => ?_)
                                                  refine g_iconst C (pc := 396) dL_codes_396 ck_iconst_1 ?_
                                                  refine g_icmp_ne C (pc := 397) 453 dL_codes_397 (by decide) (fun c_397 => ?_) (fun c_397 => ?_)
                                                  · replace hf := (k_if hf).2 c_397
                                                    refine g_iconst C (pc := 453) dL_codes_453 ck_iconst_0 ?_
                                                    cases hf
                                                    exact g_wid (Nat.le_of_ble_eq_true rfl) (Nat.le_of_ble_eq_true rfl) (g_zret C E rfl (pc := 454) dL_codes_454 rfl)
                                                  · replace hf := (k_if hf).1 c_397
                                                    refine g_aload_n C (pc := 400) 0 dL_codes_400 rfl rfl ?_
                                                    refine g_aload_n C (pc := 401) 0 dL_codes_401 rfl rfl ?_
                                                    refine g_iconst C (pc := 402) dL_codes_402 ck_iconst_4 ?_
                                                    refine g_iconst C (pc := 403) dL_codes_403 ck_iconst_2 ?_
                                                    refine g_iconst C (pc := 404) dL_codes_404 ck_iconst_0 ?_
                                                    refine g_iconst C (pc := 405) dL_codes_405 ck_iconst_4 ?_
                                                    obtain ⟨y_406, h_406, hf⟩ := k_bd hf
                                                    refine g_callO C (pc := 406) (As := [.int (4 : Int32), .int (2 : Int32), .int (0 : Int32), .int (4 : Int32)]) (rest := [.ref ta.1]) (v1 := .int y_406.1) (c' := y_406.2) (st' := [.int y_406.1, .ref ta.1]) lkX10_claim lVL_101 (kC_claim (xl x) (xD x) (xy x) ta kf_393 sf zQ_393 zS y_393.2 (4 : Int32) (2 : Int32) (0 : Int32) (4 : Int32) y_406 hk_393 hs h_406) rfl ⟨⟨Nat.le_of_ble_eq_true rfl, Nat.le_of_ble_eq_true rfl⟩, ⟨rfl, rfl⟩, ⟨Nat.le_of_ble_eq_true rfl, Nat.le_of_ble_eq_true rfl⟩⟩ rfl rfl (Nat.le_of_ble_eq_true rfl) rfl dL_codes_406 (fun kf_406 zQ_406 hk_406 => ?_)
                                                    refine g_sipush C (pc := 409) dL_codes_409 ck_sipush_275 ?_
                                                    obtain ⟨y_412, h_412, hf⟩ := k_bd hf
                                                    refine g_callO C (pc := 412) (As := [.int y_406.1, .int (275 : Int32)]) (rest := []) (v1 := .int y_412.1) (c' := y_412.2) (st' := [.int y_412.1]) lkX10_holds lVL_51 (kC_holds (xl x) (xD x) (xy x) ta kf_406 sf zQ_406 zS y_406.2 y_406.1 (275 : Int32) y_412 hk_406 hs h_412) rfl ⟨⟨Nat.le_of_ble_eq_true rfl, Nat.le_of_ble_eq_true rfl⟩, ⟨rfl, rfl⟩, ⟨Nat.le_of_ble_eq_true rfl, Nat.le_of_ble_eq_true rfl⟩⟩ rfl rfl (Nat.le_of_ble_eq_true rfl) rfl dL_codes_412 (fun kf_412 zQ_412 hk_412 => ?_)
                                                    refine g_if_ne C (pc := 415) 453 dL_codes_415 (by decide) (fun c_415 => ?_) (fun c_415 => ?_)
                                                    · replace hf := (k_if hf).2 c_415
                                                      refine g_iconst C (pc := 453) dL_codes_453 ck_iconst_0 ?_
                                                      cases hf
                                                      exact g_wid (Nat.le_of_ble_eq_true rfl) (Nat.le_of_ble_eq_true rfl) (g_zret C E rfl (pc := 454) dL_codes_454 rfl)
                                                    · replace hf := (k_if hf).1 c_415
                                                      refine g_aload_n C (pc := 418) 0 dL_codes_418 rfl rfl ?_
                                                      refine g_aload_n C (pc := 419) 0 dL_codes_419 rfl rfl ?_
                                                      refine g_iconst C (pc := 420) dL_codes_420 ck_iconst_2 ?_
                                                      refine g_iconst C (pc := 421) dL_codes_421 ck_iconst_1 ?_
                                                      refine g_iconst C (pc := 422) dL_codes_422 ck_iconst_0 ?_
                                                      refine g_iconst C (pc := 423) dL_codes_423 ck_iconst_2 ?_
                                                      obtain ⟨y_424, h_424, hf⟩ := k_bd hf
                                                      refine g_callO C (pc := 424) (As := [.int (2 : Int32), .int (1 : Int32), .int (0 : Int32), .int (2 : Int32)]) (rest := [.ref ta.1]) (v1 := .int y_424.1) (c' := y_424.2) (st' := [.int y_424.1, .ref ta.1]) lkX10_claim lVL_101 (kC_claim (xl x) (xD x) (xy x) ta kf_412 sf zQ_412 zS y_412.2 (2 : Int32) (1 : Int32) (0 : Int32) (2 : Int32) y_424 hk_412 hs h_424) rfl ⟨⟨Nat.le_of_ble_eq_true rfl, Nat.le_of_ble_eq_true rfl⟩, ⟨rfl, rfl⟩, ⟨Nat.le_of_ble_eq_true rfl, Nat.le_of_ble_eq_true rfl⟩⟩ rfl rfl (Nat.le_of_ble_eq_true rfl) rfl dL_codes_424 (fun kf_424 zQ_424 hk_424 => ?_)
                                                      refine g_sipush C (pc := 427) dL_codes_427 ck_sipush_275 ?_
                                                      obtain ⟨y_430, h_430, hf⟩ := k_bd hf
                                                      refine g_callO C (pc := 430) (As := [.int y_424.1, .int (275 : Int32)]) (rest := []) (v1 := .int y_430.1) (c' := y_430.2) (st' := [.int y_430.1]) lkX10_holds lVL_51 (kC_holds (xl x) (xD x) (xy x) ta kf_424 sf zQ_424 zS y_424.2 y_424.1 (275 : Int32) y_430 hk_424 hs h_430) rfl ⟨⟨Nat.le_of_ble_eq_true rfl, Nat.le_of_ble_eq_true rfl⟩, ⟨rfl, rfl⟩, ⟨Nat.le_of_ble_eq_true rfl, Nat.le_of_ble_eq_true rfl⟩⟩ rfl rfl (Nat.le_of_ble_eq_true rfl) rfl dL_codes_430 (fun kf_430 zQ_430 hk_430 => ?_)
                                                      refine g_if_ne C (pc := 433) 453 dL_codes_433 (by decide) (fun c_433 => ?_) (fun c_433 => ?_)
                                                      · replace hf := (k_if hf).2 c_433
                                                        refine g_iconst C (pc := 453) dL_codes_453 ck_iconst_0 ?_
                                                        cases hf
                                                        exact g_wid (Nat.le_of_ble_eq_true rfl) (Nat.le_of_ble_eq_true rfl) (g_zret C E rfl (pc := 454) dL_codes_454 rfl)
                                                      · replace hf := (k_if hf).1 c_433
                                                        refine g_aload_n C (pc := 436) 0 dL_codes_436 rfl rfl ?_
                                                        refine g_sipush C (pc := 437) dL_codes_437 ck_sipush_690 ?_
                                                        refine g_bipush C (pc := 440) dL_codes_440 ck_bipush_56 ?_
                                                        obtain ⟨y_442, h_442, hf⟩ := k_bd hf
                                                        refine g_callO C (pc := 442) (As := [.int (690 : Int32), .int (56 : Int32)]) (rest := []) (v1 := .int y_442.1) (c' := y_442.2) (st' := [.int y_442.1]) lkX10_holds lVL_51 (kC_holds (xl x) (xD x) (xy x) ta kf_430 sf zQ_430 zS y_430.2 (690 : Int32) (56 : Int32) y_442 hk_430 hs h_442) rfl ⟨⟨Nat.le_of_ble_eq_true rfl, Nat.le_of_ble_eq_true rfl⟩, ⟨rfl, rfl⟩, ⟨Nat.le_of_ble_eq_true rfl, Nat.le_of_ble_eq_true rfl⟩⟩ rfl rfl (Nat.le_of_ble_eq_true rfl) rfl dL_codes_442 (fun kf_442 zQ_442 hk_442 => ?_)
                                                        refine g_iconst C (pc := 445) dL_codes_445 ck_iconst_1 ?_
                                                        refine g_icmp_ne C (pc := 446) 453 dL_codes_446 (by decide) (fun c_446 => ?_) (fun c_446 => ?_)
                                                        · replace hf := (k_if hf).2 c_446
                                                          refine g_iconst C (pc := 453) dL_codes_453 ck_iconst_0 ?_
                                                          cases hf
                                                          exact g_wid (Nat.le_of_ble_eq_true rfl) (Nat.le_of_ble_eq_true rfl) (g_zret C E rfl (pc := 454) dL_codes_454 rfl)
                                                        · replace hf := (k_if hf).1 c_446
                                                          refine g_iconst C (pc := 449) dL_codes_449 ck_iconst_1 ?_
                                                          refine g_goto C (pc := 450) (tgt := 454) dL_codes_450 (by decide) ?_
                                                          cases hf
                                                          exact g_wid (Nat.le_of_ble_eq_true rfl) (Nat.le_of_ble_eq_true rfl) (g_zret C E rfl (pc := 454) dL_codes_454 rfl)
                                  · replace hf := (k_if hf).2 c_239
                                    refine g_iconst C (pc := 242) dL_codes_242 ck_iconst_0 ?_
                                    cases hf
                                    exact g_wid (Nat.le_of_ble_eq_true rfl) (Nat.le_of_ble_eq_true rfl) (g_zret C E rfl (pc := 243) dL_codes_243 rfl)
set_option maxRecDepth 100000 in
theorem cL_codes_k (l : Launch) (D : va_G) (yy : Nat → ClassId)  (o : Int32) (hf : fL_codes  = some o) : GMet l yL_codes cL_codes 1 (some .boolean) rmL_codes 187 8998 D yy [] ([]) (fun zv _ => zv = some ((.int o))) :=
  g_met (by decide +kernel) (Nat.le_of_ble_eq_true rfl) (fun x hl hD hy hn C E _ => by subst hD; subst hy; exact (eL_codes x C hn  o E hf))
