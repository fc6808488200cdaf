def rmL_carried : Room := { frames := 8, cells := 187, slots := 8998, locals := 190 }
def gL_carried_375  (a_375 : Int32 × CS) : Option ((Int32 × CS) ⊕ ((Int32 × CS) ⊕ (Int32))) :=
  if (10 : Int32) ≤ a_375.1 then some (.inr (.inl (a_375.1, a_375.2))) else bd (oC_put a_375.2 (7740398493674204011 : Int64)) fun y_385 : Int32 × CS => if y_385.1 = (((8 : Int32) * a_375.1) + (8 : Int32)) then some (.inl (a_375.1 + 1, y_385.2)) else some (.inr (.inr (0 : Int32)))
set_option maxRecDepth 100000 in
set_option maxHeartbeats 4000000 in
theorem bL_carried_375 (x : GX) (C : GC x cL_carried RL rmL_carried) (N : xn x = 2) (ta : TA) (kf : Nat → Option Nat) (sf : Nat → Option Nat) (zQ : Nat → Nat → Nat) (zS : Nat → Nat → Nat) (a_375 : Int32 × CS) (o : Int32) (r : (Int32 × CS) ⊕ ((Int32 × CS) ⊕ (Int32))) (hk : HK kf zQ) (hs : HS sf zS) (E : GE x (some .boolean) 187 8998 (fun zv _ => zv = some ((.int o)))) (hf : gL_carried_375 a_375 = some r) (kn : ∀ e : Int32 × CS, r = .inl e → ∀ (kf : Nat → Option Nat) (zQ : Nat → Nat → Nat), HK kf zQ → GW x 187 8998 (tkw (xy x) ta kf sf zQ zS e.2 ++ []) [(0, .ref ta.1), (1, .int e.1)] 375 []) (kx : ∀ e : Int32 × CS, r = .inr (.inl e) → ∀ (kf : Nat → Option Nat) (zQ : Nat → Nat → Nat), HK kf zQ → GW x 187 8998 (tkw (xy x) ta kf sf zQ zS e.2 ++ []) [(0, .ref ta.1)] 406 []) (kr : ∀ o' : Int32, r = .inr (.inr o') → o' = o) : GW x 187 8998 (tkw (xy x) ta kf sf zQ zS a_375.2 ++ []) [(0, .ref ta.1), (1, .int a_375.1)] 375 [] := by
  unfold gL_carried_375 at hf
  refine g_iload_n C (pc := 375) 1 dL_carried_375 rfl rfl ?_
  refine g_bipush C (pc := 376) dL_carried_376 ck_bipush_10 ?_
  refine g_icmp_ge C (pc := 378) 406 dL_carried_378 (by decide) (fun c_378 => ?_) (fun c_378 => ?_)
  · replace hf := (k_if hf).1 c_378
    cases hf
    exact g_lo [0] rfl (kx (a_375.1, a_375.2) rfl kf zQ hk)
  · replace hf := (k_if hf).2 c_378
    refine g_aload_n C (pc := 381) 0 dL_carried_381 rfl rfl ?_
    refine g_ldc2 C (pc := 382) lcL_226 dL_carried_382 ?_
    obtain ⟨y_385, h_385, hf⟩ := k_bd hf
    refine g_callO C (pc := 385) (As := [.long (7740398493674204011 : Int64)]) (rest := []) (v1 := .int y_385.1) (c' := y_385.2) (st' := [.int y_385.1]) lkX10_put lVL_78 (kC_put (xl x) (xD x) (xy x) ta kf sf zQ zS a_375.2 (7740398493674204011 : Int64) y_385 hk hs h_385) rfl ⟨⟨Nat.le_of_ble_eq_true rfl, Nat.le_of_ble_eq_true rfl⟩, ⟨rfl, rfl⟩, ⟨Nat.le_of_ble_eq_true rfl, Nat.le_of_ble_eq_true rfl⟩⟩ rfl rfl (Nat.le_of_ble_eq_true rfl) rfl dL_carried_385 (fun kf_385 zQ_385 hk_385 => ?_)
    refine g_bipush C (pc := 388) dL_carried_388 ck_bipush_8 ?_
    refine g_iload_n C (pc := 390) 1 dL_carried_390 rfl rfl ?_
    refine g_imul C (pc := 391) dL_carried_391 ?_
    refine g_bipush C (pc := 392) dL_carried_392 ck_bipush_8 ?_
    refine g_iadd C (pc := 394) dL_carried_394 ?_
    refine g_icmp_eq C (pc := 395) 400 dL_carried_395 (by decide) (fun c_395 => ?_) (fun c_395 => ?_)
    · replace hf := (k_if hf).1 c_395
      refine g_iinc C (pc := 400) (v := a_375.1 + 1) (lo' := [(1, .int (a_375.1 + 1)), (0, .ref ta.1)]) 1 dL_carried_400 rfl (congrArg (HAdd.hAdd _) ck_iinc_1) N rfl rfl ?_
      refine g_goto C (pc := 403) (tgt := 375) dL_carried_403 (by decide) ?_
      cases hf
      exact g_lo [1, 0] rfl (kn (a_375.1 + 1, y_385.2) rfl kf_385 zQ_385 hk_385)
    · replace hf := (k_if hf).2 c_395
      refine g_iconst C (pc := 398) dL_carried_398 ck_iconst_0 ?_
      cases hf
      have ho := kr _ rfl
      cases ho
      exact g_wid (Nat.le_of_ble_eq_true rfl) (Nat.le_of_ble_eq_true rfl) (g_zret C E rfl (pc := 399) dL_carried_399 rfl)
set_option maxRecDepth 100000 in
def fL_carried  : Option (Int32) :=
  bd newC fun y_4 : CS => bd (fL_puts y_4 (8298509452699577137 : Int64)) fun y_12 : Int32 × CS => if y_12.1 = 0 then some (0 : Int32) else bd (fL_puts y_12.2 (4279370982167896931 : Int64)) fun y_22 : Int32 × CS => if y_22.1 = 0 then some (0 : Int32) else bd (fL_puts y_22.2 (4409089333213356592 : Int64)) fun y_32 : Int32 × CS => if y_32.1 = 0 then some (0 : Int32) else bd (fL_puts y_32.2 (16732574817925995 : Int64)) fun y_42 : Int32 × CS => if y_42.1 = 0 then some (0 : Int32) else bd (oC_count y_42.2 (11 : Int32)) fun y_51 : Int32 × CS => if y_51.1 = (31 : Int32) then bd (oC_carryOut y_51.2) fun y_60 : Int32 × CS => if y_60.1 = (6 : Int32) then bd (oC_count y_60.2 (11 : Int32)) fun y_71 : Int32 × CS => if y_71.1 = 0 then bd (oC_count y_71.2 (12 : Int32)) fun y_80 : Int32 × CS => if y_80.1 = (1 : Int32) then bd (oC_count y_80.2 (0 : Int32)) fun y_89 : Int32 × CS => if y_89.1 = (1 : Int32) then bd (oC_count y_89.2 (1 : Int32)) fun y_98 : Int32 × CS => if y_98.1 = (3 : Int32) then bd (fL_isCandidate y_98.2 (0 : Int32) (3 : Int32) (384 : Int32) (0 : Int32) (1 : Int32)) fun y_113 : Int32 × CS => if y_113.1 = 0 then some (0 : Int32) else bd (oC_ofCandidate y_113.2 (0 : Int32) (0 : Int32)) fun y_122 : Int32 × CS => if y_122.1 = (418 : Int32) then bd (oC_ofCandidate y_122.2 (1 : Int32) (0 : Int32)) fun y_134 : Int32 × CS => if y_134.1 = (232 : Int32) then bd (fL_isCandidate y_134.2 (2 : Int32) (2 : Int32) (64 : Int32) (0 : Int32) (-6 : Int32)) fun y_151 : Int32 × CS => if y_151.1 = 0 then some (0 : Int32) else bd (fL_puts y_151.2 (109269292759915 : Int64)) fun y_163 : Int32 × CS => if y_163.1 = 0 then some (0 : Int32) else bd (oC_carryOut y_163.2) fun y_170 : Int32 × CS => if y_170.1 = 0 then bd (oC_count y_170.2 (12 : Int32)) fun y_179 : Int32 × CS => if y_179.1 = (2 : Int32) then bd (fL_puts y_179.2 (125551191800683 : Int64)) fun y_190 : Int32 × CS => if y_190.1 = 0 then some (0 : Int32) else bd (oC_carryOut y_190.2) fun y_197 : Int32 × CS => if y_197.1 = 0 then bd (oC_count y_197.2 (12 : Int32)) fun y_206 : Int32 × CS => if y_206.1 = (3 : Int32) then bd (fL_puts y_206.2 (8314276247528242785 : Int64)) fun y_217 : Int32 × CS => if y_217.1 = 0 then some (0 : Int32) else bd (oC_carryOut y_217.2) fun y_224 : Int32 × CS => if y_224.1 = (1 : Int32) then bd (oC_ofStep y_224.2 (1 : Int32) (0 : Int32)) fun y_234 : Int32 × CS => bd (oC_claim y_234.2 (4 : Int32) (1 : Int32) (0 : Int32) (2 : Int32)) fun y_242 : Int32 × CS => if y_234.1 = y_242.1 then bd (oC_ofStep y_242.2 (1 : Int32) (1 : Int32)) fun y_251 : Int32 × CS => if y_251.1 = (2 : Int32) then bd (oC_ofStep y_251.2 (1 : Int32) (2 : Int32)) fun y_261 : Int32 × CS => if y_261.1 = (2 : Int32) then bd (oC_ofStep y_261.2 (1 : Int32) (3 : Int32)) fun y_271 : Int32 × CS => if y_271.1 = 0 then bd (oC_ofStep y_271.2 (1 : Int32) (4 : Int32)) fun y_280 : Int32 × CS => if y_280.1 = (7 : Int32) then bd (fL_puts y_280.2 (27973918198149435 : Int64)) fun y_292 : Int32 × CS => if y_292.1 = 0 then some (0 : Int32) else bd (fL_puts y_292.2 (25386 : Int64)) fun y_302 : Int32 × CS => if y_302.1 = 0 then some (0 : Int32) else bd (oC_carryOut y_302.2) fun y_309 : Int32 × CS => if y_309.1 = (2 : Int32) then bd (oC_ofCandidate y_309.2 (3 : Int32) (0 : Int32)) fun y_319 : Int32 × CS => bd (oC_claim y_319.2 (6 : Int32) (1 : Int32) (0 : Int32) (-1 : Int32)) fun y_328 : Int32 × CS => if y_319.1 = y_328.1 then bd (fL_puts y_328.2 (27451 : Int64)) fun y_338 : Int32 × CS => if y_338.1 = 0 then some (0 : Int32) else bd (oC_carryOut y_338.2) fun y_345 : Int32 × CS => if y_345.1 = (-3 : Int32) then bd (oC_count y_345.2 (11 : Int32)) fun y_356 : Int32 × CS => if y_356.1 = (2 : Int32) then bd (oC_wipe y_356.2) fun y_364 : Int32 × CS => if y_364.1 = (2 : Int32) then bd (iter gL_carried_375 FU ((0 : Int32), y_364.2)) fun b_375 : (Int32 × CS) ⊕ (Int32) => Sum.elim (fun e_375 : Int32 × CS => bd (oC_put e_375.2 (107 : Int64)) fun y_410 : Int32 × CS => if y_410.1 = (-4 : Int32) then bd (oC_wipe y_410.2) fun y_419 : Int32 × CS => if y_419.1 = (80 : Int32) then bd (oC_undo y_419.2) fun y_428 : Int32 × CS => if y_428.1 = (4 : Int32) then bd (oC_count y_428.2 (1 : Int32)) fun y_437 : Int32 × CS => if y_437.1 = (3 : Int32) then some (1 : Int32) else some (0 : Int32) else some (0 : Int32) else some (0 : Int32) else some (0 : Int32)) (fun o_375 : Int32 => some o_375) b_375 else some (0 : Int32) else some (0 : Int32) else some (0 : Int32) else some (0 : Int32) else some (0 : Int32) else some (0 : Int32) else some (0 : Int32) else some (0 : Int32) else some (0 : Int32) else some (0 : Int32) else some (0 : Int32) else some (0 : Int32) else some (0 : Int32) else some (0 : Int32) else some (0 : Int32) else some (0 : Int32) else some (0 : Int32) else some (0 : Int32) else some (0 : Int32) else some (0 : Int32) else some (0 : Int32) else some (0 : Int32) else some (0 : Int32)
set_option maxRecDepth 100000 in
set_option maxHeartbeats 4000000 in
theorem eL_carried (x : GX) (C : GC x cL_carried RL rmL_carried) (N : xn x = 2)  (o : Int32) (E : GE x (some .boolean) 187 8998 (fun zv _ => zv = some ((.int o)))) (hf : fL_carried  = some o)  : GW x 0 0 [] [] 0 [] := by
  unfold fL_carried at hf
  obtain ⟨y_4, h_4, hf⟩ := k_bd hf
  obtain ⟨ob, h0, h1⟩ := k_bd h_4
  cases h1
  refine g_new C (pc := 0) lWL_14 [.null, .null, .null, .null, .null, .null, .null] (fun j hj => by rcases (show j = 0 ∨ j = 1 ∨ j = 2 ∨ j = 3 ∨ j = 4 ∨ j = 5 ∨ j = 6 by omega) with rfl | rfl | rfl | rfl | rfl | rfl | rfl <;> rfl) ⟨Nat.le_of_ble_eq_true rfl, Nat.le_of_ble_eq_true rfl⟩ dL_carried_0 (fun qk => ?_)
  refine g_dup C (pc := 3) dL_carried_3 rfl ?_
  refine g_callJ C (pc := 4) (b := qk) (As := []) (rest := [.ref qk]) (wr := []) (wc := [newT qk]) lkX10_init lIL_100 (cX10_init_k (xl x) (xD x) (xy x) qk ob h0) rfl ⟨⟨Nat.le_of_ble_eq_true rfl, Nat.le_of_ble_eq_true rfl⟩, ⟨rfl, rfl⟩, ⟨Nat.le_of_ble_eq_true rfl, Nat.le_of_ble_eq_true rfl⟩⟩ rfl (Nat.le_of_ble_eq_true rfl) dL_carried_4 rfl (fun zv zw hw => ?_)
  obtain ⟨rfl, ta, kf, sf, zQ, zS, rfl, hk, hs, hw⟩ := hw
  refine g_perm (ws' := tkw (xy x) ta kf sf zQ zS (C0 ob)) hw ?_
  refine g_nil ?_
  show GW x 187 8998 (tkw (xy x) ta kf sf zQ zS (C0 ob) ++ []) _ 7 [.ref ta.1]
  refine g_astore_n C (pc := 7) (lo' := [(0, .ref ta.1)]) dL_carried_7 rfl N rfl rfl ?_
  refine g_aload_n C (pc := 8) 0 dL_carried_8 rfl rfl ?_
  refine g_ldc2 C (pc := 9) lcL_204 dL_carried_9 ?_
  obtain ⟨y_12, h_12, hf⟩ := k_bd hf
  refine g_callOS C (pc := 12) (As := [.ref ta.1, .long (8298509452699577137 : Int64)]) (rest := []) (v1 := .int y_12.1) (c' := y_12.2) (st' := [.int y_12.1]) lkL_puts lSL_135 (cL_puts_k (xl x) (xD x) (xy x) ta kf sf zQ zS (C0 ob) (8298509452699577137 : Int64) y_12 hk hs h_12) rfl ⟨⟨Nat.le_of_ble_eq_true rfl, Nat.le_of_ble_eq_true rfl⟩, ⟨rfl, rfl⟩, ⟨Nat.le_of_ble_eq_true rfl, Nat.le_of_ble_eq_true rfl⟩⟩ rfl (Nat.le_of_ble_eq_true rfl) rfl dL_carried_12 (fun kf_12 zQ_12 hk_12 => ?_)
  refine g_if_eq C (pc := 15) 157 dL_carried_15 (by decide) (fun c_15 => ?_) (fun c_15 => ?_)
  · replace hf := (k_if hf).1 c_15
    refine g_iconst C (pc := 157) dL_carried_157 ck_iconst_0 ?_
    cases hf
    exact g_wid (Nat.le_of_ble_eq_true rfl) (Nat.le_of_ble_eq_true rfl) (g_zret C E rfl (pc := 158) dL_carried_158 rfl)
  · replace hf := (k_if hf).2 c_15
    refine g_aload_n C (pc := 18) 0 dL_carried_18 rfl rfl ?_
    refine g_ldc2 C (pc := 19) lcL_206 dL_carried_19 ?_
    obtain ⟨y_22, h_22, hf⟩ := k_bd hf
    refine g_callOS C (pc := 22) (As := [.ref ta.1, .long (4279370982167896931 : Int64)]) (rest := []) (v1 := .int y_22.1) (c' := y_22.2) (st' := [.int y_22.1]) lkL_puts lSL_135 (cL_puts_k (xl x) (xD x) (xy x) ta kf_12 sf zQ_12 zS y_12.2 (4279370982167896931 : Int64) y_22 hk_12 hs h_22) rfl ⟨⟨Nat.le_of_ble_eq_true rfl, Nat.le_of_ble_eq_true rfl⟩, ⟨rfl, rfl⟩, ⟨Nat.le_of_ble_eq_true rfl, Nat.le_of_ble_eq_true rfl⟩⟩ rfl (Nat.le_of_ble_eq_true rfl) rfl dL_carried_22 (fun kf_22 zQ_22 hk_22 => ?_)
    refine g_if_eq C (pc := 25) 157 dL_carried_25 (by decide) (fun c_25 => ?_) (fun c_25 => ?_)
    · replace hf := (k_if hf).1 c_25
      refine g_iconst C (pc := 157) dL_carried_157 ck_iconst_0 ?_
      cases hf
      exact g_wid (Nat.le_of_ble_eq_true rfl) (Nat.le_of_ble_eq_true rfl) (g_zret C E rfl (pc := 158) dL_carried_158 rfl)
    · replace hf := (k_if hf).2 c_25
      refine g_aload_n C (pc := 28) 0 dL_carried_28 rfl rfl ?_
      refine g_ldc2 C (pc := 29) lcL_208 dL_carried_29 ?_
      obtain ⟨y_32, h_32, hf⟩ := k_bd hf
      refine g_callOS C (pc := 32) (As := [.ref ta.1, .long (4409089333213356592 : Int64)]) (rest := []) (v1 := .int y_32.1) (c' := y_32.2) (st' := [.int y_32.1]) lkL_puts lSL_135 (cL_puts_k (xl x) (xD x) (xy x) ta kf_22 sf zQ_22 zS y_22.2 (4409089333213356592 : Int64) y_32 hk_22 hs h_32) rfl ⟨⟨Nat.le_of_ble_eq_true rfl, Nat.le_of_ble_eq_true rfl⟩, ⟨rfl, rfl⟩, ⟨Nat.le_of_ble_eq_true rfl, Nat.le_of_ble_eq_true rfl⟩⟩ rfl (Nat.le_of_ble_eq_true rfl) rfl dL_carried_32 (fun kf_32 zQ_32 hk_32 => ?_)
      refine g_if_eq C (pc := 35) 157 dL_carried_35 (by decide) (fun c_35 => ?_) (fun c_35 => ?_)
      · replace hf := (k_if hf).1 c_35
        refine g_iconst C (pc := 157) dL_carried_157 ck_iconst_0 ?_
        cases hf
        exact g_wid (Nat.le_of_ble_eq_true rfl) (Nat.le_of_ble_eq_true rfl) (g_zret C E rfl (pc := 158) dL_carried_158 rfl)
      · replace hf := (k_if hf).2 c_35
        refine g_aload_n C (pc := 38) 0 dL_carried_38 rfl rfl ?_
        refine g_ldc2 C (pc := 39) lcL_210 dL_carried_39 ?_
        obtain ⟨y_42, h_42, hf⟩ := k_bd hf
        refine g_callOS C (pc := 42) (As := [.ref ta.1, .long (16732574817925995 : Int64)]) (rest := []) (v1 := .int y_42.1) (c' := y_42.2) (st' := [.int y_42.1]) lkL_puts lSL_135 (cL_puts_k (xl x) (xD x) (xy x) ta kf_32 sf zQ_32 zS y_32.2 (16732574817925995 : Int64) y_42 hk_32 hs h_42) rfl ⟨⟨Nat.le_of_ble_eq_true rfl, Nat.le_of_ble_eq_true rfl⟩, ⟨rfl, rfl⟩, ⟨Nat.le_of_ble_eq_true rfl, Nat.le_of_ble_eq_true rfl⟩⟩ rfl (Nat.le_of_ble_eq_true rfl) rfl dL_carried_42 (fun kf_42 zQ_42 hk_42 => ?_)
        refine g_if_eq C (pc := 45) 157 dL_carried_45 (by decide) (fun c_45 => ?_) (fun c_45 => ?_)
        · replace hf := (k_if hf).1 c_45
          refine g_iconst C (pc := 157) dL_carried_157 ck_iconst_0 ?_
          cases hf
          exact g_wid (Nat.le_of_ble_eq_true rfl) (Nat.le_of_ble_eq_true rfl) (g_zret C E rfl (pc := 158) dL_carried_158 rfl)
        · replace hf := (k_if hf).2 c_45
          refine g_aload_n C (pc := 48) 0 dL_carried_48 rfl rfl ?_
          refine g_bipush C (pc := 49) dL_carried_49 ck_bipush_11 ?_
          obtain ⟨y_51, h_51, hf⟩ := k_bd hf
          refine g_callO C (pc := 51) (As := [.int (11 : Int32)]) (rest := []) (v1 := .int y_51.1) (c' := y_51.2) (st' := [.int y_51.1]) lkX10_count lVL_13 (kC_count (xl x) (xD x) (xy x) ta kf_42 sf zQ_42 zS y_42.2 (11 : Int32) y_51 hk_42 hs h_51) rfl ⟨⟨Nat.le_of_ble_eq_true rfl, Nat.le_of_ble_eq_true rfl⟩, ⟨rfl, rfl⟩, ⟨Nat.le_of_ble_eq_true rfl, Nat.le_of_ble_eq_true rfl⟩⟩ rfl rfl (Nat.le_of_ble_eq_true rfl) rfl dL_carried_51 (fun kf_51 zQ_51 hk_51 => ?_)
          refine g_bipush C (pc := 54) dL_carried_54 ck_bipush_31 ?_
          refine g_icmp_ne C (pc := 56) 157 dL_carried_56 (by decide) (fun c_56 => ?_) (fun c_56 => ?_)
          · replace hf := (k_if hf).2 c_56
            refine g_iconst C (pc := 157) dL_carried_157 ck_iconst_0 ?_
            cases hf
            exact g_wid (Nat.le_of_ble_eq_true rfl) (Nat.le_of_ble_eq_true rfl) (g_zret C E rfl (pc := 158) dL_carried_158 rfl)
          · replace hf := (k_if hf).1 c_56
            refine g_aload_n C (pc := 59) 0 dL_carried_59 rfl rfl ?_
            obtain ⟨y_60, h_60, hf⟩ := k_bd hf
            refine g_callO C (pc := 60) (As := []) (rest := []) (v1 := .int y_60.1) (c' := y_60.2) (st' := [.int y_60.1]) lkX10_carryOut lVL_212 (kC_carryOut (xl x) (xD x) (xy x) ta kf_51 sf zQ_51 zS y_51.2  y_60 hk_51 hs h_60) rfl ⟨⟨Nat.le_of_ble_eq_true rfl, Nat.le_of_ble_eq_true rfl⟩, ⟨rfl, rfl⟩, ⟨Nat.le_of_ble_eq_true rfl, Nat.le_of_ble_eq_true rfl⟩⟩ rfl rfl (Nat.le_of_ble_eq_true rfl) rfl dL_carried_60 (fun kf_60 zQ_60 hk_60 => ?_)
            refine g_bipush C (pc := 63) dL_carried_63 ck_bipush_6 ?_
            refine g_icmp_ne C (pc := 65) 157 dL_carried_65 (by decide) (fun c_65 => ?_) (fun c_65 => ?_)
            · replace hf := (k_if hf).2 c_65
              refine g_iconst C (pc := 157) dL_carried_157 ck_iconst_0 ?_
              cases hf
              exact g_wid (Nat.le_of_ble_eq_true rfl) (Nat.le_of_ble_eq_true rfl) (g_zret C E rfl (pc := 158) dL_carried_158 rfl)
            · replace hf := (k_if hf).1 c_65
              refine g_aload_n C (pc := 68) 0 dL_carried_68 rfl rfl ?_
              refine g_bipush C (pc := 69) dL_carried_69 ck_bipush_11 ?_
              obtain ⟨y_71, h_71, hf⟩ := k_bd hf
              refine g_callO C (pc := 71) (As := [.int (11 : Int32)]) (rest := []) (v1 := .int y_71.1) (c' := y_71.2) (st' := [.int y_71.1]) lkX10_count lVL_13 (kC_count (xl x) (xD x) (xy x) ta kf_60 sf zQ_60 zS y_60.2 (11 : Int32) y_71 hk_60 hs h_71) rfl ⟨⟨Nat.le_of_ble_eq_true rfl, Nat.le_of_ble_eq_true rfl⟩, ⟨rfl, rfl⟩, ⟨Nat.le_of_ble_eq_true rfl, Nat.le_of_ble_eq_true rfl⟩⟩ rfl rfl (Nat.le_of_ble_eq_true rfl) rfl dL_carried_71 (fun kf_71 zQ_71 hk_71 => ?_)
              refine g_if_ne C (pc := 74) 157 dL_carried_74 (by decide) (fun c_74 => ?_) (fun c_74 => ?_)
              · replace hf := (k_if hf).2 c_74
                refine g_iconst C (pc := 157) dL_carried_157 ck_iconst_0 ?_
                cases hf
                exact g_wid (Nat.le_of_ble_eq_true rfl) (Nat.le_of_ble_eq_true rfl) (g_zret C E rfl (pc := 158) dL_carried_158 rfl)
              · replace hf := (k_if hf).1 c_74
                refine g_aload_n C (pc := 77) 0 dL_carried_77 rfl rfl ?_
                refine g_bipush C (pc := 78) dL_carried_78 ck_bipush_12 ?_
                obtain ⟨y_80, h_80, hf⟩ := k_bd hf
                refine g_callO C (pc := 80) (As := [.int (12 : Int32)]) (rest := []) (v1 := .int y_80.1) (c' := y_80.2) (st' := [.int y_80.1]) lkX10_count lVL_13 (kC_count (xl x) (xD x) (xy x) ta kf_71 sf zQ_71 zS y_71.2 (12 : Int32) y_80 hk_71 hs h_80) rfl ⟨⟨Nat.le_of_ble_eq_true rfl, Nat.le_of_ble_eq_true rfl⟩, ⟨rfl, rfl⟩, ⟨Nat.le_of_ble_eq_true rfl, Nat.le_of_ble_eq_true rfl⟩⟩ rfl rfl (Nat.le_of_ble_eq_true rfl) rfl dL_carried_80 (fun kf_80 zQ_80 hk_80 => ?_)
                refine g_iconst C (pc := 83) dL_carried_83 ck_iconst_1 ?_
                refine g_icmp_ne C (pc := 84) 157 dL_carried_84 (by decide) (fun c_84 => ?_) (fun c_84 => ?_)
                · replace hf := (k_if hf).2 c_84
                  refine g_iconst C (pc := 157) dL_carried_157 ck_iconst_0 ?_
                  cases hf
                  exact g_wid (Nat.le_of_ble_eq_true rfl) (Nat.le_of_ble_eq_true rfl) (g_zret C E rfl (pc := 158) dL_carried_158 rfl)
                · replace hf := (k_if hf).1 c_84
                  refine g_aload_n C (pc := 87) 0 dL_carried_87 rfl rfl ?_
                  refine g_iconst C (pc := 88) dL_carried_88 ck_iconst_0 ?_
                  obtain ⟨y_89, h_89, hf⟩ := k_bd hf
                  refine g_callO C (pc := 89) (As := [.int (0 : Int32)]) (rest := []) (v1 := .int y_89.1) (c' := y_89.2) (st' := [.int y_89.1]) lkX10_count lVL_13 (kC_count (xl x) (xD x) (xy x) ta kf_80 sf zQ_80 zS y_80.2 (0 : Int32) y_89 hk_80 hs h_89) rfl ⟨⟨Nat.le_of_ble_eq_true rfl, Nat.le_of_ble_eq_true rfl⟩, ⟨rfl, rfl⟩, ⟨Nat.le_of_ble_eq_true rfl, Nat.le_of_ble_eq_true rfl⟩⟩ rfl rfl (Nat.le_of_ble_eq_true rfl) rfl dL_carried_89 (fun kf_89 zQ_89 hk_89 => ?_)
                  refine g_iconst C (pc := 92) dL_carried_92 ck_iconst_1 ?_
                  refine g_icmp_ne C (pc := 93) 157 dL_carried_93 (by decide) (fun c_93 => ?_) (fun c_93 => ?_)
                  · replace hf := (k_if hf).2 c_93
                    refine g_iconst C (pc := 157) dL_carried_157 ck_iconst_0 ?_
                    cases hf
                    exact g_wid (Nat.le_of_ble_eq_true rfl) (Nat.le_of_ble_eq_true rfl) (g_zret C E rfl (pc := 158) dL_carried_158 rfl)
                  · replace hf := (k_if hf).1 c_93
                    refine g_aload_n C (pc := 96) 0 dL_carried_96 rfl rfl ?_
                    refine g_iconst C (pc := 97) dL_carried_97 ck_iconst_1 ?_
                    obtain ⟨y_98, h_98, hf⟩ := k_bd hf
                    refine g_callO C (pc := 98) (As := [.int (1 : Int32)]) (rest := []) (v1 := .int y_98.1) (c' := y_98.2) (st' := [.int y_98.1]) lkX10_count lVL_13 (kC_count (xl x) (xD x) (xy x) ta kf_89 sf zQ_89 zS y_89.2 (1 : Int32) y_98 hk_89 hs h_98) rfl ⟨⟨Nat.le_of_ble_eq_true rfl, Nat.le_of_ble_eq_true rfl⟩, ⟨rfl, rfl⟩, ⟨Nat.le_of_ble_eq_true rfl, Nat.le_of_ble_eq_true rfl⟩⟩ rfl rfl (Nat.le_of_ble_eq_true rfl) rfl dL_carried_98 (fun kf_98 zQ_98 hk_98 => ?_)
                    refine g_iconst C (pc := 101) dL_carried_101 ck_iconst_3 ?_
                    refine g_icmp_ne C (pc := 102) 157 dL_carried_102 (by decide) (fun c_102 => ?_) (fun c_102 => ?_)
                    · replace hf := (k_if hf).2 c_102
                      refine g_iconst C (pc := 157) dL_carried_157 ck_iconst_0 ?_
                      cases hf
                      exact g_wid (Nat.le_of_ble_eq_true rfl) (Nat.le_of_ble_eq_true rfl) (g_zret C E rfl (pc := 158) dL_carried_158 rfl)
                    · replace hf := (k_if hf).1 c_102
                      refine g_aload_n C (pc := 105) 0 dL_carried_105 rfl rfl ?_
                      refine g_iconst C (pc := 106) dL_carried_106 ck_iconst_0 ?_
                      refine g_iconst C (pc := 107) dL_carried_107 ck_iconst_3 ?_
                      refine g_sipush C (pc := 108) dL_carried_108 ck_sipush_384 ?_
                      refine g_iconst C (pc := 111) dL_carried_111 ck_iconst_0 ?_
                      refine g_iconst C (pc := 112) dL_carried_112 ck_iconst_1 ?_
                      obtain ⟨y_113, h_113, hf⟩ := k_bd hf
                      refine g_callOS C (pc := 113) (As := [.ref ta.1, .int (0 : Int32), .int (3 : Int32), .int (384 : Int32), .int (0 : Int32), .int (1 : Int32)]) (rest := []) (v1 := .int y_113.1) (c' := y_113.2) (st' := [.int y_113.1]) lkL_isCandidate lSL_109 (cL_isCandidate_k (xl x) (xD x) (xy x) ta kf_98 sf zQ_98 zS y_98.2 (0 : Int32) (3 : Int32) (384 : Int32) (0 : Int32) (1 : Int32) y_113 hk_98 hs h_113) rfl ⟨⟨Nat.le_of_ble_eq_true rfl, Nat.le_of_ble_eq_true rfl⟩, ⟨rfl, rfl⟩, ⟨Nat.le_of_ble_eq_true rfl, Nat.le_of_ble_eq_true rfl⟩⟩ rfl (Nat.le_of_ble_eq_true rfl) rfl dL_carried_113 (fun kf_113 zQ_113 hk_113 => ?_)
                      refine g_if_eq C (pc := 116) 157 dL_carried_116 (by decide) (fun c_116 => ?_) (fun c_116 => ?_)
                      · replace hf := (k_if hf).1 c_116
                        refine g_iconst C (pc := 157) dL_carried_157 ck_iconst_0 ?_
                        cases hf
                        exact g_wid (Nat.le_of_ble_eq_true rfl) (Nat.le_of_ble_eq_true rfl) (g_zret C E rfl (pc := 158) dL_carried_158 rfl)
                      · replace hf := (k_if hf).2 c_116
                        refine g_aload_n C (pc := 119) 0 dL_carried_119 rfl rfl ?_
                        refine g_iconst C (pc := 120) dL_carried_120 ck_iconst_0 ?_
                        refine g_iconst C (pc := 121) dL_carried_121 ck_iconst_0 ?_
                        obtain ⟨y_122, h_122, hf⟩ := k_bd hf
                        refine g_callO C (pc := 122) (As := [.int (0 : Int32), .int (0 : Int32)]) (rest := []) (v1 := .int y_122.1) (c' := y_122.2) (st' := [.int y_122.1]) lkX10_ofCandidate lVL_23 (kC_ofCandidate (xl x) (xD x) (xy x) ta kf_113 sf zQ_113 zS y_113.2 (0 : Int32) (0 : Int32) y_122 hk_113 hs h_122) rfl ⟨⟨Nat.le_of_ble_eq_true rfl, Nat.le_of_ble_eq_true rfl⟩, ⟨rfl, rfl⟩, ⟨Nat.le_of_ble_eq_true rfl, Nat.le_of_ble_eq_true rfl⟩⟩ rfl rfl (Nat.le_of_ble_eq_true rfl) rfl dL_carried_122 (fun kf_122 zQ_122 hk_122 => ?_)
                        refine g_sipush C (pc := 125) dL_carried_125 ck_sipush_418 ?_
                        refine g_icmp_ne C (pc := 128) 157 dL_carried_128 (by decide) (fun c_128 => ?_) (fun c_128 => ?_)
                        · replace hf := (k_if hf).2 c_128
                          refine g_iconst C (pc := 157) dL_carried_157 ck_iconst_0 ?_
                          cases hf
                          exact g_wid (Nat.le_of_ble_eq_true rfl) (Nat.le_of_ble_eq_true rfl) (g_zret C E rfl (pc := 158) dL_carried_158 rfl)
                        · replace hf := (k_if hf).1 c_128
                          refine g_aload_n C (pc := 131) 0 dL_carried_131 rfl rfl ?_
                          refine g_iconst C (pc := 132) dL_carried_132 ck_iconst_1 ?_
                          refine g_iconst C (pc := 133) dL_carried_133 ck_iconst_0 ?_
                          obtain ⟨y_134, h_134, hf⟩ := k_bd hf
                          refine g_callO C (pc := 134) (As := [.int (1 : Int32), .int (0 : Int32)]) (rest := []) (v1 := .int y_134.1) (c' := y_134.2) (st' := [.int y_134.1]) lkX10_ofCandidate lVL_23 (kC_ofCandidate (xl x) (xD x) (xy x) ta kf_122 sf zQ_122 zS y_122.2 (1 : Int32) (0 : Int32) y_134 hk_122 hs h_134) rfl ⟨⟨Nat.le_of_ble_eq_true rfl, Nat.le_of_ble_eq_true rfl⟩, ⟨rfl, rfl⟩, ⟨Nat.le_of_ble_eq_true rfl, Nat.le_of_ble_eq_true rfl⟩⟩ rfl rfl (Nat.le_of_ble_eq_true rfl) rfl dL_carried_134 (fun kf_134 zQ_134 hk_134 => ?_)
                          refine g_sipush C (pc := 137) dL_carried_137 ck_sipush_232 ?_
                          refine g_icmp_ne C (pc := 140) 157 dL_carried_140 (by decide) (fun c_140 => ?_) (fun c_140 => ?_)
                          · replace hf := (k_if hf).2 c_140
                            refine g_iconst C (pc := 157) dL_carried_157 ck_iconst_0 ?_
                            cases hf
                            exact g_wid (Nat.le_of_ble_eq_true rfl) (Nat.le_of_ble_eq_true rfl) (g_zret C E rfl (pc := 158) dL_carried_158 rfl)
                          · replace hf := (k_if hf).1 c_140
                            refine g_aload_n C (pc := 143) 0 dL_carried_143 rfl rfl ?_
                            refine g_iconst C (pc := 144) dL_carried_144 ck_iconst_2 ?_
                            refine g_iconst C (pc := 145) dL_carried_145 ck_iconst_2 ?_
                            refine g_bipush C (pc := 146) dL_carried_146 ck_bipush_64 ?_
                            refine g_iconst C (pc := 148) dL_carried_148 ck_iconst_0 ?_
                            refine g_bipush C (pc := 149) dL_carried_149 ck_bipush_m6 ?_
                            obtain ⟨y_151, h_151, hf⟩ := k_bd hf
                            refine g_callOS C (pc := 151) (As := [.ref ta.1, .int (2 : Int32), .int (2 : Int32), .int (64 : Int32), .int (0 : Int32), .int (-6 : Int32)]) (rest := []) (v1 := .int y_151.1) (c' := y_151.2) (st' := [.int y_151.1]) lkL_isCandidate lSL_109 (cL_isCandidate_k (xl x) (xD x) (xy x) ta kf_134 sf zQ_134 zS y_134.2 (2 : Int32) (2 : Int32) (64 : Int32) (0 : Int32) (-6 : Int32) y_151 hk_134 hs h_151) rfl ⟨⟨Nat.le_of_ble_eq_true rfl, Nat.le_of_ble_eq_true rfl⟩, ⟨rfl, rfl⟩, ⟨Nat.le_of_ble_eq_true rfl, Nat.le_of_ble_eq_true rfl⟩⟩ rfl (Nat.le_of_ble_eq_true rfl) rfl dL_carried_151 (fun kf_151 zQ_151 hk_151 => ?_)
                            refine g_if_ne C (pc := 154) 159 dL_carried_154 (by decide) (fun c_154 => ?_) (fun c_154 => ?_)
                            · replace hf := (k_if hf).2 c_154
                              refine g_aload_n C (pc := 159) 0 dL_carried_159 rfl rfl ?_
                              refine g_ldc2 C (pc := 160) lcL_215 dL_carried_160 ?_
                              obtain ⟨y_163, h_163, hf⟩ := k_bd hf
                              refine g_callOS C (pc := 163) (As := [.ref ta.1, .long (109269292759915 : Int64)]) (rest := []) (v1 := .int y_163.1) (c' := y_163.2) (st' := [.int y_163.1]) lkL_puts lSL_135 (cL_puts_k (xl x) (xD x) (xy x) ta kf_151 sf zQ_151 zS y_151.2 (109269292759915 : Int64) y_163 hk_151 hs h_163) rfl ⟨⟨Nat.le_of_ble_eq_true rfl, Nat.le_of_ble_eq_true rfl⟩, ⟨rfl, rfl⟩, ⟨Nat.le_of_ble_eq_true rfl, Nat.le_of_ble_eq_true rfl⟩⟩ rfl (Nat.le_of_ble_eq_true rfl) rfl dL_carried_163 (fun kf_163 zQ_163 hk_163 => ?_)
                              refine g_if_eq C (pc := 166) 371 dL_carried_166 (by decide) (fun c_166 => ?_) (fun c_166 => ?_)
                              · replace hf := (k_if hf).1 c_166
                                refine g_iconst C (pc := 371) dL_carried_371 ck_iconst_0 ?_
                                cases hf
                                exact g_wid (Nat.le_of_ble_eq_true rfl) (Nat.le_of_ble_eq_true rfl) (g_zret C E rfl (pc := 372) dL_carried_372 rfl)
                              · replace hf := (k_if hf).2 c_166
                                refine g_aload_n C (pc := 169) 0 dL_carried_169 rfl rfl ?_
                                obtain ⟨y_170, h_170, hf⟩ := k_bd hf
                                refine g_callO C (pc := 170) (As := []) (rest := []) (v1 := .int y_170.1) (c' := y_170.2) (st' := [.int y_170.1]) lkX10_carryOut lVL_212 (kC_carryOut (xl x) (xD x) (xy x) ta kf_163 sf zQ_163 zS y_163.2  y_170 hk_163 hs h_170) rfl ⟨⟨Nat.le_of_ble_eq_true rfl, Nat.le_of_ble_eq_true rfl⟩, ⟨rfl, rfl⟩, ⟨Nat.le_of_ble_eq_true rfl, Nat.le_of_ble_eq_true rfl⟩⟩ rfl rfl (Nat.le_of_ble_eq_true rfl) rfl dL_carried_170 (fun kf_170 zQ_170 hk_170 => ?_)
                                refine g_if_ne C (pc := 173) 371 dL_carried_173 (by decide) (fun c_173 => ?_) (fun c_173 => ?_)
                                · replace hf := (k_if hf).2 c_173
                                  refine g_iconst C (pc := 371) dL_carried_371 ck_iconst_0 ?_
                                  cases hf
                                  exact g_wid (Nat.le_of_ble_eq_true rfl) (Nat.le_of_ble_eq_true rfl) (g_zret C E rfl (pc := 372) dL_carried_372 rfl)
                                · replace hf := (k_if hf).1 c_173
                                  refine g_aload_n C (pc := 176) 0 dL_carried_176 rfl rfl ?_
                                  refine g_bipush C (pc := 177) dL_carried_177 ck_bipush_12 ?_
                                  obtain ⟨y_179, h_179, hf⟩ := k_bd hf
                                  refine g_callO C (pc := 179) (As := [.int (12 : Int32)]) (rest := []) (v1 := .int y_179.1) (c' := y_179.2) (st' := [.int y_179.1]) lkX10_count lVL_13 (kC_count (xl x) (xD x) (xy x) ta kf_170 sf zQ_170 zS y_170.2 (12 : Int32) y_179 hk_170 hs h_179) rfl ⟨⟨Nat.le_of_ble_eq_true rfl, Nat.le_of_ble_eq_true rfl⟩, ⟨rfl, rfl⟩, ⟨Nat.le_of_ble_eq_true rfl, Nat.le_of_ble_eq_true rfl⟩⟩ rfl rfl (Nat.le_of_ble_eq_true rfl) rfl dL_carried_179 (fun kf_179 zQ_179 hk_179 => ?_)
                                  refine g_iconst C (pc := 182) dL_carried_182 ck_iconst_2 ?_
                                  refine g_icmp_ne C (pc := 183) 371 dL_carried_183 (by decide) (fun c_183 => ?_) (fun c_183 => ?_)
                                  · replace hf := (k_if hf).2 c_183
                                    refine g_iconst C (pc := 371) dL_carried_371 ck_iconst_0 ?_
                                    cases hf
                                    exact g_wid (Nat.le_of_ble_eq_true rfl) (Nat.le_of_ble_eq_true rfl) (g_zret C E rfl (pc := 372) dL_carried_372 rfl)
                                  · replace hf := (k_if hf).1 c_183
                                    refine g_aload_n C (pc := 186) 0 dL_carried_186 rfl rfl ?_
                                    refine g_ldc2 C (pc := 187) lcL_217 dL_carried_187 ?_
                                    obtain ⟨y_190, h_190, hf⟩ := k_bd hf
                                    refine g_callOS C (pc := 190) (As := [.ref ta.1, .long (125551191800683 : Int64)]) (rest := []) (v1 := .int y_190.1) (c' := y_190.2) (st' := [.int y_190.1]) lkL_puts lSL_135 (cL_puts_k (xl x) (xD x) (xy x) ta kf_179 sf zQ_179 zS y_179.2 (125551191800683 : Int64) y_190 hk_179 hs h_190) rfl ⟨⟨Nat.le_of_ble_eq_true rfl, Nat.le_of_ble_eq_true rfl⟩, ⟨rfl, rfl⟩, ⟨Nat.le_of_ble_eq_true rfl, Nat.le_of_ble_eq_true rfl⟩⟩ rfl (Nat.le_of_ble_eq_true rfl) rfl dL_carried_190 (fun kf_190 zQ_190 hk_190 => ?_)
                                    refine g_if_eq C (pc := 193) 371 dL_carried_193 (by decide) (fun c_193 => ?_) (fun c_193 => ?_)
                                    · replace hf := (k_if hf).1 c_193
                                      refine g_iconst C (pc := 371) dL_carried_371 ck_iconst_0 ?_
                                      cases hf
                                      exact g_wid (Nat.le_of_ble_eq_true rfl) (Nat.le_of_ble_eq_true rfl) (g_zret C E rfl (pc := 372) dL_carried_372 rfl)
                                    · replace hf := (k_if hf).2 c_193
                                      refine g_aload_n C (pc := 196) 0 dL_carried_196 rfl rfl ?_
                                      obtain ⟨y_197, h_197, hf⟩ := k_bd hf
                                      refine g_callO C (pc := 197) (As := []) (rest := []) (v1 := .int y_197.1) (c' := y_197.2) (st' := [.int y_197.1]) lkX10_carryOut lVL_212 (kC_carryOut (xl x) (xD x) (xy x) ta kf_190 sf zQ_190 zS y_190.2  y_197 hk_190 hs h_197) rfl ⟨⟨Nat.le_of_ble_eq_true rfl, Nat.le_of_ble_eq_true rfl⟩, ⟨rfl, rfl⟩, ⟨Nat.le_of_ble_eq_true rfl, Nat.le_of_ble_eq_true rfl⟩⟩ rfl rfl (Nat.le_of_ble_eq_true rfl) rfl dL_carried_197 (fun kf_197 zQ_197 hk_197 => ?_)
                                      refine g_if_ne C (pc := 200) 371 dL_carried_200 (by decide) (fun c_200 => ?_) (fun c_200 => ?_)
                                      · replace hf := (k_if hf).2 c_200
                                        refine g_iconst C (pc := 371) dL_carried_371 ck_iconst_0 ?_
                                        cases hf
                                        exact g_wid (Nat.le_of_ble_eq_true rfl) (Nat.le_of_ble_eq_true rfl) (g_zret C E rfl (pc := 372) dL_carried_372 rfl)
                                      · replace hf := (k_if hf).1 c_200
                                        refine g_aload_n C (pc := 203) 0 dL_carried_203 rfl rfl ?_
                                        refine g_bipush C (pc := 204) dL_carried_204 ck_bipush_12 ?_
                                        obtain ⟨y_206, h_206, hf⟩ := k_bd hf
                                        refine g_callO C (pc := 206) (As := [.int (12 : Int32)]) (rest := []) (v1 := .int y_206.1) (c' := y_206.2) (st' := [.int y_206.1]) lkX10_count lVL_13 (kC_count (xl x) (xD x) (xy x) ta kf_197 sf zQ_197 zS y_197.2 (12 : Int32) y_206 hk_197 hs h_206) rfl ⟨⟨Nat.le_of_ble_eq_true rfl, Nat.le_of_ble_eq_true rfl⟩, ⟨rfl, rfl⟩, ⟨Nat.le_of_ble_eq_true rfl, Nat.le_of_ble_eq_true rfl⟩⟩ rfl rfl (Nat.le_of_ble_eq_true rfl) rfl dL_carried_206 (fun kf_206 zQ_206 hk_206 => ?_)
                                        refine g_iconst C (pc := 209) dL_carried_209 ck_iconst_3 ?_
                                        refine g_icmp_ne C (pc := 210) 371 dL_carried_210 (by decide) (fun c_210 => ?_) (fun c_210 => ?_)
                                        · replace hf := (k_if hf).2 c_210
                                          refine g_iconst C (pc := 371) dL_carried_371 ck_iconst_0 ?_
                                          cases hf
                                          exact g_wid (Nat.le_of_ble_eq_true rfl) (Nat.le_of_ble_eq_true rfl) (g_zret C E rfl (pc := 372) dL_carried_372 rfl)
                                        · replace hf := (k_if hf).1 c_210
                                          refine g_aload_n C (pc := 213) 0 dL_carried_213 rfl rfl ?_
                                          refine g_ldc2 C (pc := 214) lcL_219 dL_carried_214 ?_
                                          obtain ⟨y_217, h_217, hf⟩ := k_bd hf
                                          refine g_callOS C (pc := 217) (As := [.ref ta.1, .long (8314276247528242785 : Int64)]) (rest := []) (v1 := .int y_217.1) (c' := y_217.2) (st' := [.int y_217.1]) lkL_puts lSL_135 (cL_puts_k (xl x) (xD x) (xy x) ta kf_206 sf zQ_206 zS y_206.2 (8314276247528242785 : Int64) y_217 hk_206 hs h_217) rfl ⟨⟨Nat.le_of_ble_eq_true rfl, Nat.le_of_ble_eq_true rfl⟩, ⟨rfl, rfl⟩, ⟨Nat.le_of_ble_eq_true rfl, Nat.le_of_ble_eq_true rfl⟩⟩ rfl (Nat.le_of_ble_eq_true rfl) rfl dL_carried_217 (fun kf_217 zQ_217 hk_217 => ?_)
                                          refine g_if_eq C (pc := 220) 371 dL_carried_220 (by decide) (fun c_220 => ?_) (fun c_220 => ?_)
                                          · replace hf := (k_if hf).1 c_220
                                            refine g_iconst C (pc := 371) dL_carried_371 ck_iconst_0 ?_
                                            cases hf
                                            exact g_wid (Nat.le_of_ble_eq_true rfl) (Nat.le_of_ble_eq_true rfl) (g_zret C E rfl (pc := 372) dL_carried_372 rfl)
                                          · replace hf := (k_if hf).2 c_220
                                            refine g_aload_n C (pc := 223) 0 dL_carried_223 rfl rfl ?_
                                            obtain ⟨y_224, h_224, hf⟩ := k_bd hf
                                            refine g_callO C (pc := 224) (As := []) (rest := []) (v1 := .int y_224.1) (c' := y_224.2) (st' := [.int y_224.1]) lkX10_carryOut lVL_212 (kC_carryOut (xl x) (xD x) (xy x) ta kf_217 sf zQ_217 zS y_217.2  y_224 hk_217 hs h_224) rfl ⟨⟨Nat.le_of_ble_eq_true rfl, Nat.le_of_ble_eq_true rfl⟩, ⟨rfl, rfl⟩, ⟨Nat.le_of_ble_eq_true rfl, Nat.le_of_ble_eq_true rfl⟩⟩ rfl rfl (Nat.le_of_ble_eq_true rfl) rfl dL_carried_224 (fun kf_224 zQ_224 hk_224 => ?_)
                                            refine g_iconst C (pc := 227) dL_carried_227 ck_iconst_1 ?_
                                            refine g_icmp_ne C (pc := 228) 371 dL_carried_228 (by decide) (fun c_228 => ?_) (fun c_228 => ?_)
                                            · replace hf := (k_if hf).2 c_228
                                              refine g_iconst C (pc := 371) dL_carried_371 ck_iconst_0 ?_
                                              cases hf
                                              exact g_wid (Nat.le_of_ble_eq_true rfl) (Nat.le_of_ble_eq_true rfl) (g_zret C E rfl (pc := 372) dL_carried_372 rfl)
                                            · replace hf := (k_if hf).1 c_228
                                              refine g_aload_n C (pc := 231) 0 dL_carried_231 rfl rfl ?_
                                              refine g_iconst C (pc := 232) dL_carried_232 ck_iconst_1 ?_
                                              refine g_iconst C (pc := 233) dL_carried_233 ck_iconst_0 ?_
                                              obtain ⟨y_234, h_234, hf⟩ := k_bd hf
                                              refine g_callO C (pc := 234) (As := [.int (1 : Int32), .int (0 : Int32)]) (rest := []) (v1 := .int y_234.1) (c' := y_234.2) (st' := [.int y_234.1]) lkX10_ofStep lVL_19 (kC_ofStep (xl x) (xD x) (xy x) ta kf_224 sf zQ_224 zS y_224.2 (1 : Int32) (0 : Int32) y_234 hk_224 hs h_234) rfl ⟨⟨Nat.le_of_ble_eq_true rfl, Nat.le_of_ble_eq_true rfl⟩, ⟨rfl, rfl⟩, ⟨Nat.le_of_ble_eq_true rfl, Nat.le_of_ble_eq_true rfl⟩⟩ rfl rfl (Nat.le_of_ble_eq_true rfl) rfl dL_carried_234 (fun kf_234 zQ_234 hk_234 => ?_)
                                              refine g_aload_n C (pc := 237) 0 dL_carried_237 rfl rfl ?_
                                              refine g_iconst C (pc := 238) dL_carried_238 ck_iconst_4 ?_
                                              refine g_iconst C (pc := 239) dL_carried_239 ck_iconst_1 ?_
                                              refine g_iconst C (pc := 240) dL_carried_240 ck_iconst_0 ?_
                                              refine g_iconst C (pc := 241) dL_carried_241 ck_iconst_2 ?_
                                              obtain ⟨y_242, h_242, hf⟩ := k_bd hf
                                              refine g_callO C (pc := 242) (As := [.int (4 : Int32), .int (1 : Int32), .int (0 : Int32), .int (2 : Int32)]) (rest := [.int y_234.1]) (v1 := .int y_242.1) (c' := y_242.2) (st' := [.int y_242.1, .int y_234.1]) lkX10_claim lVL_101 (kC_claim (xl x) (xD x) (xy x) ta kf_234 sf zQ_234 zS y_234.2 (4 : Int32) (1 : Int32) (0 : Int32) (2 : Int32) y_242 hk_234 hs h_242) rfl ⟨⟨Nat.le_of_ble_eq_true rfl, Nat.le_of_ble_eq_true rfl⟩, ⟨rfl, rfl⟩, ⟨Nat.le_of_ble_eq_true rfl, Nat.le_of_ble_eq_true rfl⟩⟩ rfl rfl (Nat.le_of_ble_eq_true rfl) rfl dL_carried_242 (fun kf_242 zQ_242 hk_242 => ?_)
                                              refine g_icmp_ne C (pc := 245) 371 dL_carried_245 (by decide) (fun c_245 => ?_) (fun c_245 => ?_)
                                              · replace hf := (k_if hf).2 c_245
                                                refine g_iconst C (pc := 371) dL_carried_371 ck_iconst_0 ?_
                                                cases hf
                                                exact g_wid (Nat.le_of_ble_eq_true rfl) (Nat.le_of_ble_eq_true rfl) (g_zret C E rfl (pc := 372) dL_carried_372 rfl)
                                              · replace hf := (k_if hf).1 c_245
                                                refine g_aload_n C (pc := 248) 0 dL_carried_248 rfl rfl ?_
                                                refine g_iconst C (pc := 249) dL_carried_249 ck_iconst_1 ?_
                                                refine g_iconst C (pc := 250) dL_carried_250 ck_iconst_1 ?_
                                                obtain ⟨y_251, h_251, hf⟩ := k_bd hf
                                                refine g_callO C (pc := 251) (As := [.int (1 : Int32), .int (1 : Int32)]) (rest := []) (v1 := .int y_251.1) (c' := y_251.2) (st' := [.int y_251.1]) lkX10_ofStep lVL_19 (kC_ofStep (xl x) (xD x) (xy x) ta kf_242 sf zQ_242 zS y_242.2 (1 : Int32) (1 : Int32) y_251 hk_242 hs h_251) rfl ⟨⟨Nat.le_of_ble_eq_true rfl, Nat.le_of_ble_eq_true rfl⟩, ⟨rfl, rfl⟩, ⟨Nat.le_of_ble_eq_true rfl, Nat.le_of_ble_eq_true rfl⟩⟩ rfl rfl (Nat.le_of_ble_eq_true rfl) rfl dL_carried_251 (fun kf_251 zQ_251 hk_251 => ?_)
                                                refine g_iconst C (pc := 254) dL_carried_254 ck_iconst_2 ?_
                                                refine g_icmp_ne C (pc := 255) 371 dL_carried_255 (by decide) (fun c_255 => ?_) (fun c_255 => ?_)
                                                · replace hf := (k_if hf).2 c_255
                                                  refine g_iconst C (pc := 371) dL_carried_371 ck_iconst_0 ?_
                                                  cases hf
                                                  exact g_wid (Nat.le_of_ble_eq_true rfl) (Nat.le_of_ble_eq_true rfl) (g_zret C E rfl (pc := 372) dL_carried_372 rfl)
                                                · replace hf := (k_if hf).1 c_255
                                                  refine g_aload_n C (pc := 258) 0 dL_carried_258 rfl rfl ?_
                                                  refine g_iconst C (pc := 259) dL_carried_259 ck_iconst_1 ?_
                                                  refine g_iconst C (pc := 260) dL_carried_260 ck_iconst_2 ?_
                                                  obtain ⟨y_261, h_261, hf⟩ := k_bd hf
                                                  refine g_callO C (pc := 261) (As := [.int (1 : Int32), .int (2 : Int32)]) (rest := []) (v1 := .int y_261.1) (c' := y_261.2) (st' := [.int y_261.1]) lkX10_ofStep lVL_19 (kC_ofStep (xl x) (xD x) (xy x) ta kf_251 sf zQ_251 zS y_251.2 (1 : Int32) (2 : Int32) y_261 hk_251 hs h_261) rfl ⟨⟨Nat.le_of_ble_eq_true rfl, Nat.le_of_ble_eq_true rfl⟩, ⟨rfl, rfl⟩, ⟨Nat.le_of_ble_eq_true rfl, Nat.le_of_ble_eq_true rfl⟩⟩ rfl rfl (Nat.le_of_ble_eq_true rfl) rfl dL_carried_261 (fun kf_261 zQ_261 hk_261 => ?_)
                                                  refine g_iconst C (pc := 264) dL_carried_264 ck_iconst_2 ?_
                                                  refine g_icmp_ne C (pc := 265) 371 dL_carried_265 (by decide) (fun c_265 => ?_) (fun c_265 => ?_)
                                                  · replace hf := (k_if hf).2 c_265
                                                    refine g_iconst C (pc := 371) dL_carried_371 ck_iconst_0 ?_
                                                    cases hf
                                                    exact g_wid (Nat.le_of_ble_eq_true rfl) (Nat.le_of_ble_eq_true rfl) (g_zret C E rfl (pc := 372) dL_carried_372 rfl)
                                                  · replace hf := (k_if hf).1 c_265
                                                    refine g_aload_n C (pc := 268) 0 dL_carried_268 rfl rfl ?_
                                                    refine g_iconst C (pc := 269) dL_carried_269 ck_iconst_1 ?_
                                                    refine g_iconst C (pc := 270) dL_carried_270 ck_iconst_3 ?_
                                                    obtain ⟨y_271, h_271, hf⟩ := k_bd hf
                                                    refine g_callO C (pc := 271) (As := [.int (1 : Int32), .int (3 : Int32)]) (rest := []) (v1 := .int y_271.1) (c' := y_271.2) (st' := [.int y_271.1]) lkX10_ofStep lVL_19 (kC_ofStep (xl x) (xD x) (xy x) ta kf_261 sf zQ_261 zS y_261.2 (1 : Int32) (3 : Int32) y_271 hk_261 hs h_271) rfl ⟨⟨Nat.le_of_ble_eq_true rfl, Nat.le_of_ble_eq_true rfl⟩, ⟨rfl, rfl⟩, ⟨Nat.le_of_ble_eq_true rfl, Nat.le_of_ble_eq_true rfl⟩⟩ rfl rfl (Nat.le_of_ble_eq_true rfl) rfl dL_carried_271 (fun kf_271 zQ_271 hk_271 => ?_)
                                                    refine g_if_ne C (pc := 274) 371 dL_carried_274 (by decide) (fun c_274 => ?_) (fun c_274 => ?_)
                                                    · replace hf := (k_if hf).2 c_274
                                                      refine g_iconst C (pc := 371) dL_carried_371 ck_iconst_0 ?_
                                                      cases hf
                                                      exact g_wid (Nat.le_of_ble_eq_true rfl) (Nat.le_of_ble_eq_true rfl) (g_zret C E rfl (pc := 372) dL_carried_372 rfl)
                                                    · replace hf := (k_if hf).1 c_274
                                                      refine g_aload_n C (pc := 277) 0 dL_carried_277 rfl rfl ?_
                                                      refine g_iconst C (pc := 278) dL_carried_278 ck_iconst_1 ?_
                                                      refine g_iconst C (pc := 279) dL_carried_279 ck_iconst_4 ?_
                                                      obtain ⟨y_280, h_280, hf⟩ := k_bd hf
                                                      refine g_callO C (pc := 280) (As := [.int (1 : Int32), .int (4 : Int32)]) (rest := []) (v1 := .int y_280.1) (c' := y_280.2) (st' := [.int y_280.1]) lkX10_ofStep lVL_19 (kC_ofStep (xl x) (xD x) (xy x) ta kf_271 sf zQ_271 zS y_271.2 (1 : Int32) (4 : Int32) y_280 hk_271 hs h_280) rfl ⟨⟨Nat.le_of_ble_eq_true rfl, Nat.le_of_ble_eq_true rfl⟩, ⟨rfl, rfl⟩, ⟨Nat.le_of_ble_eq_true rfl, Nat.le_of_ble_eq_true rfl⟩⟩ rfl rfl (Nat.le_of_ble_eq_true rfl) rfl dL_carried_280 (fun kf_280 zQ_280 hk_280 => ?_)
                                                      refine g_bipush C (pc := 283) dL_carried_283 ck_bipush_7 ?_
                                                      refine g_icmp_ne C (pc := 285) 371 dL_carried_285 (by decide) (fun c_285 => ?_) (fun c_285 => ?_)
                                                      · replace hf := (k_if hf).2 c_285
                                                        refine g_iconst C (pc := 371) dL_carried_371 ck_iconst_0 ?_
                                                        cases hf
                                                        exact g_wid (Nat.le_of_ble_eq_true rfl) (Nat.le_of_ble_eq_true rfl) (g_zret C E rfl (pc := 372) dL_carried_372 rfl)
                                                      · replace hf := (k_if hf).1 c_285
                                                        refine g_aload_n C (pc := 288) 0 dL_carried_288 rfl rfl ?_
                                                        refine g_ldc2 C (pc := 289) lcL_221 dL_carried_289 ?_
                                                        obtain ⟨y_292, h_292, hf⟩ := k_bd hf
                                                        refine g_callOS C (pc := 292) (As := [.ref ta.1, .long (27973918198149435 : Int64)]) (rest := []) (v1 := .int y_292.1) (c' := y_292.2) (st' := [.int y_292.1]) lkL_puts lSL_135 (cL_puts_k (xl x) (xD x) (xy x) ta kf_280 sf zQ_280 zS y_280.2 (27973918198149435 : Int64) y_292 hk_280 hs h_292) rfl ⟨⟨Nat.le_of_ble_eq_true rfl, Nat.le_of_ble_eq_true rfl⟩, ⟨rfl, rfl⟩, ⟨Nat.le_of_ble_eq_true rfl, Nat.le_of_ble_eq_true rfl⟩⟩ rfl (Nat.le_of_ble_eq_true rfl) rfl dL_carried_292 (fun kf_292 zQ_292 hk_292 => ?_)
                                                        refine g_if_eq C (pc := 295) 371 dL_carried_295 (by decide) (fun c_295 => ?_) (fun c_295 => ?_)
                                                        · replace hf := (k_if hf).1 c_295
                                                          refine g_iconst C (pc := 371) dL_carried_371 ck_iconst_0 ?_
                                                          cases hf
                                                          exact g_wid (Nat.le_of_ble_eq_true rfl) (Nat.le_of_ble_eq_true rfl) (g_zret C E rfl (pc := 372) dL_carried_372 rfl)
                                                        · replace hf := (k_if hf).2 c_295
                                                          refine g_aload_n C (pc := 298) 0 dL_carried_298 rfl rfl ?_
                                                          refine g_ldc2 C (pc := 299) lcL_148 dL_carried_299 ?_
                                                          obtain ⟨y_302, h_302, hf⟩ := k_bd hf
                                                          refine g_callOS C (pc := 302) (As := [.ref ta.1, .long (25386 : Int64)]) (rest := []) (v1 := .int y_302.1) (c' := y_302.2) (st' := [.int y_302.1]) lkL_puts lSL_135 (cL_puts_k (xl x) (xD x) (xy x) ta kf_292 sf zQ_292 zS y_292.2 (25386 : Int64) y_302 hk_292 hs h_302) rfl ⟨⟨Nat.le_of_ble_eq_true rfl, Nat.le_of_ble_eq_true rfl⟩, ⟨rfl, rfl⟩, ⟨Nat.le_of_ble_eq_true rfl, Nat.le_of_ble_eq_true rfl⟩⟩ rfl (Nat.le_of_ble_eq_true rfl) rfl dL_carried_302 (fun kf_302 zQ_302 hk_302 => ?_)
                                                          refine g_if_eq C (pc := 305) 371 dL_carried_305 (by decide) (fun c_305 => ?_) (fun c_305 => ?_)
                                                          · replace hf := (k_if hf).1 c_305
                                                            refine g_iconst C (pc := 371) dL_carried_371 ck_iconst_0 ?_
                                                            cases hf
                                                            exact g_wid (Nat.le_of_ble_eq_true rfl) (Nat.le_of_ble_eq_true rfl) (g_zret C E rfl (pc := 372) dL_carried_372 rfl)
                                                          · replace hf := (k_if hf).2 c_305
                                                            refine g_aload_n C (pc := 308) 0 dL_carried_308 rfl rfl ?_
                                                            obtain ⟨y_309, h_309, hf⟩ := k_bd hf
                                                            refine g_callO C (pc := 309) (As := []) (rest := []) (v1 := .int y_309.1) (c' := y_309.2) (st' := [.int y_309.1]) lkX10_carryOut lVL_212 (kC_carryOut (xl x) (xD x) (xy x) ta kf_302 sf zQ_302 zS y_302.2  y_309 hk_302 hs h_309) rfl ⟨⟨Nat.le_of_ble_eq_true rfl, Nat.le_of_ble_eq_true rfl⟩, ⟨rfl, rfl⟩, ⟨Nat.le_of_ble_eq_true rfl, Nat.le_of_ble_eq_true rfl⟩⟩ rfl rfl (Nat.le_of_ble_eq_true rfl) rfl dL_carried_309 (fun kf_309 zQ_309 hk_309 => ?_)
                                                            refine g_iconst C (pc := 312) dL_carried_312 ck_iconst_2 ?_
                                                            refine g_icmp_ne C (pc := 313) 371 dL_carried_313 (by decide) (fun c_313 => ?_) (fun c_313 => ?_)
                                                            · replace hf := (k_if hf).2 c_313
                                                              refine g_iconst C (pc := 371) dL_carried_371 ck_iconst_0 ?_
                                                              cases hf
                                                              exact g_wid (Nat.le_of_ble_eq_true rfl) (Nat.le_of_ble_eq_true rfl) (g_zret C E rfl (pc := 372) dL_carried_372 rfl)
                                                            · replace hf := (k_if hf).1 c_313
                                                              refine g_aload_n C (pc := 316) 0 dL_carried_316 rfl rfl ?_
                                                              refine g_iconst C (pc := 317) dL_carried_317 ck_iconst_3 ?_
                                                              refine g_iconst C (pc := 318) dL_carried_318 ck_iconst_0 ?_
                                                              obtain ⟨y_319, h_319, hf⟩ := k_bd hf
                                                              refine g_callO C (pc := 319) (As := [.int (3 : Int32), .int (0 : Int32)]) (rest := []) (v1 := .int y_319.1) (c' := y_319.2) (st' := [.int y_319.1]) lkX10_ofCandidate lVL_23 (kC_ofCandidate (xl x) (xD x) (xy x) ta kf_309 sf zQ_309 zS y_309.2 (3 : Int32) (0 : Int32) y_319 hk_309 hs h_319) rfl ⟨⟨Nat.le_of_ble_eq_true rfl, Nat.le_of_ble_eq_true rfl⟩, ⟨rfl, rfl⟩, ⟨Nat.le_of_ble_eq_true rfl, Nat.le_of_ble_eq_true rfl⟩⟩ rfl rfl (Nat.le_of_ble_eq_true rfl) rfl dL_carried_319 (fun kf_319 zQ_319 hk_319 => ?_)
                                                              refine g_aload_n C (pc := 322) 0 dL_carried_322 rfl rfl ?_
                                                              refine g_bipush C (pc := 323) dL_carried_323 ck_bipush_6 ?_
                                                              refine g_iconst C (pc := 325) dL_carried_325 ck_iconst_1 ?_
                                                              refine g_iconst C (pc := 326) dL_carried_326 ck_iconst_0 ?_
                                                              refine g_iconst C (pc := 327) dL_carried_327 ck_iconst_m1 ?_
                                                              obtain ⟨y_328, h_328, hf⟩ := k_bd hf
                                                              refine g_callO C (pc := 328) (As := [.int (6 : Int32), .int (1 : Int32), .int (0 : Int32), .int (-1 : Int32)]) (rest := [.int y_319.1]) (v1 := .int y_328.1) (c' := y_328.2) (st' := [.int y_328.1, .int y_319.1]) lkX10_claim lVL_101 (kC_claim (xl x) (xD x) (xy x) ta kf_319 sf zQ_319 zS y_319.2 (6 : Int32) (1 : Int32) (0 : Int32) (-1 : Int32) y_328 hk_319 hs h_328) rfl ⟨⟨Nat.le_of_ble_eq_true rfl, Nat.le_of_ble_eq_true rfl⟩, ⟨rfl, rfl⟩, ⟨Nat.le_of_ble_eq_true rfl, Nat.le_of_ble_eq_true rfl⟩⟩ rfl rfl (Nat.le_of_ble_eq_true rfl) rfl dL_carried_328 (fun kf_328 zQ_328 hk_328 => ?_)
                                                              refine g_icmp_ne C (pc := 331) 371 dL_carried_331 (by decide) (fun c_331 => ?_) (fun c_331 => ?_)
                                                              · replace hf := (k_if hf).2 c_331
                                                                refine g_iconst C (pc := 371) dL_carried_371 ck_iconst_0 ?_
                                                                cases hf
                                                                exact g_wid (Nat.le_of_ble_eq_true rfl) (Nat.le_of_ble_eq_true rfl) (g_zret C E rfl (pc := 372) dL_carried_372 rfl)
                                                              · replace hf := (k_if hf).1 c_331
                                                                refine g_aload_n C (pc := 334) 0 dL_carried_334 rfl rfl ?_
                                                                refine g_ldc2 C (pc := 335) lcL_194 dL_carried_335 ?_
                                                                obtain ⟨y_338, h_338, hf⟩ := k_bd hf
                                                                refine g_callOS C (pc := 338) (As := [.ref ta.1, .long (27451 : Int64)]) (rest := []) (v1 := .int y_338.1) (c' := y_338.2) (st' := [.int y_338.1]) lkL_puts lSL_135 (cL_puts_k (xl x) (xD x) (xy x) ta kf_328 sf zQ_328 zS y_328.2 (27451 : Int64) y_338 hk_328 hs h_338) rfl ⟨⟨Nat.le_of_ble_eq_true rfl, Nat.le_of_ble_eq_true rfl⟩, ⟨rfl, rfl⟩, ⟨Nat.le_of_ble_eq_true rfl, Nat.le_of_ble_eq_true rfl⟩⟩ rfl (Nat.le_of_ble_eq_true rfl) rfl dL_carried_338 (fun kf_338 zQ_338 hk_338 => ?_)
                                                                refine g_if_eq C (pc := 341) 371 dL_carried_341 (by decide) (fun c_341 => ?_) (fun c_341 => ?_)
                                                                · replace hf := (k_if hf).1 c_341
                                                                  refine g_iconst C (pc := 371) dL_carried_371 ck_iconst_0 ?_
                                                                  cases hf
                                                                  exact g_wid (Nat.le_of_ble_eq_true rfl) (Nat.le_of_ble_eq_true rfl) (g_zret C E rfl (pc := 372) dL_carried_372 rfl)
                                                                · replace hf := (k_if hf).2 c_341
                                                                  refine g_aload_n C (pc := 344) 0 dL_carried_344 rfl rfl ?_
                                                                  obtain ⟨y_345, h_345, hf⟩ := k_bd hf
                                                                  refine g_callO C (pc := 345) (As := []) (rest := []) (v1 := .int y_345.1) (c' := y_345.2) (st' := [.int y_345.1]) lkX10_carryOut lVL_212 (kC_carryOut (xl x) (xD x) (xy x) ta kf_338 sf zQ_338 zS y_338.2  y_345 hk_338 hs h_345) rfl ⟨⟨Nat.le_of_ble_eq_true rfl, Nat.le_of_ble_eq_true rfl⟩, ⟨rfl, rfl⟩, ⟨Nat.le_of_ble_eq_true rfl, Nat.le_of_ble_eq_true rfl⟩⟩ rfl rfl (Nat.le_of_ble_eq_true rfl) rfl dL_carried_345 (fun kf_345 zQ_345 hk_345 => ?_)
                                                                  refine g_bipush C (pc := 348) dL_carried_348 ck_bipush_m3 ?_
                                                                  refine g_icmp_ne C (pc := 350) 371 dL_carried_350 (by decide) (fun c_350 => ?_) (fun c_350 => ?_)
                                                                  · replace hf := (k_if hf).2 c_350
                                                                    refine g_iconst C (pc := 371) dL_carried_371 ck_iconst_0 ?_
                                                                    cases hf
                                                                    exact g_wid (Nat.le_of_ble_eq_true rfl) (Nat.le_of_ble_eq_true rfl) (g_zret C E rfl (pc := 372) dL_carried_372 rfl)
                                                                  · replace hf := (k_if hf).1 c_350
                                                                    refine g_aload_n C (pc := 353) 0 dL_carried_353 rfl rfl ?_
                                                                    refine g_bipush C (pc := 354) dL_carried_354 ck_bipush_11 ?_
                                                                    obtain ⟨y_356, h_356, hf⟩ := k_bd hf
                                                                    refine g_callO C (pc := 356) (As := [.int (11 : Int32)]) (rest := []) (v1 := .int y_356.1) (c' := y_356.2) (st' := [.int y_356.1]) lkX10_count lVL_13 (kC_count (xl x) (xD x) (xy x) ta kf_345 sf zQ_345 zS y_345.2 (11 : Int32) y_356 hk_345 hs h_356) rfl ⟨⟨Nat.le_of_ble_eq_true rfl, Nat.le_of_ble_eq_true rfl⟩, ⟨rfl, rfl⟩, ⟨Nat.le_of_ble_eq_true rfl, Nat.le_of_ble_eq_true rfl⟩⟩ rfl rfl (Nat.le_of_ble_eq_true rfl) rfl dL_carried_356 (fun kf_356 zQ_356 hk_356 => ?_)
                                                                    refine g_iconst C (pc := 359) dL_carried_359 ck_iconst_2 ?_
                                                                    refine g_icmp_ne C (pc := 360) 371 dL_carried_360 (by decide) (fun c_360 => ?_) (fun c_360 => ?_)
                                                                    · replace hf := (k_if hf).2 c_360
                                                                      refine g_iconst C (pc := 371) dL_carried_371 ck_iconst_0 ?_
                                                                      cases hf
                                                                      exact g_wid (Nat.le_of_ble_eq_true rfl) (Nat.le_of_ble_eq_true rfl) (g_zret C E rfl (pc := 372) dL_carried_372 rfl)
                                                                    · replace hf := (k_if hf).1 c_360
                                                                      refine g_aload_n C (pc := 363) 0 dL_carried_363 rfl rfl ?_
                                                                      obtain ⟨y_364, h_364, hf⟩ := k_bd hf
                                                                      refine g_callO C (pc := 364) (As := []) (rest := []) (v1 := .int y_364.1) (c' := y_364.2) (st' := [.int y_364.1]) lkX10_wipe lVL_223 (kC_wipe (xl x) (xD x) (xy x) ta kf_356 sf zQ_356 zS y_356.2  y_364 hk_356 hs h_364) rfl ⟨⟨Nat.le_of_ble_eq_true rfl, Nat.le_of_ble_eq_true rfl⟩, ⟨rfl, rfl⟩, ⟨Nat.le_of_ble_eq_true rfl, Nat.le_of_ble_eq_true rfl⟩⟩ rfl rfl (Nat.le_of_ble_eq_true rfl) rfl dL_carried_364 (fun kf_364 zQ_364 hk_364 => ?_)
                                                                      refine g_iconst C (pc := 367) dL_carried_367 ck_iconst_2 ?_
                                                                      refine g_icmp_eq C (pc := 368) 373 dL_carried_368 (by decide) (fun c_368 => ?_) (fun c_368 => ?_)
                                                                      · replace hf := (k_if hf).1 c_368
                                                                        refine g_iconst C (pc := 373) dL_carried_373 ck_iconst_0 ?_
                                                                        refine g_istore_n C (pc := 374) (lo' := [(1, .int (0 : Int32)), (0, .ref ta.1)]) dL_carried_374 rfl N rfl rfl ?_
                                                                        obtain ⟨b_375, hb_375, hf⟩ := k_bd hf
                                                                        refine g_lo [1, 0] rfl ?_
                                                                        refine g_loopT (g := gL_carried_375) (fun (e : Int32 × CS) (kf : Nat → Option Nat) (zQ : Nat → Nat → Nat) => (tkw (xy x) ta kf sf zQ zS e.2 ++ [])) (fun e : Int32 × CS => [(0, .ref ta.1), (1, .int e.1)]) 375 (fun b : (Int32 × CS) ⊕ (Int32) => (∀ e : Int32 × CS, b = .inl e → ∀ (kf : Nat → Option Nat) (zQ : Nat → Nat → Nat), HK kf zQ → GW x 187 8998 (tkw (xy x) ta kf sf zQ zS e.2 ++ []) [(0, .ref ta.1)] 406 []) ∧ (∀ o' : Int32, b = .inr o' → o' = o)) (fun a r hg kn kx kf zQ hk => bL_carried_375 x C N ta kf sf zQ zS a o r hk hs E hg kn (fun e he => (kx _ he).1 e rfl) (fun z he => (kx _ he).2 z rfl)) FU _ b_375 hb_375 ?_ kf_364 zQ_364 hk_364
                                                                        refine ⟨fun e_375 he => ?_, fun o_375 he => ?_⟩ <;> subst he
                                                                        · replace hf := k_eliml hf
                                                                          intro kf_375 zQ_375 hk_375
                                                                          refine g_aload_n C (pc := 406) 0 dL_carried_406 rfl rfl ?_
                                                                          refine g_ldc2 C (pc := 407) lcL_228 dL_carried_407 ?_
                                                                          obtain ⟨y_410, h_410, hf⟩ := k_bd hf
                                                                          refine g_callO C (pc := 410) (As := [.long (107 : Int64)]) (rest := []) (v1 := .int y_410.1) (c' := y_410.2) (st' := [.int y_410.1]) lkX10_put lVL_78 (kC_put (xl x) (xD x) (xy x) ta kf_375 sf zQ_375 zS e_375.2 (107 : Int64) y_410 hk_375 hs h_410) rfl ⟨⟨Nat.le_of_ble_eq_true rfl, Nat.le_of_ble_eq_true rfl⟩, ⟨rfl, rfl⟩, ⟨Nat.le_of_ble_eq_true rfl, Nat.le_of_ble_eq_true rfl⟩⟩ rfl rfl (Nat.le_of_ble_eq_true rfl) rfl dL_carried_410 (fun kf_410 zQ_410 hk_410 => ?_)
                                                                          refine g_bipush C (pc := 413) dL_carried_413 ck_bipush_m4 ?_
                                                                          refine g_icmp_ne C (pc := 415) 448 dL_carried_415 (by decide) (fun c_415 => ?_) (fun c_415 => ?_)
                                                                          · replace hf := (k_if hf).2 c_415
                                                                            refine g_iconst C (pc := 448) dL_carried_448 ck_iconst_0 ?_
                                                                            cases hf
                                                                            exact g_wid (Nat.le_of_ble_eq_true rfl) (Nat.le_of_ble_eq_true rfl) (g_zret C E rfl (pc := 449) dL_carried_449 rfl)
                                                                          · replace hf := (k_if hf).1 c_415
                                                                            refine g_aload_n C (pc := 418) 0 dL_carried_418 rfl rfl ?_
                                                                            obtain ⟨y_419, h_419, hf⟩ := k_bd hf
                                                                            refine g_callO C (pc := 419) (As := []) (rest := []) (v1 := .int y_419.1) (c' := y_419.2) (st' := [.int y_419.1]) lkX10_wipe lVL_223 (kC_wipe (xl x) (xD x) (xy x) ta kf_410 sf zQ_410 zS y_410.2  y_419 hk_410 hs h_419) rfl ⟨⟨Nat.le_of_ble_eq_true rfl, Nat.le_of_ble_eq_true rfl⟩, ⟨rfl, rfl⟩, ⟨Nat.le_of_ble_eq_true rfl, Nat.le_of_ble_eq_true rfl⟩⟩ rfl rfl (Nat.le_of_ble_eq_true rfl) rfl dL_carried_419 (fun kf_419 zQ_419 hk_419 => ?_)
                                                                            refine g_bipush C (pc := 422) dL_carried_422 ck_bipush_80 ?_
                                                                            refine g_icmp_ne C (pc := 424) 448 dL_carried_424 (by decide) (fun c_424 => ?_) (fun c_424 => ?_)
                                                                            · replace hf := (k_if hf).2 c_424
                                                                              refine g_iconst C (pc := 448) dL_carried_448 ck_iconst_0 ?_
                                                                              cases hf
                                                                              exact g_wid (Nat.le_of_ble_eq_true rfl) (Nat.le_of_ble_eq_true rfl) (g_zret C E rfl (pc := 449) dL_carried_449 rfl)
                                                                            · replace hf := (k_if hf).1 c_424
                                                                              refine g_aload_n C (pc := 427) 0 dL_carried_427 rfl rfl ?_
                                                                              obtain ⟨y_428, h_428, hf⟩ := k_bd hf
                                                                              refine g_callO C (pc := 428) (As := []) (rest := []) (v1 := .int y_428.1) (c' := y_428.2) (st' := [.int y_428.1]) lkX10_undo lVL_105 (kC_undo (xl x) (xD x) (xy x) ta kf_419 sf zQ_419 zS y_419.2  y_428 hk_419 hs h_428) rfl ⟨⟨Nat.le_of_ble_eq_true rfl, Nat.le_of_ble_eq_true rfl⟩, ⟨rfl, rfl⟩, ⟨Nat.le_of_ble_eq_true rfl, Nat.le_of_ble_eq_true rfl⟩⟩ rfl rfl (Nat.le_of_ble_eq_true rfl) rfl dL_carried_428 (fun kf_428 zQ_428 hk_428 => ?_)
                                                                              refine g_iconst C (pc := 431) dL_carried_431 ck_iconst_4 ?_
                                                                              refine g_icmp_ne C (pc := 432) 448 dL_carried_432 (by decide) (fun c_432 => ?_) (fun c_432 => ?_)
                                                                              · replace hf := (k_if hf).2 c_432
                                                                                refine g_iconst C (pc := 448) dL_carried_448 ck_iconst_0 ?_
                                                                                cases hf
                                                                                exact g_wid (Nat.le_of_ble_eq_true rfl) (Nat.le_of_ble_eq_true rfl) (g_zret C E rfl (pc := 449) dL_carried_449 rfl)
                                                                              · replace hf := (k_if hf).1 c_432
                                                                                refine g_aload_n C (pc := 435) 0 dL_carried_435 rfl rfl ?_
                                                                                refine g_iconst C (pc := 436) dL_carried_436 ck_iconst_1 ?_
                                                                                obtain ⟨y_437, h_437, hf⟩ := k_bd hf
                                                                                refine g_callO C (pc := 437) (As := [.int (1 : Int32)]) (rest := []) (v1 := .int y_437.1) (c' := y_437.2) (st' := [.int y_437.1]) lkX10_count lVL_13 (kC_count (xl x) (xD x) (xy x) ta kf_428 sf zQ_428 zS y_428.2 (1 : Int32) y_437 hk_428 hs h_437) rfl ⟨⟨Nat.le_of_ble_eq_true rfl, Nat.le_of_ble_eq_true rfl⟩, ⟨rfl, rfl⟩, ⟨Nat.le_of_ble_eq_true rfl, Nat.le_of_ble_eq_true rfl⟩⟩ rfl rfl (Nat.le_of_ble_eq_true rfl) rfl dL_carried_437 (fun kf_437 zQ_437 hk_437 => ?_)
                                                                                refine g_iconst C (pc := 440) dL_carried_440 ck_iconst_3 ?_
                                                                                refine g_icmp_ne C (pc := 441) 448 dL_carried_441 (by decide) (fun c_441 => ?_) (fun c_441 => ?_)
                                                                                · replace hf := (k_if hf).2 c_441
                                                                                  refine g_iconst C (pc := 448) dL_carried_448 ck_iconst_0 ?_
                                                                                  cases hf
                                                                                  exact g_wid (Nat.le_of_ble_eq_true rfl) (Nat.le_of_ble_eq_true rfl) (g_zret C E rfl (pc := 449) dL_carried_449 rfl)
                                                                                · replace hf := (k_if hf).1 c_441
                                                                                  refine g_iconst C (pc := 444) dL_carried_444 ck_iconst_1 ?_
                                                                                  refine g_goto C (pc := 445) (tgt := 449) dL_carried_445 (by decide) ?_
                                                                                  cases hf
                                                                                  exact g_wid (Nat.le_of_ble_eq_true rfl) (Nat.le_of_ble_eq_true rfl) (g_zret C E rfl (pc := 449) dL_carried_449 rfl)
                                                                        · replace hf := k_elimr hf
                                                                          exact k_some hf
                                                                      · replace hf := (k_if hf).2 c_368
                                                                        refine g_iconst C (pc := 371) dL_carried_371 ck_iconst_0 ?_
                                                                        cases hf
                                                                        exact g_wid (Nat.le_of_ble_eq_true rfl) (Nat.le_of_ble_eq_true rfl) (g_zret C E rfl (pc := 372) dL_carried_372 rfl)
                            · replace hf := (k_if hf).1 c_154
                              refine g_iconst C (pc := 157) dL_carried_157 ck_iconst_0 ?_
                              cases hf
                              exact g_wid (Nat.le_of_ble_eq_true rfl) (Nat.le_of_ble_eq_true rfl) (g_zret C E rfl (pc := 158) dL_carried_158 rfl)
set_option maxRecDepth 100000 in
theorem cL_carried_k (l : Launch) (D : va_G) (yy : Nat → ClassId)  (o : Int32) (hf : fL_carried  = some o) : GMet l yL_carried cL_carried 2 (some .boolean) rmL_carried 187 8998 D yy [] ([]) (fun zv _ => zv = some ((.int o))) :=
  g_met (by decide +kernel) (Nat.le_of_ble_eq_true rfl) (fun x hl hD hy hn C E _ => by subst hD; subst hy; exact (eL_carried x C hn  o E hf))
