def rmL_counts : Room := { frames := 10, cells := 187, slots := 8998, locals := 234 }
set_option maxRecDepth 100000 in
def fL_counts  : Option (Int32) :=
  bd newC fun y_4 : CS => bd (oC_undo y_4) fun y_9 : Int32 × CS => if y_9.1 = (-5 : Int32) then bd (oC_restore y_9.2 (0 : Int32)) fun y_19 : Int32 × CS => if y_19.1 = (-5 : Int32) then bd (oC_count y_19.2 (8 : Int32)) fun y_30 : Int32 × CS => if y_30.1 = (512 : Int32) then bd (oC_count y_30.2 (9 : Int32)) fun y_42 : Int32 × CS => if y_42.1 = (1 : Int32) then bd (oC_count y_42.2 (10 : Int32)) fun y_52 : Int32 × CS => if y_52.1 = (1 : Int32) then bd (oC_core y_52.2 (7 : Int32)) fun y_62 : Int64 × CS => if (lg_cmp y_62.1 (0 : Int64)) = 0 then bd (oC_step y_62.2 (7 : Int32) (1 : Int32) (0 : Int32) (0 : Int32) (1 : Int32)) fun y_77 : Int32 × CS => if y_77.1 = 0 then bd (oC_leads y_77.2 (0 : Int32) (0 : Int32)) fun y_86 : Int32 × CS => if y_86.1 = (64 : Int32) then bd (oC_leads y_86.2 (0 : Int32) (448 : Int32)) fun y_99 : Int32 × CS => if y_99.1 = (-6 : Int32) then bd (oC_count y_99.2 (9 : Int32)) fun y_110 : Int32 × CS => if y_110.1 = (8 : Int32) then bd (oC_ofStep y_110.2 (0 : Int32) (4 : Int32)) fun y_121 : Int32 × CS => if y_121.1 = (8 : Int32) then bd (oC_ofStep y_121.2 (0 : Int32) (5 : Int32)) fun y_132 : Int32 × CS => if y_132.1 = (448 : Int32) then bd (oC_candidate y_132.2 (418 : Int32)) fun y_147 : Int32 × CS => if y_147.1 = 0 then bd (oC_candidate y_147.2 (232 : Int32)) fun y_157 : Int32 × CS => if y_157.1 = (1 : Int32) then bd (oC_candidate y_157.2 (1237 : Int32)) fun y_168 : Int32 × CS => if y_168.1 = (2 : Int32) then bd (oC_candidate y_168.2 (232 : Int32)) fun y_179 : Int32 × CS => if y_179.1 = (-5 : Int32) then bd (oC_claim y_179.2 (1 : Int32) (0 : Int32) (0 : Int32) (3 : Int32)) fun y_193 : Int32 × CS => bd (oC_candidate y_193.2 y_193.1) fun y_196 : Int32 × CS => if y_196.1 = (3 : Int32) then bd (fL_isCandidate y_196.2 (3 : Int32) (1 : Int32) (0 : Int32) (-6 : Int32) (-6 : Int32)) fun y_211 : Int32 × CS => if y_211.1 = 0 then some (0 : Int32) else bd (oC_count y_211.2 (2 : Int32)) fun y_219 : Int32 × CS => if y_219.1 = (3 : Int32) then bd (oC_run y_219.2 (0 : Int32) (3 : Int32)) fun y_229 : Int32 × CS => if y_229.1 = (3 : Int32) then bd (oC_count y_229.2 (3 : Int32)) fun y_238 : Int32 × CS => if y_238.1 = (4 : Int32) then bd (oC_count y_238.2 (4 : Int32)) fun y_247 : Int32 × CS => if y_247.1 = (1 : Int32) then bd (fL_isCandidate y_247.2 (2 : Int32) (2 : Int32) (64 : Int32) (0 : Int32) (-6 : Int32)) fun y_262 : Int32 × CS => if y_262.1 = 0 then some (0 : Int32) else bd (fL_isCandidate y_262.2 (0 : Int32) (0 : Int32) (-6 : Int32) (-6 : Int32) (-6 : Int32)) fun y_277 : Int32 × CS => if y_277.1 = 0 then some (0 : Int32) else bd (oC_run y_277.2 (77 : Int32) (3 : Int32)) fun y_287 : Int32 × CS => if y_287.1 = 0 then bd (oC_count y_287.2 (4 : Int32)) fun y_295 : Int32 × CS => if y_295.1 = (2 : Int32) then bd (oC_count y_295.2 (10 : Int32)) fun y_307 : Int32 × CS => if y_307.1 = 0 then bd (oC_proves y_307.2 (232 : Int32)) fun y_317 : Int32 × CS => if y_317.1 = (-5 : Int32) then bd (oC_core y_317.2 (232 : Int32)) fun y_329 : Int64 × CS => if (lg_cmp y_329.1 (-5 : Int64)) = 0 then bd (oC_witness y_329.2 (232 : Int32)) fun y_343 : Int32 × CS => if y_343.1 = (-6 : Int32) then bd (oC_strike y_343.2) fun y_352 : Int32 × CS => if y_352.1 = (1 : Int32) then bd (fL_isCandidate y_352.2 (0 : Int32) (3 : Int32) (384 : Int32) (0 : Int32) (1 : Int32)) fun y_367 : Int32 × CS => if y_367.1 = 0 then some (0 : Int32) else bd (oC_count y_367.2 (5 : Int32)) fun y_375 : Int32 × CS => if y_375.1 = (1 : Int32) then bd (oC_strike y_375.2) fun y_383 : Int32 × CS => if y_383.1 = 0 then bd (oC_count y_383.2 (5 : Int32)) fun y_391 : Int32 × CS => if y_391.1 = (1 : Int32) then bd (oC_settle y_391.2) fun y_399 : Int32 × CS => if y_399.1 = 0 then bd (oC_count y_399.2 (10 : Int32)) fun y_408 : Int32 × CS => if y_408.1 = (1 : Int32) then bd (oC_count y_408.2 (8 : Int32)) fun y_418 : Int32 × CS => if y_418.1 = (64 : Int32) then bd (oC_claim y_418.2 (1 : Int32) (1 : Int32) (0 : Int32) (0 : Int32)) fun y_433 : Int32 × CS => bd (oC_proves y_433.2 (232 : Int32)) fun y_441 : Int32 × CS => if y_441.1 = (1 : Int32) then bd (oC_witness y_441.2 (418 : Int32)) fun y_452 : Int32 × CS => if y_452.1 = (448 : Int32) then bd (oC_isTrue y_452.2 y_433.1) fun y_463 : Int32 × CS => if y_463.1 = (1 : Int32) then bd (oC_proves y_463.2 y_433.1) fun y_472 : Int32 × CS => if y_472.1 = 0 then bd (oC_witness y_472.2 y_433.1) fun y_480 : Int32 × CS => if y_480.1 = (8 : Int32) then bd (oC_core y_480.2 y_433.1) fun y_490 : Int64 × CS => if (lg_cmp y_490.1 (-6 : Int64)) = 0 then bd (oC_core y_490.2 (232 : Int32)) fun y_504 : Int64 × CS => if (lg_cmp y_504.1 (2 : Int64)) = 0 then bd (oC_needless y_504.2) fun y_515 : Int64 × CS => if (lg_cmp y_515.1 (0 : Int64)) = 0 then bd (oC_candidate y_515.2 (7 : Int32)) fun y_526 : Int32 × CS => if y_526.1 = (4 : Int32) then bd (oC_needless y_526.2) fun y_534 : Int64 × CS => if (lg_cmp y_534.1 (16 : Int64)) = 0 then bd (oC_core y_534.2 (232 : Int32)) fun y_548 : Int64 × CS => if (lg_cmp y_548.1 (2 : Int64)) = 0 then bd (oC_ofStep y_548.2 (0 : Int32) (6 : Int32)) fun y_562 : Int32 × CS => if y_562.1 = (56 : Int32) then bd (oC_ofState y_562.2 (64 : Int32)) fun y_573 : Int32 × CS => if y_573.1 = (7 : Int32) then bd (oC_ofState y_573.2 (448 : Int32)) fun y_585 : Int32 × CS => if y_585.1 = (6 : Int32) then bd (oC_ofState y_585.2 (1 : Int32)) fun y_595 : Int32 × CS => if y_595.1 = 0 then bd (oC_guess y_595.2 (5 : Int32)) fun y_605 : Int32 × CS => if y_605.1 = (2 : Int32) then bd (oC_ofCandidate y_605.2 (5 : Int32) (0 : Int32)) fun y_615 : Int32 × CS => if y_615.1 = (757 : Int32) then bd (oC_ofCandidate y_615.2 (6 : Int32) (0 : Int32)) fun y_628 : Int32 × CS => if y_628.1 = (787 : Int32) then bd (oC_guess y_628.2 (5 : Int32)) fun y_639 : Int32 × CS => if y_639.1 = 0 then bd (oC_claim y_639.2 (2 : Int32) (0 : Int32) (0 : Int32) (2 : Int32)) fun y_651 : Int32 × CS => bd (oC_candidate y_651.2 y_651.1) fun y_654 : Int32 × CS => if y_654.1 = (7 : Int32) then bd (fL_isCandidate y_654.2 (7 : Int32) (2 : Int32) (128 : Int32) (0 : Int32) (-6 : Int32)) fun y_672 : Int32 × CS => if y_672.1 = 0 then some (0 : Int32) else bd (fL_refused y_672.2) fun y_679 : Int32 × CS => if y_679.1 = 0 then some (0 : Int32) else bd (oC_wrap y_679.2 (1 : Int32)) fun y_689 : Int32 × CS => if y_689.1 = 0 then bd (oC_leads y_689.2 (0 : Int32) (448 : Int32)) fun y_700 : Int32 × CS => if y_700.1 = 0 then bd (oC_count y_700.2 (3 : Int32)) fun y_708 : Int32 × CS => if y_708.1 = (1 : Int32) then bd (oC_count y_708.2 (4 : Int32)) fun y_717 : Int32 × CS => if y_717.1 = 0 then bd (oC_count y_717.2 (5 : Int32)) fun y_725 : Int32 × CS => if y_725.1 = 0 then bd (fL_isCandidate y_725.2 (0 : Int32) (0 : Int32) (-6 : Int32) (-6 : Int32) (-6 : Int32)) fun y_740 : Int32 × CS => if y_740.1 = 0 then some (0 : Int32) else bd (fL_isCandidate y_740.2 (3 : Int32) (1 : Int32) (0 : Int32) (-6 : Int32) (-6 : Int32)) fun y_754 : Int32 × CS => if y_754.1 = 0 then some (0 : Int32) else bd (oC_drop y_754.2 (0 : Int32)) fun y_762 : Int32 × CS => if y_762.1 = 0 then bd (oC_run y_762.2 (5 : Int32) (9 : Int32)) fun y_772 : Int32 × CS => if y_772.1 = 0 then bd (oC_count y_772.2 (4 : Int32)) fun y_780 : Int32 × CS => if y_780.1 = (1 : Int32) then bd (oC_start y_780.2 (3 : Int32) (0 : Int32) (0 : Int32)) fun y_793 : Int32 × CS => if y_793.1 = (-6 : Int32) then some (0 : Int32) else bd (fL_isCandidate y_793.2 (2 : Int32) (1 : Int32) (192 : Int32) (-6 : Int32) (-6 : Int32)) fun y_811 : Int32 × CS => if y_811.1 = 0 then some (0 : Int32) else bd (fL_isCandidate y_811.2 (3 : Int32) (0 : Int32) (-6 : Int32) (-6 : Int32) (-6 : Int32)) fun y_826 : Int32 × CS => if y_826.1 = 0 then some (0 : Int32) else bd (oC_step y_826.2 (7 : Int32) (2 : Int32) (0 : Int32) (1 : Int32) (0 : Int32)) fun y_839 : Int32 × CS => if y_839.1 = 0 then bd (oC_leads y_839.2 (0 : Int32) (192 : Int32)) fun y_850 : Int32 × CS => if y_850.1 = (24 : Int32) then bd (oC_leads y_850.2 (0 : Int32) (511 : Int32)) fun y_863 : Int32 × CS => if y_863.1 = (511 : Int32) then bd (oC_count y_863.2 (9 : Int32)) fun y_875 : Int32 × CS => if y_875.1 = (2 : Int32) then bd (oC_save y_875.2 (1 : Int32)) fun y_884 : Int32 × CS => bd (oC_count y_884.2 (2 : Int32)) fun y_889 : Int32 × CS => if y_884.1 = y_889.1 then bd (fL_refused y_889.2) fun y_896 : Int32 × CS => if y_896.1 = 0 then some (0 : Int32) else some (1 : Int32) else some (0 : Int32) else some (0 : Int32) else some (0 : Int32) else some (0 : Int32) else some (0 : Int32) else some (0 : Int32) else some (0 : Int32) else some (0 : Int32) else some (0 : Int32) else some (0 : Int32) else some (0 : Int32) else some (0 : Int32) else some (0 : Int32) else some (0 : Int32) else some (0 : Int32) else some (0 : Int32) else some (0 : Int32) else some (0 : Int32) else some (0 : Int32) else some (0 : Int32) else some (0 : Int32) else some (0 : Int32) else some (0 : Int32) else some (0 : Int32) else some (0 : Int32) else some (0 : Int32) else some (0 : Int32) else some (0 : Int32) else some (0 : Int32) else some (0 : Int32) else some (0 : Int32) else some (0 : Int32) else some (0 : Int32) else some (0 : Int32) else some (0 : Int32) else some (0 : Int32) else some (0 : Int32) else some (0 : Int32) else some (0 : Int32) else some (0 : Int32) else some (0 : Int32) else some (0 : Int32) else some (0 : Int32) else some (0 : Int32) else some (0 : Int32) else some (0 : Int32) else some (0 : Int32) else some (0 : Int32) else some (0 : Int32) else some (0 : Int32) else some (0 : Int32) else some (0 : Int32) else some (0 : Int32) else some (0 : Int32) else some (0 : Int32) else some (0 : Int32) else some (0 : Int32) else some (0 : Int32) else some (0 : Int32) else some (0 : Int32) else some (0 : Int32) else some (0 : Int32) else some (0 : Int32) else some (0 : Int32) else some (0 : Int32) else some (0 : Int32) else some (0 : Int32)
set_option maxRecDepth 100000 in
set_option maxHeartbeats 4000000 in
theorem eL_counts (x : GX) (C : GC x cL_counts RL rmL_counts) (N : xn x = 2)  (o : Int32) (E : GE x (some .boolean) 187 8998 (fun zv _ => zv = some ((.int o)))) (hf : fL_counts  = some o)  : GW x 0 0 [] [] 0 [] := by
  unfold fL_counts at hf
  obtain ⟨y_4, h_4, hf⟩ := k_bd hf
  obtain ⟨ob, h0, h1⟩ := k_bd h_4
  cases h1
  refine g_new C (pc := 0) lWL_14 [.null, .null, .null, .null, .null, .null, .null] (fun j hj => by rcases (show j = 0 ∨ j = 1 ∨ j = 2 ∨ j = 3 ∨ j = 4 ∨ j = 5 ∨ j = 6 by omega) with rfl | rfl | rfl | rfl | rfl | rfl | rfl <;> rfl) ⟨Nat.le_of_ble_eq_true rfl, Nat.le_of_ble_eq_true rfl⟩ dL_counts_0 (fun qk => ?_)
  refine g_dup C (pc := 3) dL_counts_3 rfl ?_
  refine g_callJ C (pc := 4) (b := qk) (As := []) (rest := [.ref qk]) (wr := []) (wc := [newT qk]) lkX10_init lIL_100 (cX10_init_k (xl x) (xD x) (xy x) qk ob h0) rfl ⟨⟨Nat.le_of_ble_eq_true rfl, Nat.le_of_ble_eq_true rfl⟩, ⟨rfl, rfl⟩, ⟨Nat.le_of_ble_eq_true rfl, Nat.le_of_ble_eq_true rfl⟩⟩ rfl (Nat.le_of_ble_eq_true rfl) dL_counts_4 rfl (fun zv zw hw => ?_)
  obtain ⟨rfl, ta, kf, sf, zQ, zS, rfl, hk, hs, hw⟩ := hw
  refine g_perm (ws' := tkw (xy x) ta kf sf zQ zS (C0 ob)) hw ?_
  refine g_nil ?_
  show GW x 187 8998 (tkw (xy x) ta kf sf zQ zS (C0 ob) ++ []) _ 7 [.ref ta.1]
  refine g_astore_n C (pc := 7) (lo' := [(0, .ref ta.1)]) dL_counts_7 rfl N rfl rfl ?_
  refine g_aload_n C (pc := 8) 0 dL_counts_8 rfl rfl ?_
  obtain ⟨y_9, h_9, hf⟩ := k_bd hf
  refine g_callO C (pc := 9) (As := []) (rest := []) (v1 := .int y_9.1) (c' := y_9.2) (st' := [.int y_9.1]) lkX10_undo lVL_105 (kC_undo (xl x) (xD x) (xy x) ta kf sf zQ zS (C0 ob)  y_9 hk hs h_9) rfl ⟨⟨Nat.le_of_ble_eq_true rfl, Nat.le_of_ble_eq_true rfl⟩, ⟨rfl, rfl⟩, ⟨Nat.le_of_ble_eq_true rfl, Nat.le_of_ble_eq_true rfl⟩⟩ rfl rfl (Nat.le_of_ble_eq_true rfl) rfl dL_counts_9 (fun kf_9 zQ_9 hk_9 => ?_)
  refine g_bipush C (pc := 12) dL_counts_12 ck_bipush_m5 ?_
  refine g_icmp_ne C (pc := 14) 141 dL_counts_14 (by decide) (fun c_14 => ?_) (fun c_14 => ?_)
  · replace hf := (k_if hf).2 c_14
    refine g_iconst C (pc := 141) dL_counts_141 ck_iconst_0 ?_
    cases hf
    exact g_wid (Nat.le_of_ble_eq_true rfl) (Nat.le_of_ble_eq_true rfl) (g_zret C E rfl (pc := 142) dL_counts_142 rfl)
  · replace hf := (k_if hf).1 c_14
    refine g_aload_n C (pc := 17) 0 dL_counts_17 rfl rfl ?_
    refine g_iconst C (pc := 18) dL_counts_18 ck_iconst_0 ?_
    obtain ⟨y_19, h_19, hf⟩ := k_bd hf
    refine g_callO C (pc := 19) (As := [.int (0 : Int32)]) (rest := []) (v1 := .int y_19.1) (c' := y_19.2) (st' := [.int y_19.1]) lkX10_restore lVL_89 (kC_restore (xl x) (xD x) (xy x) ta kf_9 sf zQ_9 zS y_9.2 (0 : Int32) y_19 hk_9 hs h_19) rfl ⟨⟨Nat.le_of_ble_eq_true rfl, Nat.le_of_ble_eq_true rfl⟩, ⟨rfl, rfl⟩, ⟨Nat.le_of_ble_eq_true rfl, Nat.le_of_ble_eq_true rfl⟩⟩ rfl rfl (Nat.le_of_ble_eq_true rfl) rfl dL_counts_19 (fun kf_19 zQ_19 hk_19 => ?_)
    refine g_bipush C (pc := 22) dL_counts_22 ck_bipush_m5 ?_
    refine g_icmp_ne C (pc := 24) 141 dL_counts_24 (by decide) (fun c_24 => ?_) (fun c_24 => ?_)
    · replace hf := (k_if hf).2 c_24
      refine g_iconst C (pc := 141) dL_counts_141 ck_iconst_0 ?_
      cases hf
      exact g_wid (Nat.le_of_ble_eq_true rfl) (Nat.le_of_ble_eq_true rfl) (g_zret C E rfl (pc := 142) dL_counts_142 rfl)
    · replace hf := (k_if hf).1 c_24
      refine g_aload_n C (pc := 27) 0 dL_counts_27 rfl rfl ?_
      refine g_bipush C (pc := 28) dL_counts_28 ck_bipush_8 ?_
      obtain ⟨y_30, h_30, hf⟩ := k_bd hf
      refine g_callO C (pc := 30) (As := [.int (8 : Int32)]) (rest := []) (v1 := .int y_30.1) (c' := y_30.2) (st' := [.int y_30.1]) lkX10_count lVL_13 (kC_count (xl x) (xD x) (xy x) ta kf_19 sf zQ_19 zS y_19.2 (8 : Int32) y_30 hk_19 hs h_30) rfl ⟨⟨Nat.le_of_ble_eq_true rfl, Nat.le_of_ble_eq_true rfl⟩, ⟨rfl, rfl⟩, ⟨Nat.le_of_ble_eq_true rfl, Nat.le_of_ble_eq_true rfl⟩⟩ rfl rfl (Nat.le_of_ble_eq_true rfl) rfl dL_counts_30 (fun kf_30 zQ_30 hk_30 => ?_)
      refine g_sipush C (pc := 33) dL_counts_33 ck_sipush_512 ?_
      refine g_icmp_ne C (pc := 36) 141 dL_counts_36 (by decide) (fun c_36 => ?_) (fun c_36 => ?_)
      · replace hf := (k_if hf).2 c_36
        refine g_iconst C (pc := 141) dL_counts_141 ck_iconst_0 ?_
        cases hf
        exact g_wid (Nat.le_of_ble_eq_true rfl) (Nat.le_of_ble_eq_true rfl) (g_zret C E rfl (pc := 142) dL_counts_142 rfl)
      · replace hf := (k_if hf).1 c_36
        refine g_aload_n C (pc := 39) 0 dL_counts_39 rfl rfl ?_
        refine g_bipush C (pc := 40) dL_counts_40 ck_bipush_9 ?_
        obtain ⟨y_42, h_42, hf⟩ := k_bd hf
        refine g_callO C (pc := 42) (As := [.int (9 : Int32)]) (rest := []) (v1 := .int y_42.1) (c' := y_42.2) (st' := [.int y_42.1]) lkX10_count lVL_13 (kC_count (xl x) (xD x) (xy x) ta kf_30 sf zQ_30 zS y_30.2 (9 : Int32) y_42 hk_30 hs h_42) rfl ⟨⟨Nat.le_of_ble_eq_true rfl, Nat.le_of_ble_eq_true rfl⟩, ⟨rfl, rfl⟩, ⟨Nat.le_of_ble_eq_true rfl, Nat.le_of_ble_eq_true rfl⟩⟩ rfl rfl (Nat.le_of_ble_eq_true rfl) rfl dL_counts_42 (fun kf_42 zQ_42 hk_42 => ?_)
        refine g_iconst C (pc := 45) dL_counts_45 ck_iconst_1 ?_
        refine g_icmp_ne C (pc := 46) 141 dL_counts_46 (by decide) (fun c_46 => ?_) (fun c_46 => ?_)
        · replace hf := (k_if hf).2 c_46
          refine g_iconst C (pc := 141) dL_counts_141 ck_iconst_0 ?_
          cases hf
          exact g_wid (Nat.le_of_ble_eq_true rfl) (Nat.le_of_ble_eq_true rfl) (g_zret C E rfl (pc := 142) dL_counts_142 rfl)
        · replace hf := (k_if hf).1 c_46
          refine g_aload_n C (pc := 49) 0 dL_counts_49 rfl rfl ?_
          refine g_bipush C (pc := 50) dL_counts_50 ck_bipush_10 ?_
          obtain ⟨y_52, h_52, hf⟩ := k_bd hf
          refine g_callO C (pc := 52) (As := [.int (10 : Int32)]) (rest := []) (v1 := .int y_52.1) (c' := y_52.2) (st' := [.int y_52.1]) lkX10_count lVL_13 (kC_count (xl x) (xD x) (xy x) ta kf_42 sf zQ_42 zS y_42.2 (10 : Int32) y_52 hk_42 hs h_52) rfl ⟨⟨Nat.le_of_ble_eq_true rfl, Nat.le_of_ble_eq_true rfl⟩, ⟨rfl, rfl⟩, ⟨Nat.le_of_ble_eq_true rfl, Nat.le_of_ble_eq_true rfl⟩⟩ rfl rfl (Nat.le_of_ble_eq_true rfl) rfl dL_counts_52 (fun kf_52 zQ_52 hk_52 => ?_)
          refine g_iconst C (pc := 55) dL_counts_55 ck_iconst_1 ?_
          refine g_icmp_ne C (pc := 56) 141 dL_counts_56 (by decide) (fun c_56 => ?_) (fun c_56 => ?_)
          · replace hf := (k_if hf).2 c_56
            refine g_iconst C (pc := 141) dL_counts_141 ck_iconst_0 ?_
            cases hf
            exact g_wid (Nat.le_of_ble_eq_true rfl) (Nat.le_of_ble_eq_true rfl) (g_zret C E rfl (pc := 142) dL_counts_142 rfl)
          · replace hf := (k_if hf).1 c_56
            refine g_aload_n C (pc := 59) 0 dL_counts_59 rfl rfl ?_
            refine g_bipush C (pc := 60) dL_counts_60 ck_bipush_7 ?_
            obtain ⟨y_62, h_62, hf⟩ := k_bd hf
            refine g_callO C (pc := 62) (As := [.int (7 : Int32)]) (rest := []) (v1 := .long y_62.1) (c' := y_62.2) (st' := [.long y_62.1]) lkX10_core lVL_70 (kC_core (xl x) (xD x) (xy x) ta kf_52 sf zQ_52 zS y_52.2 (7 : Int32) y_62 hk_52 hs h_62) rfl ⟨⟨Nat.le_of_ble_eq_true rfl, Nat.le_of_ble_eq_true rfl⟩, ⟨rfl, rfl⟩, ⟨Nat.le_of_ble_eq_true rfl, Nat.le_of_ble_eq_true rfl⟩⟩ rfl rfl (Nat.le_of_ble_eq_true rfl) rfl dL_counts_62 (fun kf_62 zQ_62 hk_62 => ?_)
            refine g_lconst C (pc := 65) (v := 0) dL_counts_65 rfl ?_
            refine g_lcmp C (pc := 66) dL_counts_66 ?_
            refine g_if_ne C (pc := 67) 141 dL_counts_67 (by decide) (fun c_67 => ?_) (fun c_67 => ?_)
            · replace hf := (k_if hf).2 c_67
              refine g_iconst C (pc := 141) dL_counts_141 ck_iconst_0 ?_
              cases hf
              exact g_wid (Nat.le_of_ble_eq_true rfl) (Nat.le_of_ble_eq_true rfl) (g_zret C E rfl (pc := 142) dL_counts_142 rfl)
            · replace hf := (k_if hf).1 c_67
              refine g_aload_n C (pc := 70) 0 dL_counts_70 rfl rfl ?_
              refine g_bipush C (pc := 71) dL_counts_71 ck_bipush_7 ?_
              refine g_iconst C (pc := 73) dL_counts_73 ck_iconst_1 ?_
              refine g_iconst C (pc := 74) dL_counts_74 ck_iconst_0 ?_
              refine g_iconst C (pc := 75) dL_counts_75 ck_iconst_0 ?_
              refine g_iconst C (pc := 76) dL_counts_76 ck_iconst_1 ?_
              obtain ⟨y_77, h_77, hf⟩ := k_bd hf
              refine g_callO C (pc := 77) (As := [.int (7 : Int32), .int (1 : Int32), .int (0 : Int32), .int (0 : Int32), .int (1 : Int32)]) (rest := []) (v1 := .int y_77.1) (c' := y_77.2) (st' := [.int y_77.1]) lkX10_step lVL_35 (kC_step (xl x) (xD x) (xy x) ta kf_62 sf zQ_62 zS y_62.2 (7 : Int32) (1 : Int32) (0 : Int32) (0 : Int32) (1 : Int32) y_77 hk_62 hs h_77) rfl ⟨⟨Nat.le_of_ble_eq_true rfl, Nat.le_of_ble_eq_true rfl⟩, ⟨rfl, rfl⟩, ⟨Nat.le_of_ble_eq_true rfl, Nat.le_of_ble_eq_true rfl⟩⟩ rfl rfl (Nat.le_of_ble_eq_true rfl) rfl dL_counts_77 (fun kf_77 zQ_77 hk_77 => ?_)
              refine g_if_ne C (pc := 80) 141 dL_counts_80 (by decide) (fun c_80 => ?_) (fun c_80 => ?_)
              · replace hf := (k_if hf).2 c_80
                refine g_iconst C (pc := 141) dL_counts_141 ck_iconst_0 ?_
                cases hf
                exact g_wid (Nat.le_of_ble_eq_true rfl) (Nat.le_of_ble_eq_true rfl) (g_zret C E rfl (pc := 142) dL_counts_142 rfl)
              · replace hf := (k_if hf).1 c_80
                refine g_aload_n C (pc := 83) 0 dL_counts_83 rfl rfl ?_
                refine g_iconst C (pc := 84) dL_counts_84 ck_iconst_0 ?_
                refine g_iconst C (pc := 85) dL_counts_85 ck_iconst_0 ?_
                obtain ⟨y_86, h_86, hf⟩ := k_bd hf
                refine g_callO C (pc := 86) (As := [.int (0 : Int32), .int (0 : Int32)]) (rest := []) (v1 := .int y_86.1) (c' := y_86.2) (st' := [.int y_86.1]) lkX10_leads lVL_54 (kC_leads (xl x) (xD x) (xy x) ta kf_77 sf zQ_77 zS y_77.2 (0 : Int32) (0 : Int32) y_86 hk_77 hs h_86) rfl ⟨⟨Nat.le_of_ble_eq_true rfl, Nat.le_of_ble_eq_true rfl⟩, ⟨rfl, rfl⟩, ⟨Nat.le_of_ble_eq_true rfl, Nat.le_of_ble_eq_true rfl⟩⟩ rfl rfl (Nat.le_of_ble_eq_true rfl) rfl dL_counts_86 (fun kf_86 zQ_86 hk_86 => ?_)
                refine g_bipush C (pc := 89) dL_counts_89 ck_bipush_64 ?_
                refine g_icmp_ne C (pc := 91) 141 dL_counts_91 (by decide) (fun c_91 => ?_) (fun c_91 => ?_)
                · replace hf := (k_if hf).2 c_91
                  refine g_iconst C (pc := 141) dL_counts_141 ck_iconst_0 ?_
                  cases hf
                  exact g_wid (Nat.le_of_ble_eq_true rfl) (Nat.le_of_ble_eq_true rfl) (g_zret C E rfl (pc := 142) dL_counts_142 rfl)
                · replace hf := (k_if hf).1 c_91
                  refine g_aload_n C (pc := 94) 0 dL_counts_94 rfl rfl ?_
                  refine g_iconst C (pc := 95) dL_counts_95 ck_iconst_0 ?_
                  refine g_sipush C (pc := 96) dL_counts_96 ck_sipush_448 ?_
                  obtain ⟨y_99, h_99, hf⟩ := k_bd hf
                  refine g_callO C (pc := 99) (As := [.int (0 : Int32), .int (448 : Int32)]) (rest := []) (v1 := .int y_99.1) (c' := y_99.2) (st' := [.int y_99.1]) lkX10_leads lVL_54 (kC_leads (xl x) (xD x) (xy x) ta kf_86 sf zQ_86 zS y_86.2 (0 : Int32) (448 : Int32) y_99 hk_86 hs h_99) rfl ⟨⟨Nat.le_of_ble_eq_true rfl, Nat.le_of_ble_eq_true rfl⟩, ⟨rfl, rfl⟩, ⟨Nat.le_of_ble_eq_true rfl, Nat.le_of_ble_eq_true rfl⟩⟩ rfl rfl (Nat.le_of_ble_eq_true rfl) rfl dL_counts_99 (fun kf_99 zQ_99 hk_99 => ?_)
                  refine g_bipush C (pc := 102) dL_counts_102 ck_bipush_m6 ?_
                  refine g_icmp_ne C (pc := 104) 141 dL_counts_104 (by decide) (fun c_104 => ?_) (fun c_104 => ?_)
                  · replace hf := (k_if hf).2 c_104
                    refine g_iconst C (pc := 141) dL_counts_141 ck_iconst_0 ?_
                    cases hf
                    exact g_wid (Nat.le_of_ble_eq_true rfl) (Nat.le_of_ble_eq_true rfl) (g_zret C E rfl (pc := 142) dL_counts_142 rfl)
                  · replace hf := (k_if hf).1 c_104
                    refine g_aload_n C (pc := 107) 0 dL_counts_107 rfl rfl ?_
                    refine g_bipush C (pc := 108) dL_counts_108 ck_bipush_9 ?_
                    obtain ⟨y_110, h_110, hf⟩ := k_bd hf
                    refine g_callO C (pc := 110) (As := [.int (9 : Int32)]) (rest := []) (v1 := .int y_110.1) (c' := y_110.2) (st' := [.int y_110.1]) lkX10_count lVL_13 (kC_count (xl x) (xD x) (xy x) ta kf_99 sf zQ_99 zS y_99.2 (9 : Int32) y_110 hk_99 hs h_110) rfl ⟨⟨Nat.le_of_ble_eq_true rfl, Nat.le_of_ble_eq_true rfl⟩, ⟨rfl, rfl⟩, ⟨Nat.le_of_ble_eq_true rfl, Nat.le_of_ble_eq_true rfl⟩⟩ rfl rfl (Nat.le_of_ble_eq_true rfl) rfl dL_counts_110 (fun kf_110 zQ_110 hk_110 => ?_)
                    refine g_bipush C (pc := 113) dL_counts_113 ck_bipush_8 ?_
                    refine g_icmp_ne C (pc := 115) 141 dL_counts_115 (by decide) (fun c_115 => ?_) (fun c_115 => ?_)
                    · replace hf := (k_if hf).2 c_115
                      refine g_iconst C (pc := 141) dL_counts_141 ck_iconst_0 ?_
                      cases hf
                      exact g_wid (Nat.le_of_ble_eq_true rfl) (Nat.le_of_ble_eq_true rfl) (g_zret C E rfl (pc := 142) dL_counts_142 rfl)
                    · replace hf := (k_if hf).1 c_115
                      refine g_aload_n C (pc := 118) 0 dL_counts_118 rfl rfl ?_
                      refine g_iconst C (pc := 119) dL_counts_119 ck_iconst_0 ?_
                      refine g_iconst C (pc := 120) dL_counts_120 ck_iconst_4 ?_
                      obtain ⟨y_121, h_121, hf⟩ := k_bd hf
                      refine g_callO C (pc := 121) (As := [.int (0 : Int32), .int (4 : Int32)]) (rest := []) (v1 := .int y_121.1) (c' := y_121.2) (st' := [.int y_121.1]) lkX10_ofStep lVL_19 (kC_ofStep (xl x) (xD x) (xy x) ta kf_110 sf zQ_110 zS y_110.2 (0 : Int32) (4 : Int32) y_121 hk_110 hs h_121) rfl ⟨⟨Nat.le_of_ble_eq_true rfl, Nat.le_of_ble_eq_true rfl⟩, ⟨rfl, rfl⟩, ⟨Nat.le_of_ble_eq_true rfl, Nat.le_of_ble_eq_true rfl⟩⟩ rfl rfl (Nat.le_of_ble_eq_true rfl) rfl dL_counts_121 (fun kf_121 zQ_121 hk_121 => ?_)
                      refine g_bipush C (pc := 124) dL_counts_124 ck_bipush_8 ?_
                      refine g_icmp_ne C (pc := 126) 141 dL_counts_126 (by decide) (fun c_126 => ?_) (fun c_126 => ?_)
                      · replace hf := (k_if hf).2 c_126
                        refine g_iconst C (pc := 141) dL_counts_141 ck_iconst_0 ?_
                        cases hf
                        exact g_wid (Nat.le_of_ble_eq_true rfl) (Nat.le_of_ble_eq_true rfl) (g_zret C E rfl (pc := 142) dL_counts_142 rfl)
                      · replace hf := (k_if hf).1 c_126
                        refine g_aload_n C (pc := 129) 0 dL_counts_129 rfl rfl ?_
                        refine g_iconst C (pc := 130) dL_counts_130 ck_iconst_0 ?_
                        refine g_iconst C (pc := 131) dL_counts_131 ck_iconst_5 ?_
                        obtain ⟨y_132, h_132, hf⟩ := k_bd hf
                        refine g_callO C (pc := 132) (As := [.int (0 : Int32), .int (5 : Int32)]) (rest := []) (v1 := .int y_132.1) (c' := y_132.2) (st' := [.int y_132.1]) lkX10_ofStep lVL_19 (kC_ofStep (xl x) (xD x) (xy x) ta kf_121 sf zQ_121 zS y_121.2 (0 : Int32) (5 : Int32) y_132 hk_121 hs h_132) rfl ⟨⟨Nat.le_of_ble_eq_true rfl, Nat.le_of_ble_eq_true rfl⟩, ⟨rfl, rfl⟩, ⟨Nat.le_of_ble_eq_true rfl, Nat.le_of_ble_eq_true rfl⟩⟩ rfl rfl (Nat.le_of_ble_eq_true rfl) rfl dL_counts_132 (fun kf_132 zQ_132 hk_132 => ?_)
                        refine g_sipush C (pc := 135) dL_counts_135 ck_sipush_448 ?_
                        refine g_icmp_eq C (pc := 138) 143 dL_counts_138 (by decide) (fun c_138 => ?_) (fun c_138 => ?_)
                        · replace hf := (k_if hf).1 c_138
                          refine g_aload_n C (pc := 143) 0 dL_counts_143 rfl rfl ?_
                          refine g_sipush C (pc := 144) dL_counts_144 ck_sipush_418 ?_
                          obtain ⟨y_147, h_147, hf⟩ := k_bd hf
                          refine g_callO C (pc := 147) (As := [.int (418 : Int32)]) (rest := []) (v1 := .int y_147.1) (c' := y_147.2) (st' := [.int y_147.1]) lkX10_candidate lVL_42 (kC_candidate (xl x) (xD x) (xy x) ta kf_132 sf zQ_132 zS y_132.2 (418 : Int32) y_147 hk_132 hs h_147) rfl ⟨⟨Nat.le_of_ble_eq_true rfl, Nat.le_of_ble_eq_true rfl⟩, ⟨rfl, rfl⟩, ⟨Nat.le_of_ble_eq_true rfl, Nat.le_of_ble_eq_true rfl⟩⟩ rfl rfl (Nat.le_of_ble_eq_true rfl) rfl dL_counts_147 (fun kf_147 zQ_147 hk_147 => ?_)
                          refine g_if_ne C (pc := 150) 302 dL_counts_150 (by decide) (fun c_150 => ?_) (fun c_150 => ?_)
                          · replace hf := (k_if hf).2 c_150
                            refine g_iconst C (pc := 302) dL_counts_302 ck_iconst_0 ?_
                            cases hf
                            exact g_wid (Nat.le_of_ble_eq_true rfl) (Nat.le_of_ble_eq_true rfl) (g_zret C E rfl (pc := 303) dL_counts_303 rfl)
                          · replace hf := (k_if hf).1 c_150
                            refine g_aload_n C (pc := 153) 0 dL_counts_153 rfl rfl ?_
                            refine g_sipush C (pc := 154) dL_counts_154 ck_sipush_232 ?_
                            obtain ⟨y_157, h_157, hf⟩ := k_bd hf
                            refine g_callO C (pc := 157) (As := [.int (232 : Int32)]) (rest := []) (v1 := .int y_157.1) (c' := y_157.2) (st' := [.int y_157.1]) lkX10_candidate lVL_42 (kC_candidate (xl x) (xD x) (xy x) ta kf_147 sf zQ_147 zS y_147.2 (232 : Int32) y_157 hk_147 hs h_157) rfl ⟨⟨Nat.le_of_ble_eq_true rfl, Nat.le_of_ble_eq_true rfl⟩, ⟨rfl, rfl⟩, ⟨Nat.le_of_ble_eq_true rfl, Nat.le_of_ble_eq_true rfl⟩⟩ rfl rfl (Nat.le_of_ble_eq_true rfl) rfl dL_counts_157 (fun kf_157 zQ_157 hk_157 => ?_)
                            refine g_iconst C (pc := 160) dL_counts_160 ck_iconst_1 ?_
                            refine g_icmp_ne C (pc := 161) 302 dL_counts_161 (by decide) (fun c_161 => ?_) (fun c_161 => ?_)
                            · replace hf := (k_if hf).2 c_161
                              refine g_iconst C (pc := 302) dL_counts_302 ck_iconst_0 ?_
                              cases hf
                              exact g_wid (Nat.le_of_ble_eq_true rfl) (Nat.le_of_ble_eq_true rfl) (g_zret C E rfl (pc := 303) dL_counts_303 rfl)
                            · replace hf := (k_if hf).1 c_161
                              refine g_aload_n C (pc := 164) 0 dL_counts_164 rfl rfl ?_
                              refine g_sipush C (pc := 165) dL_counts_165 ck_sipush_1237 ?_
                              obtain ⟨y_168, h_168, hf⟩ := k_bd hf
                              refine g_callO C (pc := 168) (As := [.int (1237 : Int32)]) (rest := []) (v1 := .int y_168.1) (c' := y_168.2) (st' := [.int y_168.1]) lkX10_candidate lVL_42 (kC_candidate (xl x) (xD x) (xy x) ta kf_157 sf zQ_157 zS y_157.2 (1237 : Int32) y_168 hk_157 hs h_168) rfl ⟨⟨Nat.le_of_ble_eq_true rfl, Nat.le_of_ble_eq_true rfl⟩, ⟨rfl, rfl⟩, ⟨Nat.le_of_ble_eq_true rfl, Nat.le_of_ble_eq_true rfl⟩⟩ rfl rfl (Nat.le_of_ble_eq_true rfl) rfl dL_counts_168 (fun kf_168 zQ_168 hk_168 => ?_)
                              refine g_iconst C (pc := 171) dL_counts_171 ck_iconst_2 ?_
                              refine g_icmp_ne C (pc := 172) 302 dL_counts_172 (by decide) (fun c_172 => ?_) (fun c_172 => ?_)
                              · replace hf := (k_if hf).2 c_172
                                refine g_iconst C (pc := 302) dL_counts_302 ck_iconst_0 ?_
                                cases hf
                                exact g_wid (Nat.le_of_ble_eq_true rfl) (Nat.le_of_ble_eq_true rfl) (g_zret C E rfl (pc := 303) dL_counts_303 rfl)
                              · replace hf := (k_if hf).1 c_172
                                refine g_aload_n C (pc := 175) 0 dL_counts_175 rfl rfl ?_
                                refine g_sipush C (pc := 176) dL_counts_176 ck_sipush_232 ?_
                                obtain ⟨y_179, h_179, hf⟩ := k_bd hf
                                refine g_callO C (pc := 179) (As := [.int (232 : Int32)]) (rest := []) (v1 := .int y_179.1) (c' := y_179.2) (st' := [.int y_179.1]) lkX10_candidate lVL_42 (kC_candidate (xl x) (xD x) (xy x) ta kf_168 sf zQ_168 zS y_168.2 (232 : Int32) y_179 hk_168 hs h_179) rfl ⟨⟨Nat.le_of_ble_eq_true rfl, Nat.le_of_ble_eq_true rfl⟩, ⟨rfl, rfl⟩, ⟨Nat.le_of_ble_eq_true rfl, Nat.le_of_ble_eq_true rfl⟩⟩ rfl rfl (Nat.le_of_ble_eq_true rfl) rfl dL_counts_179 (fun kf_179 zQ_179 hk_179 => ?_)
                                refine g_bipush C (pc := 182) dL_counts_182 ck_bipush_m5 ?_
                                refine g_icmp_ne C (pc := 184) 302 dL_counts_184 (by decide) (fun c_184 => ?_) (fun c_184 => ?_)
                                · replace hf := (k_if hf).2 c_184
                                  refine g_iconst C (pc := 302) dL_counts_302 ck_iconst_0 ?_
                                  cases hf
                                  exact g_wid (Nat.le_of_ble_eq_true rfl) (Nat.le_of_ble_eq_true rfl) (g_zret C E rfl (pc := 303) dL_counts_303 rfl)
                                · replace hf := (k_if hf).1 c_184
                                  refine g_aload_n C (pc := 187) 0 dL_counts_187 rfl rfl ?_
                                  refine g_aload_n C (pc := 188) 0 dL_counts_188 rfl rfl ?_
                                  refine g_iconst C (pc := 189) dL_counts_189 ck_iconst_1 ?_
                                  refine g_iconst C (pc := 190) dL_counts_190 ck_iconst_0 ?_
                                  refine g_iconst C (pc := 191) dL_counts_191 ck_iconst_0 ?_
                                  refine g_iconst C (pc := 192) dL_counts_192 ck_iconst_3 ?_
                                  obtain ⟨y_193, h_193, hf⟩ := k_bd hf
                                  refine g_callO C (pc := 193) (As := [.int (1 : Int32), .int (0 : Int32), .int (0 : Int32), .int (3 : Int32)]) (rest := [.ref ta.1]) (v1 := .int y_193.1) (c' := y_193.2) (st' := [.int y_193.1, .ref ta.1]) lkX10_claim lVL_101 (kC_claim (xl x) (xD x) (xy x) ta kf_179 sf zQ_179 zS y_179.2 (1 : Int32) (0 : Int32) (0 : Int32) (3 : Int32) y_193 hk_179 hs h_193) rfl ⟨⟨Nat.le_of_ble_eq_true rfl, Nat.le_of_ble_eq_true rfl⟩, ⟨rfl, rfl⟩, ⟨Nat.le_of_ble_eq_true rfl, Nat.le_of_ble_eq_true rfl⟩⟩ rfl rfl (Nat.le_of_ble_eq_true rfl) rfl dL_counts_193 (fun kf_193 zQ_193 hk_193 => ?_)
                                  obtain ⟨y_196, h_196, hf⟩ := k_bd hf
                                  refine g_callO C (pc := 196) (As := [.int y_193.1]) (rest := []) (v1 := .int y_196.1) (c' := y_196.2) (st' := [.int y_196.1]) lkX10_candidate lVL_42 (kC_candidate (xl x) (xD x) (xy x) ta kf_193 sf zQ_193 zS y_193.2 y_193.1 y_196 hk_193 hs h_196) rfl ⟨⟨Nat.le_of_ble_eq_true rfl, Nat.le_of_ble_eq_true rfl⟩, ⟨rfl, rfl⟩, ⟨Nat.le_of_ble_eq_true rfl, Nat.le_of_ble_eq_true rfl⟩⟩ rfl rfl (Nat.le_of_ble_eq_true rfl) rfl dL_counts_196 (fun kf_196 zQ_196 hk_196 => ?_)
                                  refine g_iconst C (pc := 199) dL_counts_199 ck_iconst_3 ?_
                                  refine g_icmp_ne C (pc := 200) 302 dL_counts_200 (by decide) (fun c_200 => ?_) (fun c_200 => ?_)
                                  · replace hf := (k_if hf).2 c_200
                                    refine g_iconst C (pc := 302) dL_counts_302 ck_iconst_0 ?_
                                    cases hf
                                    exact g_wid (Nat.le_of_ble_eq_true rfl) (Nat.le_of_ble_eq_true rfl) (g_zret C E rfl (pc := 303) dL_counts_303 rfl)
                                  · replace hf := (k_if hf).1 c_200
                                    refine g_aload_n C (pc := 203) 0 dL_counts_203 rfl rfl ?_
                                    refine g_iconst C (pc := 204) dL_counts_204 ck_iconst_3 ?_
                                    refine g_iconst C (pc := 205) dL_counts_205 ck_iconst_1 ?_
                                    refine g_iconst C (pc := 206) dL_counts_206 ck_iconst_0 ?_
                                    refine g_bipush C (pc := 207) dL_counts_207 ck_bipush_m6 ?_
                                    refine g_bipush C (pc := 209) dL_counts_209 ck_bipush_m6 ?_
                                    obtain ⟨y_211, h_211, hf⟩ := k_bd hf
                                    refine g_callOS C (pc := 211) (As := [.ref ta.1, .int (3 : Int32), .int (1 : Int32), .int (0 : Int32), .int (-6 : Int32), .int (-6 : Int32)]) (rest := []) (v1 := .int y_211.1) (c' := y_211.2) (st' := [.int y_211.1]) lkL_isCandidate lSL_109 (cL_isCandidate_k (xl x) (xD x) (xy x) ta kf_196 sf zQ_196 zS y_196.2 (3 : Int32) (1 : Int32) (0 : Int32) (-6 : Int32) (-6 : Int32) y_211 hk_196 hs h_211) rfl ⟨⟨Nat.le_of_ble_eq_true rfl, Nat.le_of_ble_eq_true rfl⟩, ⟨rfl, rfl⟩, ⟨Nat.le_of_ble_eq_true rfl, Nat.le_of_ble_eq_true rfl⟩⟩ rfl (Nat.le_of_ble_eq_true rfl) rfl dL_counts_211 (fun kf_211 zQ_211 hk_211 => ?_)
                                    refine g_if_eq C (pc := 214) 302 dL_counts_214 (by decide) (fun c_214 => ?_) (fun c_214 => ?_)
                                    · replace hf := (k_if hf).1 c_214
                                      refine g_iconst C (pc := 302) dL_counts_302 ck_iconst_0 ?_
                                      cases hf
                                      exact g_wid (Nat.le_of_ble_eq_true rfl) (Nat.le_of_ble_eq_true rfl) (g_zret C E rfl (pc := 303) dL_counts_303 rfl)
                                    · replace hf := (k_if hf).2 c_214
                                      refine g_aload_n C (pc := 217) 0 dL_counts_217 rfl rfl ?_
                                      refine g_iconst C (pc := 218) dL_counts_218 ck_iconst_2 ?_
                                      obtain ⟨y_219, h_219, hf⟩ := k_bd hf
                                      refine g_callO C (pc := 219) (As := [.int (2 : Int32)]) (rest := []) (v1 := .int y_219.1) (c' := y_219.2) (st' := [.int y_219.1]) lkX10_count lVL_13 (kC_count (xl x) (xD x) (xy x) ta kf_211 sf zQ_211 zS y_211.2 (2 : Int32) y_219 hk_211 hs h_219) rfl ⟨⟨Nat.le_of_ble_eq_true rfl, Nat.le_of_ble_eq_true rfl⟩, ⟨rfl, rfl⟩, ⟨Nat.le_of_ble_eq_true rfl, Nat.le_of_ble_eq_true rfl⟩⟩ rfl rfl (Nat.le_of_ble_eq_true rfl) rfl dL_counts_219 (fun kf_219 zQ_219 hk_219 => ?_)
                                      refine g_iconst C (pc := 222) dL_counts_222 ck_iconst_3 ?_
                                      refine g_icmp_ne C (pc := 223) 302 dL_counts_223 (by decide) (fun c_223 => ?_) (fun c_223 => ?_)
                                      · replace hf := (k_if hf).2 c_223
                                        refine g_iconst C (pc := 302) dL_counts_302 ck_iconst_0 ?_
                                        cases hf
                                        exact g_wid (Nat.le_of_ble_eq_true rfl) (Nat.le_of_ble_eq_true rfl) (g_zret C E rfl (pc := 303) dL_counts_303 rfl)
                                      · replace hf := (k_if hf).1 c_223
                                        refine g_aload_n C (pc := 226) 0 dL_counts_226 rfl rfl ?_
                                        refine g_iconst C (pc := 227) dL_counts_227 ck_iconst_0 ?_
                                        refine g_iconst C (pc := 228) dL_counts_228 ck_iconst_3 ?_
                                        obtain ⟨y_229, h_229, hf⟩ := k_bd hf
                                        refine g_callO C (pc := 229) (As := [.int (0 : Int32), .int (3 : Int32)]) (rest := []) (v1 := .int y_229.1) (c' := y_229.2) (st' := [.int y_229.1]) lkX10_run lVL_48 (kC_run (xl x) (xD x) (xy x) ta kf_219 sf zQ_219 zS y_219.2 (0 : Int32) (3 : Int32) y_229 hk_219 hs h_229) rfl ⟨⟨Nat.le_of_ble_eq_true rfl, Nat.le_of_ble_eq_true rfl⟩, ⟨rfl, rfl⟩, ⟨Nat.le_of_ble_eq_true rfl, Nat.le_of_ble_eq_true rfl⟩⟩ rfl rfl (Nat.le_of_ble_eq_true rfl) rfl dL_counts_229 (fun kf_229 zQ_229 hk_229 => ?_)
                                        refine g_iconst C (pc := 232) dL_counts_232 ck_iconst_3 ?_
                                        refine g_icmp_ne C (pc := 233) 302 dL_counts_233 (by decide) (fun c_233 => ?_) (fun c_233 => ?_)
                                        · replace hf := (k_if hf).2 c_233
                                          refine g_iconst C (pc := 302) dL_counts_302 ck_iconst_0 ?_
                                          cases hf
                                          exact g_wid (Nat.le_of_ble_eq_true rfl) (Nat.le_of_ble_eq_true rfl) (g_zret C E rfl (pc := 303) dL_counts_303 rfl)
                                        · replace hf := (k_if hf).1 c_233
                                          refine g_aload_n C (pc := 236) 0 dL_counts_236 rfl rfl ?_
                                          refine g_iconst C (pc := 237) dL_counts_237 ck_iconst_3 ?_
                                          obtain ⟨y_238, h_238, hf⟩ := k_bd hf
                                          refine g_callO C (pc := 238) (As := [.int (3 : Int32)]) (rest := []) (v1 := .int y_238.1) (c' := y_238.2) (st' := [.int y_238.1]) lkX10_count lVL_13 (kC_count (xl x) (xD x) (xy x) ta kf_229 sf zQ_229 zS y_229.2 (3 : Int32) y_238 hk_229 hs h_238) rfl ⟨⟨Nat.le_of_ble_eq_true rfl, Nat.le_of_ble_eq_true rfl⟩, ⟨rfl, rfl⟩, ⟨Nat.le_of_ble_eq_true rfl, Nat.le_of_ble_eq_true rfl⟩⟩ rfl rfl (Nat.le_of_ble_eq_true rfl) rfl dL_counts_238 (fun kf_238 zQ_238 hk_238 => ?_)
                                          refine g_iconst C (pc := 241) dL_counts_241 ck_iconst_4 ?_
                                          refine g_icmp_ne C (pc := 242) 302 dL_counts_242 (by decide) (fun c_242 => ?_) (fun c_242 => ?_)
                                          · replace hf := (k_if hf).2 c_242
                                            refine g_iconst C (pc := 302) dL_counts_302 ck_iconst_0 ?_
                                            cases hf
                                            exact g_wid (Nat.le_of_ble_eq_true rfl) (Nat.le_of_ble_eq_true rfl) (g_zret C E rfl (pc := 303) dL_counts_303 rfl)
                                          · replace hf := (k_if hf).1 c_242
                                            refine g_aload_n C (pc := 245) 0 dL_counts_245 rfl rfl ?_
                                            refine g_iconst C (pc := 246) dL_counts_246 ck_iconst_4 ?_
                                            obtain ⟨y_247, h_247, hf⟩ := k_bd hf
                                            refine g_callO C (pc := 247) (As := [.int (4 : Int32)]) (rest := []) (v1 := .int y_247.1) (c' := y_247.2) (st' := [.int y_247.1]) lkX10_count lVL_13 (kC_count (xl x) (xD x) (xy x) ta kf_238 sf zQ_238 zS y_238.2 (4 : Int32) y_247 hk_238 hs h_247) rfl ⟨⟨Nat.le_of_ble_eq_true rfl, Nat.le_of_ble_eq_true rfl⟩, ⟨rfl, rfl⟩, ⟨Nat.le_of_ble_eq_true rfl, Nat.le_of_ble_eq_true rfl⟩⟩ rfl rfl (Nat.le_of_ble_eq_true rfl) rfl dL_counts_247 (fun kf_247 zQ_247 hk_247 => ?_)
                                            refine g_iconst C (pc := 250) dL_counts_250 ck_iconst_1 ?_
                                            refine g_icmp_ne C (pc := 251) 302 dL_counts_251 (by decide) (fun c_251 => ?_) (fun c_251 => ?_)
                                            · replace hf := (k_if hf).2 c_251
                                              refine g_iconst C (pc := 302) dL_counts_302 ck_iconst_0 ?_
                                              cases hf
                                              exact g_wid (Nat.le_of_ble_eq_true rfl) (Nat.le_of_ble_eq_true rfl) (g_zret C E rfl (pc := 303) dL_counts_303 rfl)
                                            · replace hf := (k_if hf).1 c_251
                                              refine g_aload_n C (pc := 254) 0 dL_counts_254 rfl rfl ?_
                                              refine g_iconst C (pc := 255) dL_counts_255 ck_iconst_2 ?_
                                              refine g_iconst C (pc := 256) dL_counts_256 ck_iconst_2 ?_
                                              refine g_bipush C (pc := 257) dL_counts_257 ck_bipush_64 ?_
                                              refine g_iconst C (pc := 259) dL_counts_259 ck_iconst_0 ?_
                                              refine g_bipush C (pc := 260) dL_counts_260 ck_bipush_m6 ?_
                                              obtain ⟨y_262, h_262, hf⟩ := k_bd hf
                                              refine g_callOS C (pc := 262) (As := [.ref ta.1, .int (2 : Int32), .int (2 : Int32), .int (64 : Int32), .int (0 : Int32), .int (-6 : Int32)]) (rest := []) (v1 := .int y_262.1) (c' := y_262.2) (st' := [.int y_262.1]) lkL_isCandidate lSL_109 (cL_isCandidate_k (xl x) (xD x) (xy x) ta kf_247 sf zQ_247 zS y_247.2 (2 : Int32) (2 : Int32) (64 : Int32) (0 : Int32) (-6 : Int32) y_262 hk_247 hs h_262) rfl ⟨⟨Nat.le_of_ble_eq_true rfl, Nat.le_of_ble_eq_true rfl⟩, ⟨rfl, rfl⟩, ⟨Nat.le_of_ble_eq_true rfl, Nat.le_of_ble_eq_true rfl⟩⟩ rfl (Nat.le_of_ble_eq_true rfl) rfl dL_counts_262 (fun kf_262 zQ_262 hk_262 => ?_)
                                              refine g_if_eq C (pc := 265) 302 dL_counts_265 (by decide) (fun c_265 => ?_) (fun c_265 => ?_)
                                              · replace hf := (k_if hf).1 c_265
                                                refine g_iconst C (pc := 302) dL_counts_302 ck_iconst_0 ?_
                                                cases hf
                                                exact g_wid (Nat.le_of_ble_eq_true rfl) (Nat.le_of_ble_eq_true rfl) (g_zret C E rfl (pc := 303) dL_counts_303 rfl)
                                              · replace hf := (k_if hf).2 c_265
                                                refine g_aload_n C (pc := 268) 0 dL_counts_268 rfl rfl ?_
                                                refine g_iconst C (pc := 269) dL_counts_269 ck_iconst_0 ?_
                                                refine g_iconst C (pc := 270) dL_counts_270 ck_iconst_0 ?_
                                                refine g_bipush C (pc := 271) dL_counts_271 ck_bipush_m6 ?_
                                                refine g_bipush C (pc := 273) dL_counts_273 ck_bipush_m6 ?_
                                                refine g_bipush C (pc := 275) dL_counts_275 ck_bipush_m6 ?_
                                                obtain ⟨y_277, h_277, hf⟩ := k_bd hf
                                                refine g_callOS C (pc := 277) (As := [.ref ta.1, .int (0 : Int32), .int (0 : Int32), .int (-6 : Int32), .int (-6 : Int32), .int (-6 : Int32)]) (rest := []) (v1 := .int y_277.1) (c' := y_277.2) (st' := [.int y_277.1]) lkL_isCandidate lSL_109 (cL_isCandidate_k (xl x) (xD x) (xy x) ta kf_262 sf zQ_262 zS y_262.2 (0 : Int32) (0 : Int32) (-6 : Int32) (-6 : Int32) (-6 : Int32) y_277 hk_262 hs h_277) rfl ⟨⟨Nat.le_of_ble_eq_true rfl, Nat.le_of_ble_eq_true rfl⟩, ⟨rfl, rfl⟩, ⟨Nat.le_of_ble_eq_true rfl, Nat.le_of_ble_eq_true rfl⟩⟩ rfl (Nat.le_of_ble_eq_true rfl) rfl dL_counts_277 (fun kf_277 zQ_277 hk_277 => ?_)
                                                refine g_if_eq C (pc := 280) 302 dL_counts_280 (by decide) (fun c_280 => ?_) (fun c_280 => ?_)
                                                · replace hf := (k_if hf).1 c_280
                                                  refine g_iconst C (pc := 302) dL_counts_302 ck_iconst_0 ?_
                                                  cases hf
                                                  exact g_wid (Nat.le_of_ble_eq_true rfl) (Nat.le_of_ble_eq_true rfl) (g_zret C E rfl (pc := 303) dL_counts_303 rfl)
                                                · replace hf := (k_if hf).2 c_280
                                                  refine g_aload_n C (pc := 283) 0 dL_counts_283 rfl rfl ?_
                                                  refine g_bipush C (pc := 284) dL_counts_284 ck_bipush_77 ?_
                                                  refine g_iconst C (pc := 286) dL_counts_286 ck_iconst_3 ?_
                                                  obtain ⟨y_287, h_287, hf⟩ := k_bd hf
                                                  refine g_callO C (pc := 287) (As := [.int (77 : Int32), .int (3 : Int32)]) (rest := []) (v1 := .int y_287.1) (c' := y_287.2) (st' := [.int y_287.1]) lkX10_run lVL_48 (kC_run (xl x) (xD x) (xy x) ta kf_277 sf zQ_277 zS y_277.2 (77 : Int32) (3 : Int32) y_287 hk_277 hs h_287) rfl ⟨⟨Nat.le_of_ble_eq_true rfl, Nat.le_of_ble_eq_true rfl⟩, ⟨rfl, rfl⟩, ⟨Nat.le_of_ble_eq_true rfl, Nat.le_of_ble_eq_true rfl⟩⟩ rfl rfl (Nat.le_of_ble_eq_true rfl) rfl dL_counts_287 (fun kf_287 zQ_287 hk_287 => ?_)
                                                  refine g_if_ne C (pc := 290) 302 dL_counts_290 (by decide) (fun c_290 => ?_) (fun c_290 => ?_)
                                                  · replace hf := (k_if hf).2 c_290
                                                    refine g_iconst C (pc := 302) dL_counts_302 ck_iconst_0 ?_
                                                    cases hf
                                                    exact g_wid (Nat.le_of_ble_eq_true rfl) (Nat.le_of_ble_eq_true rfl) (g_zret C E rfl (pc := 303) dL_counts_303 rfl)
                                                  · replace hf := (k_if hf).1 c_290
                                                    refine g_aload_n C (pc := 293) 0 dL_counts_293 rfl rfl ?_
                                                    refine g_iconst C (pc := 294) dL_counts_294 ck_iconst_4 ?_
                                                    obtain ⟨y_295, h_295, hf⟩ := k_bd hf
                                                    refine g_callO C (pc := 295) (As := [.int (4 : Int32)]) (rest := []) (v1 := .int y_295.1) (c' := y_295.2) (st' := [.int y_295.1]) lkX10_count lVL_13 (kC_count (xl x) (xD x) (xy x) ta kf_287 sf zQ_287 zS y_287.2 (4 : Int32) y_295 hk_287 hs h_295) rfl ⟨⟨Nat.le_of_ble_eq_true rfl, Nat.le_of_ble_eq_true rfl⟩, ⟨rfl, rfl⟩, ⟨Nat.le_of_ble_eq_true rfl, Nat.le_of_ble_eq_true rfl⟩⟩ rfl rfl (Nat.le_of_ble_eq_true rfl) rfl dL_counts_295 (fun kf_295 zQ_295 hk_295 => ?_)
                                                    refine g_iconst C (pc := 298) dL_counts_298 ck_iconst_2 ?_
                                                    refine g_icmp_eq C (pc := 299) 304 dL_counts_299 (by decide) (fun c_299 => ?_) (fun c_299 => ?_)
                                                    · replace hf := (k_if hf).1 c_299
                                                      refine g_aload_n C (pc := 304) 0 dL_counts_304 rfl rfl ?_
                                                      refine g_bipush C (pc := 305) dL_counts_305 ck_bipush_10 ?_
                                                      obtain ⟨y_307, h_307, hf⟩ := k_bd hf
                                                      refine g_callO C (pc := 307) (As := [.int (10 : Int32)]) (rest := []) (v1 := .int y_307.1) (c' := y_307.2) (st' := [.int y_307.1]) lkX10_count lVL_13 (kC_count (xl x) (xD x) (xy x) ta kf_295 sf zQ_295 zS y_295.2 (10 : Int32) y_307 hk_295 hs h_307) rfl ⟨⟨Nat.le_of_ble_eq_true rfl, Nat.le_of_ble_eq_true rfl⟩, ⟨rfl, rfl⟩, ⟨Nat.le_of_ble_eq_true rfl, Nat.le_of_ble_eq_true rfl⟩⟩ rfl rfl (Nat.le_of_ble_eq_true rfl) rfl dL_counts_307 (fun kf_307 zQ_307 hk_307 => ?_)
                                                      refine g_if_ne C (pc := 310) 426 dL_counts_310 (by decide) (fun c_310 => ?_) (fun c_310 => ?_)
                                                      · replace hf := (k_if hf).2 c_310
                                                        refine g_iconst C (pc := 426) dL_counts_426 ck_iconst_0 ?_
                                                        cases hf
                                                        exact g_wid (Nat.le_of_ble_eq_true rfl) (Nat.le_of_ble_eq_true rfl) (g_zret C E rfl (pc := 427) dL_counts_427 rfl)
                                                      · replace hf := (k_if hf).1 c_310
                                                        refine g_aload_n C (pc := 313) 0 dL_counts_313 rfl rfl ?_
                                                        refine g_sipush C (pc := 314) dL_counts_314 ck_sipush_232 ?_
                                                        obtain ⟨y_317, h_317, hf⟩ := k_bd hf
                                                        refine g_callO C (pc := 317) (As := [.int (232 : Int32)]) (rest := []) (v1 := .int y_317.1) (c' := y_317.2) (st' := [.int y_317.1]) lkX10_proves lVL_60 (kC_proves (xl x) (xD x) (xy x) ta kf_307 sf zQ_307 zS y_307.2 (232 : Int32) y_317 hk_307 hs h_317) rfl ⟨⟨Nat.le_of_ble_eq_true rfl, Nat.le_of_ble_eq_true rfl⟩, ⟨rfl, rfl⟩, ⟨Nat.le_of_ble_eq_true rfl, Nat.le_of_ble_eq_true rfl⟩⟩ rfl rfl (Nat.le_of_ble_eq_true rfl) rfl dL_counts_317 (fun kf_317 zQ_317 hk_317 => ?_)
                                                        refine g_bipush C (pc := 320) dL_counts_320 ck_bipush_m5 ?_
                                                        refine g_icmp_ne C (pc := 322) 426 dL_counts_322 (by decide) (fun c_322 => ?_) (fun c_322 => ?_)
                                                        · replace hf := (k_if hf).2 c_322
                                                          refine g_iconst C (pc := 426) dL_counts_426 ck_iconst_0 ?_
                                                          cases hf
                                                          exact g_wid (Nat.le_of_ble_eq_true rfl) (Nat.le_of_ble_eq_true rfl) (g_zret C E rfl (pc := 427) dL_counts_427 rfl)
                                                        · replace hf := (k_if hf).1 c_322
                                                          refine g_aload_n C (pc := 325) 0 dL_counts_325 rfl rfl ?_
                                                          refine g_sipush C (pc := 326) dL_counts_326 ck_sipush_232 ?_
                                                          obtain ⟨y_329, h_329, hf⟩ := k_bd hf
                                                          refine g_callO C (pc := 329) (As := [.int (232 : Int32)]) (rest := []) (v1 := .long y_329.1) (c' := y_329.2) (st' := [.long y_329.1]) lkX10_core lVL_70 (kC_core (xl x) (xD x) (xy x) ta kf_317 sf zQ_317 zS y_317.2 (232 : Int32) y_329 hk_317 hs h_329) rfl ⟨⟨Nat.le_of_ble_eq_true rfl, Nat.le_of_ble_eq_true rfl⟩, ⟨rfl, rfl⟩, ⟨Nat.le_of_ble_eq_true rfl, Nat.le_of_ble_eq_true rfl⟩⟩ rfl rfl (Nat.le_of_ble_eq_true rfl) rfl dL_counts_329 (fun kf_329 zQ_329 hk_329 => ?_)
                                                          refine g_ldc2 C (pc := 332) lcL_113 dL_counts_332 ?_
                                                          refine g_lcmp C (pc := 335) dL_counts_335 ?_
                                                          refine g_if_ne C (pc := 336) 426 dL_counts_336 (by decide) (fun c_336 => ?_) (fun c_336 => ?_)
                                                          · replace hf := (k_if hf).2 c_336
                                                            refine g_iconst C (pc := 426) dL_counts_426 ck_iconst_0 ?_
                                                            cases hf
                                                            exact g_wid (Nat.le_of_ble_eq_true rfl) (Nat.le_of_ble_eq_true rfl) (g_zret C E rfl (pc := 427) dL_counts_427 rfl)
                                                          · replace hf := (k_if hf).1 c_336
                                                            refine g_aload_n C (pc := 339) 0 dL_counts_339 rfl rfl ?_
                                                            refine g_sipush C (pc := 340) dL_counts_340 ck_sipush_232 ?_
                                                            obtain ⟨y_343, h_343, hf⟩ := k_bd hf
                                                            refine g_callO C (pc := 343) (As := [.int (232 : Int32)]) (rest := []) (v1 := .int y_343.1) (c' := y_343.2) (st' := [.int y_343.1]) lkX10_witness lVL_63 (kC_witness (xl x) (xD x) (xy x) ta kf_329 sf zQ_329 zS y_329.2 (232 : Int32) y_343 hk_329 hs h_343) rfl ⟨⟨Nat.le_of_ble_eq_true rfl, Nat.le_of_ble_eq_true rfl⟩, ⟨rfl, rfl⟩, ⟨Nat.le_of_ble_eq_true rfl, Nat.le_of_ble_eq_true rfl⟩⟩ rfl rfl (Nat.le_of_ble_eq_true rfl) rfl dL_counts_343 (fun kf_343 zQ_343 hk_343 => ?_)
                                                            refine g_bipush C (pc := 346) dL_counts_346 ck_bipush_m6 ?_
                                                            refine g_icmp_ne C (pc := 348) 426 dL_counts_348 (by decide) (fun c_348 => ?_) (fun c_348 => ?_)
                                                            · replace hf := (k_if hf).2 c_348
                                                              refine g_iconst C (pc := 426) dL_counts_426 ck_iconst_0 ?_
                                                              cases hf
                                                              exact g_wid (Nat.le_of_ble_eq_true rfl) (Nat.le_of_ble_eq_true rfl) (g_zret C E rfl (pc := 427) dL_counts_427 rfl)
                                                            · replace hf := (k_if hf).1 c_348
                                                              refine g_aload_n C (pc := 351) 0 dL_counts_351 rfl rfl ?_
                                                              obtain ⟨y_352, h_352, hf⟩ := k_bd hf
                                                              refine g_callO C (pc := 352) (As := []) (rest := []) (v1 := .int y_352.1) (c' := y_352.2) (st' := [.int y_352.1]) lkX10_strike lVL_115 (kC_strike (xl x) (xD x) (xy x) ta kf_343 sf zQ_343 zS y_343.2  y_352 hk_343 hs h_352) rfl ⟨⟨Nat.le_of_ble_eq_true rfl, Nat.le_of_ble_eq_true rfl⟩, ⟨rfl, rfl⟩, ⟨Nat.le_of_ble_eq_true rfl, Nat.le_of_ble_eq_true rfl⟩⟩ rfl rfl (Nat.le_of_ble_eq_true rfl) rfl dL_counts_352 (fun kf_352 zQ_352 hk_352 => ?_)
                                                              refine g_iconst C (pc := 355) dL_counts_355 ck_iconst_1 ?_
                                                              refine g_icmp_ne C (pc := 356) 426 dL_counts_356 (by decide) (fun c_356 => ?_) (fun c_356 => ?_)
                                                              · replace hf := (k_if hf).2 c_356
                                                                refine g_iconst C (pc := 426) dL_counts_426 ck_iconst_0 ?_
                                                                cases hf
                                                                exact g_wid (Nat.le_of_ble_eq_true rfl) (Nat.le_of_ble_eq_true rfl) (g_zret C E rfl (pc := 427) dL_counts_427 rfl)
                                                              · replace hf := (k_if hf).1 c_356
                                                                refine g_aload_n C (pc := 359) 0 dL_counts_359 rfl rfl ?_
                                                                refine g_iconst C (pc := 360) dL_counts_360 ck_iconst_0 ?_
                                                                refine g_iconst C (pc := 361) dL_counts_361 ck_iconst_3 ?_
                                                                refine g_sipush C (pc := 362) dL_counts_362 ck_sipush_384 ?_
                                                                refine g_iconst C (pc := 365) dL_counts_365 ck_iconst_0 ?_
                                                                refine g_iconst C (pc := 366) dL_counts_366 ck_iconst_1 ?_
                                                                obtain ⟨y_367, h_367, hf⟩ := k_bd hf
                                                                refine g_callOS C (pc := 367) (As := [.ref ta.1, .int (0 : Int32), .int (3 : Int32), .int (384 : Int32), .int (0 : Int32), .int (1 : Int32)]) (rest := []) (v1 := .int y_367.1) (c' := y_367.2) (st' := [.int y_367.1]) lkL_isCandidate lSL_109 (cL_isCandidate_k (xl x) (xD x) (xy x) ta kf_352 sf zQ_352 zS y_352.2 (0 : Int32) (3 : Int32) (384 : Int32) (0 : Int32) (1 : Int32) y_367 hk_352 hs h_367) rfl ⟨⟨Nat.le_of_ble_eq_true rfl, Nat.le_of_ble_eq_true rfl⟩, ⟨rfl, rfl⟩, ⟨Nat.le_of_ble_eq_true rfl, Nat.le_of_ble_eq_true rfl⟩⟩ rfl (Nat.le_of_ble_eq_true rfl) rfl dL_counts_367 (fun kf_367 zQ_367 hk_367 => ?_)
                                                                refine g_if_eq C (pc := 370) 426 dL_counts_370 (by decide) (fun c_370 => ?_) (fun c_370 => ?_)
                                                                · replace hf := (k_if hf).1 c_370
                                                                  refine g_iconst C (pc := 426) dL_counts_426 ck_iconst_0 ?_
                                                                  cases hf
                                                                  exact g_wid (Nat.le_of_ble_eq_true rfl) (Nat.le_of_ble_eq_true rfl) (g_zret C E rfl (pc := 427) dL_counts_427 rfl)
                                                                · replace hf := (k_if hf).2 c_370
                                                                  refine g_aload_n C (pc := 373) 0 dL_counts_373 rfl rfl ?_
                                                                  refine g_iconst C (pc := 374) dL_counts_374 ck_iconst_5 ?_
                                                                  obtain ⟨y_375, h_375, hf⟩ := k_bd hf
                                                                  refine g_callO C (pc := 375) (As := [.int (5 : Int32)]) (rest := []) (v1 := .int y_375.1) (c' := y_375.2) (st' := [.int y_375.1]) lkX10_count lVL_13 (kC_count (xl x) (xD x) (xy x) ta kf_367 sf zQ_367 zS y_367.2 (5 : Int32) y_375 hk_367 hs h_375) rfl ⟨⟨Nat.le_of_ble_eq_true rfl, Nat.le_of_ble_eq_true rfl⟩, ⟨rfl, rfl⟩, ⟨Nat.le_of_ble_eq_true rfl, Nat.le_of_ble_eq_true rfl⟩⟩ rfl rfl (Nat.le_of_ble_eq_true rfl) rfl dL_counts_375 (fun kf_375 zQ_375 hk_375 => ?_)
                                                                  refine g_iconst C (pc := 378) dL_counts_378 ck_iconst_1 ?_
                                                                  refine g_icmp_ne C (pc := 379) 426 dL_counts_379 (by decide) (fun c_379 => ?_) (fun c_379 => ?_)
                                                                  · replace hf := (k_if hf).2 c_379
                                                                    refine g_iconst C (pc := 426) dL_counts_426 ck_iconst_0 ?_
                                                                    cases hf
                                                                    exact g_wid (Nat.le_of_ble_eq_true rfl) (Nat.le_of_ble_eq_true rfl) (g_zret C E rfl (pc := 427) dL_counts_427 rfl)
                                                                  · replace hf := (k_if hf).1 c_379
                                                                    refine g_aload_n C (pc := 382) 0 dL_counts_382 rfl rfl ?_
                                                                    obtain ⟨y_383, h_383, hf⟩ := k_bd hf
                                                                    refine g_callO C (pc := 383) (As := []) (rest := []) (v1 := .int y_383.1) (c' := y_383.2) (st' := [.int y_383.1]) lkX10_strike lVL_115 (kC_strike (xl x) (xD x) (xy x) ta kf_375 sf zQ_375 zS y_375.2  y_383 hk_375 hs h_383) rfl ⟨⟨Nat.le_of_ble_eq_true rfl, Nat.le_of_ble_eq_true rfl⟩, ⟨rfl, rfl⟩, ⟨Nat.le_of_ble_eq_true rfl, Nat.le_of_ble_eq_true rfl⟩⟩ rfl rfl (Nat.le_of_ble_eq_true rfl) rfl dL_counts_383 (fun kf_383 zQ_383 hk_383 => ?_)
                                                                    refine g_if_ne C (pc := 386) 426 dL_counts_386 (by decide) (fun c_386 => ?_) (fun c_386 => ?_)
                                                                    · replace hf := (k_if hf).2 c_386
                                                                      refine g_iconst C (pc := 426) dL_counts_426 ck_iconst_0 ?_
                                                                      cases hf
                                                                      exact g_wid (Nat.le_of_ble_eq_true rfl) (Nat.le_of_ble_eq_true rfl) (g_zret C E rfl (pc := 427) dL_counts_427 rfl)
                                                                    · replace hf := (k_if hf).1 c_386
                                                                      refine g_aload_n C (pc := 389) 0 dL_counts_389 rfl rfl ?_
                                                                      refine g_iconst C (pc := 390) dL_counts_390 ck_iconst_5 ?_
                                                                      obtain ⟨y_391, h_391, hf⟩ := k_bd hf
                                                                      refine g_callO C (pc := 391) (As := [.int (5 : Int32)]) (rest := []) (v1 := .int y_391.1) (c' := y_391.2) (st' := [.int y_391.1]) lkX10_count lVL_13 (kC_count (xl x) (xD x) (xy x) ta kf_383 sf zQ_383 zS y_383.2 (5 : Int32) y_391 hk_383 hs h_391) rfl ⟨⟨Nat.le_of_ble_eq_true rfl, Nat.le_of_ble_eq_true rfl⟩, ⟨rfl, rfl⟩, ⟨Nat.le_of_ble_eq_true rfl, Nat.le_of_ble_eq_true rfl⟩⟩ rfl rfl (Nat.le_of_ble_eq_true rfl) rfl dL_counts_391 (fun kf_391 zQ_391 hk_391 => ?_)
                                                                      refine g_iconst C (pc := 394) dL_counts_394 ck_iconst_1 ?_
                                                                      refine g_icmp_ne C (pc := 395) 426 dL_counts_395 (by decide) (fun c_395 => ?_) (fun c_395 => ?_)
                                                                      · replace hf := (k_if hf).2 c_395
                                                                        refine g_iconst C (pc := 426) dL_counts_426 ck_iconst_0 ?_
                                                                        cases hf
                                                                        exact g_wid (Nat.le_of_ble_eq_true rfl) (Nat.le_of_ble_eq_true rfl) (g_zret C E rfl (pc := 427) dL_counts_427 rfl)
                                                                      · replace hf := (k_if hf).1 c_395
                                                                        refine g_aload_n C (pc := 398) 0 dL_counts_398 rfl rfl ?_
                                                                        obtain ⟨y_399, h_399, hf⟩ := k_bd hf
                                                                        refine g_callO C (pc := 399) (As := []) (rest := []) (v1 := .int y_399.1) (c' := y_399.2) (st' := [.int y_399.1]) lkX10_settle lVL_118 (kC_settle (xl x) (xD x) (xy x) ta kf_391 sf zQ_391 zS y_391.2  y_399 hk_391 hs h_399) rfl ⟨⟨Nat.le_of_ble_eq_true rfl, Nat.le_of_ble_eq_true rfl⟩, ⟨rfl, rfl⟩, ⟨Nat.le_of_ble_eq_true rfl, Nat.le_of_ble_eq_true rfl⟩⟩ rfl rfl (Nat.le_of_ble_eq_true rfl) rfl dL_counts_399 (fun kf_399 zQ_399 hk_399 => ?_)
                                                                        refine g_if_ne C (pc := 402) 426 dL_counts_402 (by decide) (fun c_402 => ?_) (fun c_402 => ?_)
                                                                        · replace hf := (k_if hf).2 c_402
                                                                          refine g_iconst C (pc := 426) dL_counts_426 ck_iconst_0 ?_
                                                                          cases hf
                                                                          exact g_wid (Nat.le_of_ble_eq_true rfl) (Nat.le_of_ble_eq_true rfl) (g_zret C E rfl (pc := 427) dL_counts_427 rfl)
                                                                        · replace hf := (k_if hf).1 c_402
                                                                          refine g_aload_n C (pc := 405) 0 dL_counts_405 rfl rfl ?_
                                                                          refine g_bipush C (pc := 406) dL_counts_406 ck_bipush_10 ?_
                                                                          obtain ⟨y_408, h_408, hf⟩ := k_bd hf
                                                                          refine g_callO C (pc := 408) (As := [.int (10 : Int32)]) (rest := []) (v1 := .int y_408.1) (c' := y_408.2) (st' := [.int y_408.1]) lkX10_count lVL_13 (kC_count (xl x) (xD x) (xy x) ta kf_399 sf zQ_399 zS y_399.2 (10 : Int32) y_408 hk_399 hs h_408) rfl ⟨⟨Nat.le_of_ble_eq_true rfl, Nat.le_of_ble_eq_true rfl⟩, ⟨rfl, rfl⟩, ⟨Nat.le_of_ble_eq_true rfl, Nat.le_of_ble_eq_true rfl⟩⟩ rfl rfl (Nat.le_of_ble_eq_true rfl) rfl dL_counts_408 (fun kf_408 zQ_408 hk_408 => ?_)
                                                                          refine g_iconst C (pc := 411) dL_counts_411 ck_iconst_1 ?_
                                                                          refine g_icmp_ne C (pc := 412) 426 dL_counts_412 (by decide) (fun c_412 => ?_) (fun c_412 => ?_)
                                                                          · replace hf := (k_if hf).2 c_412
                                                                            refine g_iconst C (pc := 426) dL_counts_426 ck_iconst_0 ?_
                                                                            cases hf
                                                                            exact g_wid (Nat.le_of_ble_eq_true rfl) (Nat.le_of_ble_eq_true rfl) (g_zret C E rfl (pc := 427) dL_counts_427 rfl)
                                                                          · replace hf := (k_if hf).1 c_412
                                                                            refine g_aload_n C (pc := 415) 0 dL_counts_415 rfl rfl ?_
                                                                            refine g_bipush C (pc := 416) dL_counts_416 ck_bipush_8 ?_
                                                                            obtain ⟨y_418, h_418, hf⟩ := k_bd hf
                                                                            refine g_callO C (pc := 418) (As := [.int (8 : Int32)]) (rest := []) (v1 := .int y_418.1) (c' := y_418.2) (st' := [.int y_418.1]) lkX10_count lVL_13 (kC_count (xl x) (xD x) (xy x) ta kf_408 sf zQ_408 zS y_408.2 (8 : Int32) y_418 hk_408 hs h_418) rfl ⟨⟨Nat.le_of_ble_eq_true rfl, Nat.le_of_ble_eq_true rfl⟩, ⟨rfl, rfl⟩, ⟨Nat.le_of_ble_eq_true rfl, Nat.le_of_ble_eq_true rfl⟩⟩ rfl rfl (Nat.le_of_ble_eq_true rfl) rfl dL_counts_418 (fun kf_418 zQ_418 hk_418 => ?_)
                                                                            refine g_bipush C (pc := 421) dL_counts_421 ck_bipush_64 ?_
                                                                            refine g_icmp_eq C (pc := 423) 428 dL_counts_423 (by decide) (fun c_423 => ?_) (fun c_423 => ?_)
                                                                            · replace hf := (k_if hf).1 c_423
                                                                              refine g_aload_n C (pc := 428) 0 dL_counts_428 rfl rfl ?_
                                                                              refine g_iconst C (pc := 429) dL_counts_429 ck_iconst_1 ?_
                                                                              refine g_iconst C (pc := 430) dL_counts_430 ck_iconst_1 ?_
                                                                              refine g_iconst C (pc := 431) dL_counts_431 ck_iconst_0 ?_
                                                                              refine g_iconst C (pc := 432) dL_counts_432 ck_iconst_0 ?_
                                                                              obtain ⟨y_433, h_433, hf⟩ := k_bd hf
                                                                              refine g_callO C (pc := 433) (As := [.int (1 : Int32), .int (1 : Int32), .int (0 : Int32), .int (0 : Int32)]) (rest := []) (v1 := .int y_433.1) (c' := y_433.2) (st' := [.int y_433.1]) lkX10_claim lVL_101 (kC_claim (xl x) (xD x) (xy x) ta kf_418 sf zQ_418 zS y_418.2 (1 : Int32) (1 : Int32) (0 : Int32) (0 : Int32) y_433 hk_418 hs h_433) rfl ⟨⟨Nat.le_of_ble_eq_true rfl, Nat.le_of_ble_eq_true rfl⟩, ⟨rfl, rfl⟩, ⟨Nat.le_of_ble_eq_true rfl, Nat.le_of_ble_eq_true rfl⟩⟩ rfl rfl (Nat.le_of_ble_eq_true rfl) rfl dL_counts_433 (fun kf_433 zQ_433 hk_433 => ?_)
                                                                              refine g_istore_n C (pc := 436) (lo' := [(1, .int y_433.1), (0, .ref ta.1)]) dL_counts_436 rfl N rfl rfl ?_
                                                                              refine g_aload_n C (pc := 437) 1 dL_counts_437 rfl rfl ?_
                                                                              refine g_sipush C (pc := 438) dL_counts_438 ck_sipush_232 ?_
                                                                              obtain ⟨y_441, h_441, hf⟩ := k_bd hf
                                                                              refine g_callO C (pc := 441) (As := [.int (232 : Int32)]) (rest := []) (v1 := .int y_441.1) (c' := y_441.2) (st' := [.int y_441.1]) lkX10_proves lVL_60 (kC_proves (xl x) (xD x) (xy x) ta kf_433 sf zQ_433 zS y_433.2 (232 : Int32) y_441 hk_433 hs h_441) rfl ⟨⟨Nat.le_of_ble_eq_true rfl, Nat.le_of_ble_eq_true rfl⟩, ⟨rfl, rfl⟩, ⟨Nat.le_of_ble_eq_true rfl, Nat.le_of_ble_eq_true rfl⟩⟩ rfl rfl (Nat.le_of_ble_eq_true rfl) rfl dL_counts_441 (fun kf_441 zQ_441 hk_441 => ?_)
                                                                              refine g_iconst C (pc := 444) dL_counts_444 ck_iconst_1 ?_
                                                                              refine g_icmp_ne C (pc := 445) 601 dL_counts_445 (by decide) (fun c_445 => ?_) (fun c_445 => ?_)
                                                                              · replace hf := (k_if hf).2 c_445
                                                                                refine g_iconst C (pc := 601) dL_counts_601 ck_iconst_0 ?_
                                                                                cases hf
                                                                                exact g_wid (Nat.le_of_ble_eq_true rfl) (Nat.le_of_ble_eq_true rfl) (g_zret C E rfl (pc := 602) dL_counts_602 rfl)
                                                                              · replace hf := (k_if hf).1 c_445
                                                                                refine g_aload_n C (pc := 448) 1 dL_counts_448 rfl rfl ?_
                                                                                refine g_sipush C (pc := 449) dL_counts_449 ck_sipush_418 ?_
                                                                                obtain ⟨y_452, h_452, hf⟩ := k_bd hf
                                                                                refine g_callO C (pc := 452) (As := [.int (418 : Int32)]) (rest := []) (v1 := .int y_452.1) (c' := y_452.2) (st' := [.int y_452.1]) lkX10_witness lVL_63 (kC_witness (xl x) (xD x) (xy x) ta kf_441 sf zQ_441 zS y_441.2 (418 : Int32) y_452 hk_441 hs h_452) rfl ⟨⟨Nat.le_of_ble_eq_true rfl, Nat.le_of_ble_eq_true rfl⟩, ⟨rfl, rfl⟩, ⟨Nat.le_of_ble_eq_true rfl, Nat.le_of_ble_eq_true rfl⟩⟩ rfl rfl (Nat.le_of_ble_eq_true rfl) rfl dL_counts_452 (fun kf_452 zQ_452 hk_452 => ?_)
                                                                                refine g_sipush C (pc := 455) dL_counts_455 ck_sipush_448 ?_
                                                                                refine g_icmp_ne C (pc := 458) 601 dL_counts_458 (by decide) (fun c_458 => ?_) (fun c_458 => ?_)
                                                                                · replace hf := (k_if hf).2 c_458
                                                                                  refine g_iconst C (pc := 601) dL_counts_601 ck_iconst_0 ?_
                                                                                  cases hf
                                                                                  exact g_wid (Nat.le_of_ble_eq_true rfl) (Nat.le_of_ble_eq_true rfl) (g_zret C E rfl (pc := 602) dL_counts_602 rfl)
                                                                                · replace hf := (k_if hf).1 c_458
                                                                                  refine g_aload_n C (pc := 461) 1 dL_counts_461 rfl rfl ?_
                                                                                  refine g_iload_n C (pc := 462) 0 dL_counts_462 rfl rfl ?_
                                                                                  obtain ⟨y_463, h_463, hf⟩ := k_bd hf
                                                                                  refine g_callO C (pc := 463) (As := [.int y_433.1]) (rest := []) (v1 := .int y_463.1) (c' := y_463.2) (st' := [.int y_463.1]) lkX10_isTrue lVL_66 (kC_isTrue (xl x) (xD x) (xy x) ta kf_452 sf zQ_452 zS y_452.2 y_433.1 y_463 hk_452 hs h_463) rfl ⟨⟨Nat.le_of_ble_eq_true rfl, Nat.le_of_ble_eq_true rfl⟩, ⟨rfl, rfl⟩, ⟨Nat.le_of_ble_eq_true rfl, Nat.le_of_ble_eq_true rfl⟩⟩ rfl rfl (Nat.le_of_ble_eq_true rfl) rfl dL_counts_463 (fun kf_463 zQ_463 hk_463 => ?_)
                                                                                  refine g_iconst C (pc := 466) dL_counts_466 ck_iconst_1 ?_
                                                                                  refine g_icmp_ne C (pc := 467) 601 dL_counts_467 (by decide) (fun c_467 => ?_) (fun c_467 => ?_)
                                                                                  · replace hf := (k_if hf).2 c_467
                                                                                    refine g_iconst C (pc := 601) dL_counts_601 ck_iconst_0 ?_
                                                                                    cases hf
                                                                                    exact g_wid (Nat.le_of_ble_eq_true rfl) (Nat.le_of_ble_eq_true rfl) (g_zret C E rfl (pc := 602) dL_counts_602 rfl)
                                                                                  · replace hf := (k_if hf).1 c_467
                                                                                    refine g_aload_n C (pc := 470) 1 dL_counts_470 rfl rfl ?_
                                                                                    refine g_iload_n C (pc := 471) 0 dL_counts_471 rfl rfl ?_
                                                                                    obtain ⟨y_472, h_472, hf⟩ := k_bd hf
                                                                                    refine g_callO C (pc := 472) (As := [.int y_433.1]) (rest := []) (v1 := .int y_472.1) (c' := y_472.2) (st' := [.int y_472.1]) lkX10_proves lVL_60 (kC_proves (xl x) (xD x) (xy x) ta kf_463 sf zQ_463 zS y_463.2 y_433.1 y_472 hk_463 hs h_472) rfl ⟨⟨Nat.le_of_ble_eq_true rfl, Nat.le_of_ble_eq_true rfl⟩, ⟨rfl, rfl⟩, ⟨Nat.le_of_ble_eq_true rfl, Nat.le_of_ble_eq_true rfl⟩⟩ rfl rfl (Nat.le_of_ble_eq_true rfl) rfl dL_counts_472 (fun kf_472 zQ_472 hk_472 => ?_)
                                                                                    refine g_if_ne C (pc := 475) 601 dL_counts_475 (by decide) (fun c_475 => ?_) (fun c_475 => ?_)
                                                                                    · replace hf := (k_if hf).2 c_475
                                                                                      refine g_iconst C (pc := 601) dL_counts_601 ck_iconst_0 ?_
                                                                                      cases hf
                                                                                      exact g_wid (Nat.le_of_ble_eq_true rfl) (Nat.le_of_ble_eq_true rfl) (g_zret C E rfl (pc := 602) dL_counts_602 rfl)
                                                                                    · replace hf := (k_if hf).1 c_475
                                                                                      refine g_aload_n C (pc := 478) 1 dL_counts_478 rfl rfl ?_
                                                                                      refine g_iload_n C (pc := 479) 0 dL_counts_479 rfl rfl ?_
                                                                                      obtain ⟨y_480, h_480, hf⟩ := k_bd hf
                                                                                      refine g_callO C (pc := 480) (As := [.int y_433.1]) (rest := []) (v1 := .int y_480.1) (c' := y_480.2) (st' := [.int y_480.1]) lkX10_witness lVL_63 (kC_witness (xl x) (xD x) (xy x) ta kf_472 sf zQ_472 zS y_472.2 y_433.1 y_480 hk_472 hs h_480) rfl ⟨⟨Nat.le_of_ble_eq_true rfl, Nat.le_of_ble_eq_true rfl⟩, ⟨rfl, rfl⟩, ⟨Nat.le_of_ble_eq_true rfl, Nat.le_of_ble_eq_true rfl⟩⟩ rfl rfl (Nat.le_of_ble_eq_true rfl) rfl dL_counts_480 (fun kf_480 zQ_480 hk_480 => ?_)
                                                                                      refine g_bipush C (pc := 483) dL_counts_483 ck_bipush_8 ?_
                                                                                      refine g_icmp_ne C (pc := 485) 601 dL_counts_485 (by decide) (fun c_485 => ?_) (fun c_485 => ?_)
                                                                                      · replace hf := (k_if hf).2 c_485
                                                                                        refine g_iconst C (pc := 601) dL_counts_601 ck_iconst_0 ?_
                                                                                        cases hf
                                                                                        exact g_wid (Nat.le_of_ble_eq_true rfl) (Nat.le_of_ble_eq_true rfl) (g_zret C E rfl (pc := 602) dL_counts_602 rfl)
                                                                                      · replace hf := (k_if hf).1 c_485
                                                                                        refine g_aload_n C (pc := 488) 1 dL_counts_488 rfl rfl ?_
                                                                                        refine g_iload_n C (pc := 489) 0 dL_counts_489 rfl rfl ?_
                                                                                        obtain ⟨y_490, h_490, hf⟩ := k_bd hf
                                                                                        refine g_callO C (pc := 490) (As := [.int y_433.1]) (rest := []) (v1 := .long y_490.1) (c' := y_490.2) (st' := [.long y_490.1]) lkX10_core lVL_70 (kC_core (xl x) (xD x) (xy x) ta kf_480 sf zQ_480 zS y_480.2 y_433.1 y_490 hk_480 hs h_490) rfl ⟨⟨Nat.le_of_ble_eq_true rfl, Nat.le_of_ble_eq_true rfl⟩, ⟨rfl, rfl⟩, ⟨Nat.le_of_ble_eq_true rfl, Nat.le_of_ble_eq_true rfl⟩⟩ rfl rfl (Nat.le_of_ble_eq_true rfl) rfl dL_counts_490 (fun kf_490 zQ_490 hk_490 => ?_)
                                                                                        refine g_ldc2 C (pc := 493) lcL_121 dL_counts_493 ?_
                                                                                        refine g_lcmp C (pc := 496) dL_counts_496 ?_
                                                                                        refine g_if_ne C (pc := 497) 601 dL_counts_497 (by decide) (fun c_497 => ?_) (fun c_497 => ?_)
                                                                                        · replace hf := (k_if hf).2 c_497
                                                                                          refine g_iconst C (pc := 601) dL_counts_601 ck_iconst_0 ?_
                                                                                          cases hf
                                                                                          exact g_wid (Nat.le_of_ble_eq_true rfl) (Nat.le_of_ble_eq_true rfl) (g_zret C E rfl (pc := 602) dL_counts_602 rfl)
                                                                                        · replace hf := (k_if hf).1 c_497
                                                                                          refine g_aload_n C (pc := 500) 1 dL_counts_500 rfl rfl ?_
                                                                                          refine g_sipush C (pc := 501) dL_counts_501 ck_sipush_232 ?_
                                                                                          obtain ⟨y_504, h_504, hf⟩ := k_bd hf
                                                                                          refine g_callO C (pc := 504) (As := [.int (232 : Int32)]) (rest := []) (v1 := .long y_504.1) (c' := y_504.2) (st' := [.long y_504.1]) lkX10_core lVL_70 (kC_core (xl x) (xD x) (xy x) ta kf_490 sf zQ_490 zS y_490.2 (232 : Int32) y_504 hk_490 hs h_504) rfl ⟨⟨Nat.le_of_ble_eq_true rfl, Nat.le_of_ble_eq_true rfl⟩, ⟨rfl, rfl⟩, ⟨Nat.le_of_ble_eq_true rfl, Nat.le_of_ble_eq_true rfl⟩⟩ rfl rfl (Nat.le_of_ble_eq_true rfl) rfl dL_counts_504 (fun kf_504 zQ_504 hk_504 => ?_)
                                                                                          refine g_ldc2 C (pc := 507) lcL_123 dL_counts_507 ?_
                                                                                          refine g_lcmp C (pc := 510) dL_counts_510 ?_
                                                                                          refine g_if_ne C (pc := 511) 601 dL_counts_511 (by decide) (fun c_511 => ?_) (fun c_511 => ?_)
                                                                                          · replace hf := (k_if hf).2 c_511
                                                                                            refine g_iconst C (pc := 601) dL_counts_601 ck_iconst_0 ?_
                                                                                            cases hf
                                                                                            exact g_wid (Nat.le_of_ble_eq_true rfl) (Nat.le_of_ble_eq_true rfl) (g_zret C E rfl (pc := 602) dL_counts_602 rfl)
                                                                                          · replace hf := (k_if hf).1 c_511
                                                                                            refine g_aload_n C (pc := 514) 1 dL_counts_514 rfl rfl ?_
                                                                                            obtain ⟨y_515, h_515, hf⟩ := k_bd hf
                                                                                            refine g_callO C (pc := 515) (As := []) (rest := []) (v1 := .long y_515.1) (c' := y_515.2) (st' := [.long y_515.1]) lkX10_needless lVL_125 (kC_needless (xl x) (xD x) (xy x) ta kf_504 sf zQ_504 zS y_504.2  y_515 hk_504 hs h_515) rfl ⟨⟨Nat.le_of_ble_eq_true rfl, Nat.le_of_ble_eq_true rfl⟩, ⟨rfl, rfl⟩, ⟨Nat.le_of_ble_eq_true rfl, Nat.le_of_ble_eq_true rfl⟩⟩ rfl rfl (Nat.le_of_ble_eq_true rfl) rfl dL_counts_515 (fun kf_515 zQ_515 hk_515 => ?_)
                                                                                            refine g_lconst C (pc := 518) (v := 0) dL_counts_518 rfl ?_
                                                                                            refine g_lcmp C (pc := 519) dL_counts_519 ?_
                                                                                            refine g_if_ne C (pc := 520) 601 dL_counts_520 (by decide) (fun c_520 => ?_) (fun c_520 => ?_)
                                                                                            · replace hf := (k_if hf).2 c_520
                                                                                              refine g_iconst C (pc := 601) dL_counts_601 ck_iconst_0 ?_
                                                                                              cases hf
                                                                                              exact g_wid (Nat.le_of_ble_eq_true rfl) (Nat.le_of_ble_eq_true rfl) (g_zret C E rfl (pc := 602) dL_counts_602 rfl)
                                                                                            · replace hf := (k_if hf).1 c_520
                                                                                              refine g_aload_n C (pc := 523) 1 dL_counts_523 rfl rfl ?_
                                                                                              refine g_bipush C (pc := 524) dL_counts_524 ck_bipush_7 ?_
                                                                                              obtain ⟨y_526, h_526, hf⟩ := k_bd hf
                                                                                              refine g_callO C (pc := 526) (As := [.int (7 : Int32)]) (rest := []) (v1 := .int y_526.1) (c' := y_526.2) (st' := [.int y_526.1]) lkX10_candidate lVL_42 (kC_candidate (xl x) (xD x) (xy x) ta kf_515 sf zQ_515 zS y_515.2 (7 : Int32) y_526 hk_515 hs h_526) rfl ⟨⟨Nat.le_of_ble_eq_true rfl, Nat.le_of_ble_eq_true rfl⟩, ⟨rfl, rfl⟩, ⟨Nat.le_of_ble_eq_true rfl, Nat.le_of_ble_eq_true rfl⟩⟩ rfl rfl (Nat.le_of_ble_eq_true rfl) rfl dL_counts_526 (fun kf_526 zQ_526 hk_526 => ?_)
                                                                                              refine g_iconst C (pc := 529) dL_counts_529 ck_iconst_4 ?_
                                                                                              refine g_icmp_ne C (pc := 530) 601 dL_counts_530 (by decide) (fun c_530 => ?_) (fun c_530 => ?_)
                                                                                              · replace hf := (k_if hf).2 c_530
                                                                                                refine g_iconst C (pc := 601) dL_counts_601 ck_iconst_0 ?_
                                                                                                cases hf
                                                                                                exact g_wid (Nat.le_of_ble_eq_true rfl) (Nat.le_of_ble_eq_true rfl) (g_zret C E rfl (pc := 602) dL_counts_602 rfl)
                                                                                              · replace hf := (k_if hf).1 c_530
                                                                                                refine g_aload_n C (pc := 533) 1 dL_counts_533 rfl rfl ?_
                                                                                                obtain ⟨y_534, h_534, hf⟩ := k_bd hf
                                                                                                refine g_callO C (pc := 534) (As := []) (rest := []) (v1 := .long y_534.1) (c' := y_534.2) (st' := [.long y_534.1]) lkX10_needless lVL_125 (kC_needless (xl x) (xD x) (xy x) ta kf_526 sf zQ_526 zS y_526.2  y_534 hk_526 hs h_534) rfl ⟨⟨Nat.le_of_ble_eq_true rfl, Nat.le_of_ble_eq_true rfl⟩, ⟨rfl, rfl⟩, ⟨Nat.le_of_ble_eq_true rfl, Nat.le_of_ble_eq_true rfl⟩⟩ rfl rfl (Nat.le_of_ble_eq_true rfl) rfl dL_counts_534 (fun kf_534 zQ_534 hk_534 => ?_)
                                                                                                refine g_ldc2 C (pc := 537) lcL_129 dL_counts_537 ?_
                                                                                                refine g_lcmp C (pc := 540) dL_counts_540 ?_
                                                                                                refine g_if_ne C (pc := 541) 601 dL_counts_541 (by decide) (fun c_541 => ?_) (fun c_541 => ?_)
                                                                                                · replace hf := (k_if hf).2 c_541
                                                                                                  refine g_iconst C (pc := 601) dL_counts_601 ck_iconst_0 ?_
                                                                                                  cases hf
                                                                                                  exact g_wid (Nat.le_of_ble_eq_true rfl) (Nat.le_of_ble_eq_true rfl) (g_zret C E rfl (pc := 602) dL_counts_602 rfl)
                                                                                                · replace hf := (k_if hf).1 c_541
                                                                                                  refine g_aload_n C (pc := 544) 1 dL_counts_544 rfl rfl ?_
                                                                                                  refine g_sipush C (pc := 545) dL_counts_545 ck_sipush_232 ?_
                                                                                                  obtain ⟨y_548, h_548, hf⟩ := k_bd hf
                                                                                                  refine g_callO C (pc := 548) (As := [.int (232 : Int32)]) (rest := []) (v1 := .long y_548.1) (c' := y_548.2) (st' := [.long y_548.1]) lkX10_core lVL_70 (kC_core (xl x) (xD x) (xy x) ta kf_534 sf zQ_534 zS y_534.2 (232 : Int32) y_548 hk_534 hs h_548) rfl ⟨⟨Nat.le_of_ble_eq_true rfl, Nat.le_of_ble_eq_true rfl⟩, ⟨rfl, rfl⟩, ⟨Nat.le_of_ble_eq_true rfl, Nat.le_of_ble_eq_true rfl⟩⟩ rfl rfl (Nat.le_of_ble_eq_true rfl) rfl dL_counts_548 (fun kf_548 zQ_548 hk_548 => ?_)
                                                                                                  refine g_ldc2 C (pc := 551) lcL_123 dL_counts_551 ?_
                                                                                                  refine g_lcmp C (pc := 554) dL_counts_554 ?_
                                                                                                  refine g_if_ne C (pc := 555) 601 dL_counts_555 (by decide) (fun c_555 => ?_) (fun c_555 => ?_)
                                                                                                  · replace hf := (k_if hf).2 c_555
                                                                                                    refine g_iconst C (pc := 601) dL_counts_601 ck_iconst_0 ?_
                                                                                                    cases hf
                                                                                                    exact g_wid (Nat.le_of_ble_eq_true rfl) (Nat.le_of_ble_eq_true rfl) (g_zret C E rfl (pc := 602) dL_counts_602 rfl)
                                                                                                  · replace hf := (k_if hf).1 c_555
                                                                                                    refine g_aload_n C (pc := 558) 1 dL_counts_558 rfl rfl ?_
                                                                                                    refine g_iconst C (pc := 559) dL_counts_559 ck_iconst_0 ?_
                                                                                                    refine g_bipush C (pc := 560) dL_counts_560 ck_bipush_6 ?_
                                                                                                    obtain ⟨y_562, h_562, hf⟩ := k_bd hf
                                                                                                    refine g_callO C (pc := 562) (As := [.int (0 : Int32), .int (6 : Int32)]) (rest := []) (v1 := .int y_562.1) (c' := y_562.2) (st' := [.int y_562.1]) lkX10_ofStep lVL_19 (kC_ofStep (xl x) (xD x) (xy x) ta kf_548 sf zQ_548 zS y_548.2 (0 : Int32) (6 : Int32) y_562 hk_548 hs h_562) rfl ⟨⟨Nat.le_of_ble_eq_true rfl, Nat.le_of_ble_eq_true rfl⟩, ⟨rfl, rfl⟩, ⟨Nat.le_of_ble_eq_true rfl, Nat.le_of_ble_eq_true rfl⟩⟩ rfl rfl (Nat.le_of_ble_eq_true rfl) rfl dL_counts_562 (fun kf_562 zQ_562 hk_562 => ?_)
                                                                                                    refine g_bipush C (pc := 565) dL_counts_565 ck_bipush_56 ?_
                                                                                                    refine g_icmp_ne C (pc := 567) 601 dL_counts_567 (by decide) (fun c_567 => ?_) (fun c_567 => ?_)
                                                                                                    · replace hf := (k_if hf).2 c_567
                                                                                                      refine g_iconst C (pc := 601) dL_counts_601 ck_iconst_0 ?_
                                                                                                      cases hf
                                                                                                      exact g_wid (Nat.le_of_ble_eq_true rfl) (Nat.le_of_ble_eq_true rfl) (g_zret C E rfl (pc := 602) dL_counts_602 rfl)
                                                                                                    · replace hf := (k_if hf).1 c_567
                                                                                                      refine g_aload_n C (pc := 570) 1 dL_counts_570 rfl rfl ?_
                                                                                                      refine g_bipush C (pc := 571) dL_counts_571 ck_bipush_64 ?_
                                                                                                      obtain ⟨y_573, h_573, hf⟩ := k_bd hf
                                                                                                      refine g_callO C (pc := 573) (As := [.int (64 : Int32)]) (rest := []) (v1 := .int y_573.1) (c' := y_573.2) (st' := [.int y_573.1]) lkX10_ofState lVL_57 (kC_ofState (xl x) (xD x) (xy x) ta kf_562 sf zQ_562 zS y_562.2 (64 : Int32) y_573 hk_562 hs h_573) rfl ⟨⟨Nat.le_of_ble_eq_true rfl, Nat.le_of_ble_eq_true rfl⟩, ⟨rfl, rfl⟩, ⟨Nat.le_of_ble_eq_true rfl, Nat.le_of_ble_eq_true rfl⟩⟩ rfl rfl (Nat.le_of_ble_eq_true rfl) rfl dL_counts_573 (fun kf_573 zQ_573 hk_573 => ?_)
                                                                                                      refine g_bipush C (pc := 576) dL_counts_576 ck_bipush_7 ?_
                                                                                                      refine g_icmp_ne C (pc := 578) 601 dL_counts_578 (by decide) (fun c_578 => ?_) (fun c_578 => ?_)
                                                                                                      · replace hf := (k_if hf).2 c_578
                                                                                                        refine g_iconst C (pc := 601) dL_counts_601 ck_iconst_0 ?_
                                                                                                        cases hf
                                                                                                        exact g_wid (Nat.le_of_ble_eq_true rfl) (Nat.le_of_ble_eq_true rfl) (g_zret C E rfl (pc := 602) dL_counts_602 rfl)
                                                                                                      · replace hf := (k_if hf).1 c_578
                                                                                                        refine g_aload_n C (pc := 581) 1 dL_counts_581 rfl rfl ?_
                                                                                                        refine g_sipush C (pc := 582) dL_counts_582 ck_sipush_448 ?_
                                                                                                        obtain ⟨y_585, h_585, hf⟩ := k_bd hf
                                                                                                        refine g_callO C (pc := 585) (As := [.int (448 : Int32)]) (rest := []) (v1 := .int y_585.1) (c' := y_585.2) (st' := [.int y_585.1]) lkX10_ofState lVL_57 (kC_ofState (xl x) (xD x) (xy x) ta kf_573 sf zQ_573 zS y_573.2 (448 : Int32) y_585 hk_573 hs h_585) rfl ⟨⟨Nat.le_of_ble_eq_true rfl, Nat.le_of_ble_eq_true rfl⟩, ⟨rfl, rfl⟩, ⟨Nat.le_of_ble_eq_true rfl, Nat.le_of_ble_eq_true rfl⟩⟩ rfl rfl (Nat.le_of_ble_eq_true rfl) rfl dL_counts_585 (fun kf_585 zQ_585 hk_585 => ?_)
                                                                                                        refine g_bipush C (pc := 588) dL_counts_588 ck_bipush_6 ?_
                                                                                                        refine g_icmp_ne C (pc := 590) 601 dL_counts_590 (by decide) (fun c_590 => ?_) (fun c_590 => ?_)
                                                                                                        · replace hf := (k_if hf).2 c_590
                                                                                                          refine g_iconst C (pc := 601) dL_counts_601 ck_iconst_0 ?_
                                                                                                          cases hf
                                                                                                          exact g_wid (Nat.le_of_ble_eq_true rfl) (Nat.le_of_ble_eq_true rfl) (g_zret C E rfl (pc := 602) dL_counts_602 rfl)
                                                                                                        · replace hf := (k_if hf).1 c_590
                                                                                                          refine g_aload_n C (pc := 593) 1 dL_counts_593 rfl rfl ?_
                                                                                                          refine g_iconst C (pc := 594) dL_counts_594 ck_iconst_1 ?_
                                                                                                          obtain ⟨y_595, h_595, hf⟩ := k_bd hf
                                                                                                          refine g_callO C (pc := 595) (As := [.int (1 : Int32)]) (rest := []) (v1 := .int y_595.1) (c' := y_595.2) (st' := [.int y_595.1]) lkX10_ofState lVL_57 (kC_ofState (xl x) (xD x) (xy x) ta kf_585 sf zQ_585 zS y_585.2 (1 : Int32) y_595 hk_585 hs h_595) rfl ⟨⟨Nat.le_of_ble_eq_true rfl, Nat.le_of_ble_eq_true rfl⟩, ⟨rfl, rfl⟩, ⟨Nat.le_of_ble_eq_true rfl, Nat.le_of_ble_eq_true rfl⟩⟩ rfl rfl (Nat.le_of_ble_eq_true rfl) rfl dL_counts_595 (fun kf_595 zQ_595 hk_595 => ?_)
                                                                                                          refine g_if_eq C (pc := 598) 603 dL_counts_598 (by decide) (fun c_598 => ?_) (fun c_598 => ?_)
                                                                                                          · replace hf := (k_if hf).1 c_598
                                                                                                            refine g_aload_n C (pc := 603) 1 dL_counts_603 rfl rfl ?_
                                                                                                            refine g_iconst C (pc := 604) dL_counts_604 ck_iconst_5 ?_
                                                                                                            obtain ⟨y_605, h_605, hf⟩ := k_bd hf
                                                                                                            refine g_callO C (pc := 605) (As := [.int (5 : Int32)]) (rest := []) (v1 := .int y_605.1) (c' := y_605.2) (st' := [.int y_605.1]) lkX10_guess lVL_45 (kC_guess (xl x) (xD x) (xy x) ta kf_595 sf zQ_595 zS y_595.2 (5 : Int32) y_605 hk_595 hs h_605) rfl ⟨⟨Nat.le_of_ble_eq_true rfl, Nat.le_of_ble_eq_true rfl⟩, ⟨rfl, rfl⟩, ⟨Nat.le_of_ble_eq_true rfl, Nat.le_of_ble_eq_true rfl⟩⟩ rfl rfl (Nat.le_of_ble_eq_true rfl) rfl dL_counts_605 (fun kf_605 zQ_605 hk_605 => ?_)
                                                                                                            refine g_iconst C (pc := 608) dL_counts_608 ck_iconst_2 ?_
                                                                                                            refine g_icmp_ne C (pc := 609) 685 dL_counts_609 (by decide) (fun c_609 => ?_) (fun c_609 => ?_)
                                                                                                            · replace hf := (k_if hf).2 c_609
                                                                                                              refine g_iconst C (pc := 685) dL_counts_685 ck_iconst_0 ?_
                                                                                                              cases hf
                                                                                                              exact g_wid (Nat.le_of_ble_eq_true rfl) (Nat.le_of_ble_eq_true rfl) (g_zret C E rfl (pc := 686) dL_counts_686 rfl)
                                                                                                            · replace hf := (k_if hf).1 c_609
                                                                                                              refine g_aload_n C (pc := 612) 1 dL_counts_612 rfl rfl ?_
                                                                                                              refine g_iconst C (pc := 613) dL_counts_613 ck_iconst_5 ?_
                                                                                                              refine g_iconst C (pc := 614) dL_counts_614 ck_iconst_0 ?_
                                                                                                              obtain ⟨y_615, h_615, hf⟩ := k_bd hf
                                                                                                              refine g_callO C (pc := 615) (As := [.int (5 : Int32), .int (0 : Int32)]) (rest := []) (v1 := .int y_615.1) (c' := y_615.2) (st' := [.int y_615.1]) lkX10_ofCandidate lVL_23 (kC_ofCandidate (xl x) (xD x) (xy x) ta kf_605 sf zQ_605 zS y_605.2 (5 : Int32) (0 : Int32) y_615 hk_605 hs h_615) rfl ⟨⟨Nat.le_of_ble_eq_true rfl, Nat.le_of_ble_eq_true rfl⟩, ⟨rfl, rfl⟩, ⟨Nat.le_of_ble_eq_true rfl, Nat.le_of_ble_eq_true rfl⟩⟩ rfl rfl (Nat.le_of_ble_eq_true rfl) rfl dL_counts_615 (fun kf_615 zQ_615 hk_615 => ?_)
                                                                                                              refine g_sipush C (pc := 618) dL_counts_618 ck_sipush_757 ?_
                                                                                                              refine g_icmp_ne C (pc := 621) 685 dL_counts_621 (by decide) (fun c_621 => ?_) (fun c_621 => ?_)
                                                                                                              · replace hf := (k_if hf).2 c_621
                                                                                                                refine g_iconst C (pc := 685) dL_counts_685 ck_iconst_0 ?_
                                                                                                                cases hf
                                                                                                                exact g_wid (Nat.le_of_ble_eq_true rfl) (Nat.le_of_ble_eq_true rfl) (g_zret C E rfl (pc := 686) dL_counts_686 rfl)
                                                                                                              · replace hf := (k_if hf).1 c_621
                                                                                                                refine g_aload_n C (pc := 624) 1 dL_counts_624 rfl rfl ?_
                                                                                                                refine g_bipush C (pc := 625) dL_counts_625 ck_bipush_6 ?_
                                                                                                                refine g_iconst C (pc := 627) dL_counts_627 ck_iconst_0 ?_
                                                                                                                obtain ⟨y_628, h_628, hf⟩ := k_bd hf
                                                                                                                refine g_callO C (pc := 628) (As := [.int (6 : Int32), .int (0 : Int32)]) (rest := []) (v1 := .int y_628.1) (c' := y_628.2) (st' := [.int y_628.1]) lkX10_ofCandidate lVL_23 (kC_ofCandidate (xl x) (xD x) (xy x) ta kf_615 sf zQ_615 zS y_615.2 (6 : Int32) (0 : Int32) y_628 hk_615 hs h_628) rfl ⟨⟨Nat.le_of_ble_eq_true rfl, Nat.le_of_ble_eq_true rfl⟩, ⟨rfl, rfl⟩, ⟨Nat.le_of_ble_eq_true rfl, Nat.le_of_ble_eq_true rfl⟩⟩ rfl rfl (Nat.le_of_ble_eq_true rfl) rfl dL_counts_628 (fun kf_628 zQ_628 hk_628 => ?_)
                                                                                                                refine g_sipush C (pc := 631) dL_counts_631 ck_sipush_787 ?_
                                                                                                                refine g_icmp_ne C (pc := 634) 685 dL_counts_634 (by decide) (fun c_634 => ?_) (fun c_634 => ?_)
                                                                                                                · replace hf := (k_if hf).2 c_634
                                                                                                                  refine g_iconst C (pc := 685) dL_counts_685 ck_iconst_0 ?_
                                                                                                                  cases hf
                                                                                                                  exact g_wid (Nat.le_of_ble_eq_true rfl) (Nat.le_of_ble_eq_true rfl) (g_zret C E rfl (pc := 686) dL_counts_686 rfl)
                                                                                                                · replace hf := (k_if hf).1 c_634
                                                                                                                  refine g_aload_n C (pc := 637) 1 dL_counts_637 rfl rfl ?_
                                                                                                                  refine g_iconst C (pc := 638) dL_counts_638 ck_iconst_5 ?_
                                                                                                                  obtain ⟨y_639, h_639, hf⟩ := k_bd hf
                                                                                                                  refine g_callO C (pc := 639) (As := [.int (5 : Int32)]) (rest := []) (v1 := .int y_639.1) (c' := y_639.2) (st' := [.int y_639.1]) lkX10_guess lVL_45 (kC_guess (xl x) (xD x) (xy x) ta kf_628 sf zQ_628 zS y_628.2 (5 : Int32) y_639 hk_628 hs h_639) rfl ⟨⟨Nat.le_of_ble_eq_true rfl, Nat.le_of_ble_eq_true rfl⟩, ⟨rfl, rfl⟩, ⟨Nat.le_of_ble_eq_true rfl, Nat.le_of_ble_eq_true rfl⟩⟩ rfl rfl (Nat.le_of_ble_eq_true rfl) rfl dL_counts_639 (fun kf_639 zQ_639 hk_639 => ?_)
                                                                                                                  refine g_if_ne C (pc := 642) 685 dL_counts_642 (by decide) (fun c_642 => ?_) (fun c_642 => ?_)
                                                                                                                  · replace hf := (k_if hf).2 c_642
                                                                                                                    refine g_iconst C (pc := 685) dL_counts_685 ck_iconst_0 ?_
                                                                                                                    cases hf
                                                                                                                    exact g_wid (Nat.le_of_ble_eq_true rfl) (Nat.le_of_ble_eq_true rfl) (g_zret C E rfl (pc := 686) dL_counts_686 rfl)
                                                                                                                  · replace hf := (k_if hf).1 c_642
                                                                                                                    refine g_aload_n C (pc := 645) 1 dL_counts_645 rfl rfl ?_
                                                                                                                    refine g_aload_n C (pc := 646) 1 dL_counts_646 rfl rfl ?_
                                                                                                                    refine g_iconst C (pc := 647) dL_counts_647 ck_iconst_2 ?_
                                                                                                                    refine g_iconst C (pc := 648) dL_counts_648 ck_iconst_0 ?_
                                                                                                                    refine g_iconst C (pc := 649) dL_counts_649 ck_iconst_0 ?_
                                                                                                                    refine g_iconst C (pc := 650) dL_counts_650 ck_iconst_2 ?_
                                                                                                                    obtain ⟨y_651, h_651, hf⟩ := k_bd hf
                                                                                                                    refine g_callO C (pc := 651) (As := [.int (2 : Int32), .int (0 : Int32), .int (0 : Int32), .int (2 : Int32)]) (rest := [.ref ta.1]) (v1 := .int y_651.1) (c' := y_651.2) (st' := [.int y_651.1, .ref ta.1]) lkX10_claim lVL_101 (kC_claim (xl x) (xD x) (xy x) ta kf_639 sf zQ_639 zS y_639.2 (2 : Int32) (0 : Int32) (0 : Int32) (2 : Int32) y_651 hk_639 hs h_651) rfl ⟨⟨Nat.le_of_ble_eq_true rfl, Nat.le_of_ble_eq_true rfl⟩, ⟨rfl, rfl⟩, ⟨Nat.le_of_ble_eq_true rfl, Nat.le_of_ble_eq_true rfl⟩⟩ rfl rfl (Nat.le_of_ble_eq_true rfl) rfl dL_counts_651 (fun kf_651 zQ_651 hk_651 => ?_)
                                                                                                                    obtain ⟨y_654, h_654, hf⟩ := k_bd hf
                                                                                                                    refine g_callO C (pc := 654) (As := [.int y_651.1]) (rest := []) (v1 := .int y_654.1) (c' := y_654.2) (st' := [.int y_654.1]) lkX10_candidate lVL_42 (kC_candidate (xl x) (xD x) (xy x) ta kf_651 sf zQ_651 zS y_651.2 y_651.1 y_654 hk_651 hs h_654) rfl ⟨⟨Nat.le_of_ble_eq_true rfl, Nat.le_of_ble_eq_true rfl⟩, ⟨rfl, rfl⟩, ⟨Nat.le_of_ble_eq_true rfl, Nat.le_of_ble_eq_true rfl⟩⟩ rfl rfl (Nat.le_of_ble_eq_true rfl) rfl dL_counts_654 (fun kf_654 zQ_654 hk_654 => ?_)
                                                                                                                    refine g_bipush C (pc := 657) dL_counts_657 ck_bipush_7 ?_
                                                                                                                    refine g_icmp_ne C (pc := 659) 685 dL_counts_659 (by decide) (fun c_659 => ?_) (fun c_659 => ?_)
                                                                                                                    · replace hf := (k_if hf).2 c_659
                                                                                                                      refine g_iconst C (pc := 685) dL_counts_685 ck_iconst_0 ?_
                                                                                                                      cases hf
                                                                                                                      exact g_wid (Nat.le_of_ble_eq_true rfl) (Nat.le_of_ble_eq_true rfl) (g_zret C E rfl (pc := 686) dL_counts_686 rfl)
                                                                                                                    · replace hf := (k_if hf).1 c_659
                                                                                                                      refine g_aload_n C (pc := 662) 1 dL_counts_662 rfl rfl ?_
                                                                                                                      refine g_bipush C (pc := 663) dL_counts_663 ck_bipush_7 ?_
                                                                                                                      refine g_iconst C (pc := 665) dL_counts_665 ck_iconst_2 ?_
                                                                                                                      refine g_sipush C (pc := 666) dL_counts_666 ck_sipush_128 ?_
                                                                                                                      refine g_iconst C (pc := 669) dL_counts_669 ck_iconst_0 ?_
                                                                                                                      refine g_bipush C (pc := 670) dL_counts_670 ck_bipush_m6 ?_
                                                                                                                      obtain ⟨y_672, h_672, hf⟩ := k_bd hf
                                                                                                                      refine g_callOS C (pc := 672) (As := [.ref ta.1, .int (7 : Int32), .int (2 : Int32), .int (128 : Int32), .int (0 : Int32), .int (-6 : Int32)]) (rest := []) (v1 := .int y_672.1) (c' := y_672.2) (st' := [.int y_672.1]) lkL_isCandidate lSL_109 (cL_isCandidate_k (xl x) (xD x) (xy x) ta kf_654 sf zQ_654 zS y_654.2 (7 : Int32) (2 : Int32) (128 : Int32) (0 : Int32) (-6 : Int32) y_672 hk_654 hs h_672) rfl ⟨⟨Nat.le_of_ble_eq_true rfl, Nat.le_of_ble_eq_true rfl⟩, ⟨rfl, rfl⟩, ⟨Nat.le_of_ble_eq_true rfl, Nat.le_of_ble_eq_true rfl⟩⟩ rfl (Nat.le_of_ble_eq_true rfl) rfl dL_counts_672 (fun kf_672 zQ_672 hk_672 => ?_)
                                                                                                                      refine g_if_eq C (pc := 675) 685 dL_counts_675 (by decide) (fun c_675 => ?_) (fun c_675 => ?_)
                                                                                                                      · replace hf := (k_if hf).1 c_675
                                                                                                                        refine g_iconst C (pc := 685) dL_counts_685 ck_iconst_0 ?_
                                                                                                                        cases hf
                                                                                                                        exact g_wid (Nat.le_of_ble_eq_true rfl) (Nat.le_of_ble_eq_true rfl) (g_zret C E rfl (pc := 686) dL_counts_686 rfl)
                                                                                                                      · replace hf := (k_if hf).2 c_675
                                                                                                                        refine g_aload_n C (pc := 678) 1 dL_counts_678 rfl rfl ?_
                                                                                                                        obtain ⟨y_679, h_679, hf⟩ := k_bd hf
                                                                                                                        refine g_callOS C (pc := 679) (As := [.ref ta.1]) (rest := []) (v1 := .int y_679.1) (c' := y_679.2) (st' := [.int y_679.1]) lkL_refused lSL_131 (cL_refused_k (xl x) (xD x) (xy x) ta kf_672 sf zQ_672 zS y_672.2 y_679 hk_672 hs h_679) rfl ⟨⟨Nat.le_of_ble_eq_true rfl, Nat.le_of_ble_eq_true rfl⟩, ⟨rfl, rfl⟩, ⟨Nat.le_of_ble_eq_true rfl, Nat.le_of_ble_eq_true rfl⟩⟩ rfl (Nat.le_of_ble_eq_true rfl) rfl dL_counts_679 (fun kf_679 zQ_679 hk_679 => ?_)
                                                                                                                        refine g_if_ne C (pc := 682) 687 dL_counts_682 (by decide) (fun c_682 => ?_) (fun c_682 => ?_)
                                                                                                                        · replace hf := (k_if hf).2 c_682
                                                                                                                          refine g_aload_n C (pc := 687) 1 dL_counts_687 rfl rfl ?_
                                                                                                                          refine g_iconst C (pc := 688) dL_counts_688 ck_iconst_1 ?_
                                                                                                                          obtain ⟨y_689, h_689, hf⟩ := k_bd hf
                                                                                                                          refine g_callO C (pc := 689) (As := [.int (1 : Int32)]) (rest := []) (v1 := .int y_689.1) (c' := y_689.2) (st' := [.int y_689.1]) lkX10_wrap lVL_32 (kC_wrap (xl x) (xD x) (xy x) ta kf_679 sf zQ_679 zS y_679.2 (1 : Int32) y_689 hk_679 hs h_689) rfl ⟨⟨Nat.le_of_ble_eq_true rfl, Nat.le_of_ble_eq_true rfl⟩, ⟨rfl, rfl⟩, ⟨Nat.le_of_ble_eq_true rfl, Nat.le_of_ble_eq_true rfl⟩⟩ rfl rfl (Nat.le_of_ble_eq_true rfl) rfl dL_counts_689 (fun kf_689 zQ_689 hk_689 => ?_)
                                                                                                                          refine g_if_ne C (pc := 692) 787 dL_counts_692 (by decide) (fun c_692 => ?_) (fun c_692 => ?_)
                                                                                                                          · replace hf := (k_if hf).2 c_692
                                                                                                                            refine g_iconst C (pc := 787) dL_counts_787 ck_iconst_0 ?_
                                                                                                                            cases hf
                                                                                                                            exact g_wid (Nat.le_of_ble_eq_true rfl) (Nat.le_of_ble_eq_true rfl) (g_zret C E rfl (pc := 788) dL_counts_788 rfl)
                                                                                                                          · replace hf := (k_if hf).1 c_692
                                                                                                                            refine g_aload_n C (pc := 695) 1 dL_counts_695 rfl rfl ?_
                                                                                                                            refine g_iconst C (pc := 696) dL_counts_696 ck_iconst_0 ?_
                                                                                                                            refine g_sipush C (pc := 697) dL_counts_697 ck_sipush_448 ?_
                                                                                                                            obtain ⟨y_700, h_700, hf⟩ := k_bd hf
                                                                                                                            refine g_callO C (pc := 700) (As := [.int (0 : Int32), .int (448 : Int32)]) (rest := []) (v1 := .int y_700.1) (c' := y_700.2) (st' := [.int y_700.1]) lkX10_leads lVL_54 (kC_leads (xl x) (xD x) (xy x) ta kf_689 sf zQ_689 zS y_689.2 (0 : Int32) (448 : Int32) y_700 hk_689 hs h_700) rfl ⟨⟨Nat.le_of_ble_eq_true rfl, Nat.le_of_ble_eq_true rfl⟩, ⟨rfl, rfl⟩, ⟨Nat.le_of_ble_eq_true rfl, Nat.le_of_ble_eq_true rfl⟩⟩ rfl rfl (Nat.le_of_ble_eq_true rfl) rfl dL_counts_700 (fun kf_700 zQ_700 hk_700 => ?_)
                                                                                                                            refine g_if_ne C (pc := 703) 787 dL_counts_703 (by decide) (fun c_703 => ?_) (fun c_703 => ?_)
                                                                                                                            · replace hf := (k_if hf).2 c_703
                                                                                                                              refine g_iconst C (pc := 787) dL_counts_787 ck_iconst_0 ?_
                                                                                                                              cases hf
                                                                                                                              exact g_wid (Nat.le_of_ble_eq_true rfl) (Nat.le_of_ble_eq_true rfl) (g_zret C E rfl (pc := 788) dL_counts_788 rfl)
                                                                                                                            · replace hf := (k_if hf).1 c_703
                                                                                                                              refine g_aload_n C (pc := 706) 1 dL_counts_706 rfl rfl ?_
                                                                                                                              refine g_iconst C (pc := 707) dL_counts_707 ck_iconst_3 ?_
                                                                                                                              obtain ⟨y_708, h_708, hf⟩ := k_bd hf
                                                                                                                              refine g_callO C (pc := 708) (As := [.int (3 : Int32)]) (rest := []) (v1 := .int y_708.1) (c' := y_708.2) (st' := [.int y_708.1]) lkX10_count lVL_13 (kC_count (xl x) (xD x) (xy x) ta kf_700 sf zQ_700 zS y_700.2 (3 : Int32) y_708 hk_700 hs h_708) rfl ⟨⟨Nat.le_of_ble_eq_true rfl, Nat.le_of_ble_eq_true rfl⟩, ⟨rfl, rfl⟩, ⟨Nat.le_of_ble_eq_true rfl, Nat.le_of_ble_eq_true rfl⟩⟩ rfl rfl (Nat.le_of_ble_eq_true rfl) rfl dL_counts_708 (fun kf_708 zQ_708 hk_708 => ?_)
                                                                                                                              refine g_iconst C (pc := 711) dL_counts_711 ck_iconst_1 ?_
                                                                                                                              refine g_icmp_ne C (pc := 712) 787 dL_counts_712 (by decide) (fun c_712 => ?_) (fun c_712 => ?_)
                                                                                                                              · replace hf := (k_if hf).2 c_712
                                                                                                                                refine g_iconst C (pc := 787) dL_counts_787 ck_iconst_0 ?_
                                                                                                                                cases hf
                                                                                                                                exact g_wid (Nat.le_of_ble_eq_true rfl) (Nat.le_of_ble_eq_true rfl) (g_zret C E rfl (pc := 788) dL_counts_788 rfl)
                                                                                                                              · replace hf := (k_if hf).1 c_712
                                                                                                                                refine g_aload_n C (pc := 715) 1 dL_counts_715 rfl rfl ?_
                                                                                                                                refine g_iconst C (pc := 716) dL_counts_716 ck_iconst_4 ?_
                                                                                                                                obtain ⟨y_717, h_717, hf⟩ := k_bd hf
                                                                                                                                refine g_callO C (pc := 717) (As := [.int (4 : Int32)]) (rest := []) (v1 := .int y_717.1) (c' := y_717.2) (st' := [.int y_717.1]) lkX10_count lVL_13 (kC_count (xl x) (xD x) (xy x) ta kf_708 sf zQ_708 zS y_708.2 (4 : Int32) y_717 hk_708 hs h_717) rfl ⟨⟨Nat.le_of_ble_eq_true rfl, Nat.le_of_ble_eq_true rfl⟩, ⟨rfl, rfl⟩, ⟨Nat.le_of_ble_eq_true rfl, Nat.le_of_ble_eq_true rfl⟩⟩ rfl rfl (Nat.le_of_ble_eq_true rfl) rfl dL_counts_717 (fun kf_717 zQ_717 hk_717 => ?_)
                                                                                                                                refine g_if_ne C (pc := 720) 787 dL_counts_720 (by decide) (fun c_720 => ?_) (fun c_720 => ?_)
                                                                                                                                · replace hf := (k_if hf).2 c_720
                                                                                                                                  refine g_iconst C (pc := 787) dL_counts_787 ck_iconst_0 ?_
                                                                                                                                  cases hf
                                                                                                                                  exact g_wid (Nat.le_of_ble_eq_true rfl) (Nat.le_of_ble_eq_true rfl) (g_zret C E rfl (pc := 788) dL_counts_788 rfl)
                                                                                                                                · replace hf := (k_if hf).1 c_720
                                                                                                                                  refine g_aload_n C (pc := 723) 1 dL_counts_723 rfl rfl ?_
                                                                                                                                  refine g_iconst C (pc := 724) dL_counts_724 ck_iconst_5 ?_
                                                                                                                                  obtain ⟨y_725, h_725, hf⟩ := k_bd hf
                                                                                                                                  refine g_callO C (pc := 725) (As := [.int (5 : Int32)]) (rest := []) (v1 := .int y_725.1) (c' := y_725.2) (st' := [.int y_725.1]) lkX10_count lVL_13 (kC_count (xl x) (xD x) (xy x) ta kf_717 sf zQ_717 zS y_717.2 (5 : Int32) y_725 hk_717 hs h_725) rfl ⟨⟨Nat.le_of_ble_eq_true rfl, Nat.le_of_ble_eq_true rfl⟩, ⟨rfl, rfl⟩, ⟨Nat.le_of_ble_eq_true rfl, Nat.le_of_ble_eq_true rfl⟩⟩ rfl rfl (Nat.le_of_ble_eq_true rfl) rfl dL_counts_725 (fun kf_725 zQ_725 hk_725 => ?_)
                                                                                                                                  refine g_if_ne C (pc := 728) 787 dL_counts_728 (by decide) (fun c_728 => ?_) (fun c_728 => ?_)
                                                                                                                                  · replace hf := (k_if hf).2 c_728
                                                                                                                                    refine g_iconst C (pc := 787) dL_counts_787 ck_iconst_0 ?_
                                                                                                                                    cases hf
                                                                                                                                    exact g_wid (Nat.le_of_ble_eq_true rfl) (Nat.le_of_ble_eq_true rfl) (g_zret C E rfl (pc := 788) dL_counts_788 rfl)
                                                                                                                                  · replace hf := (k_if hf).1 c_728
                                                                                                                                    refine g_aload_n C (pc := 731) 1 dL_counts_731 rfl rfl ?_
                                                                                                                                    refine g_iconst C (pc := 732) dL_counts_732 ck_iconst_0 ?_
                                                                                                                                    refine g_iconst C (pc := 733) dL_counts_733 ck_iconst_0 ?_
                                                                                                                                    refine g_bipush C (pc := 734) dL_counts_734 ck_bipush_m6 ?_
                                                                                                                                    refine g_bipush C (pc := 736) dL_counts_736 ck_bipush_m6 ?_
                                                                                                                                    refine g_bipush C (pc := 738) dL_counts_738 ck_bipush_m6 ?_
                                                                                                                                    obtain ⟨y_740, h_740, hf⟩ := k_bd hf
                                                                                                                                    refine g_callOS C (pc := 740) (As := [.ref ta.1, .int (0 : Int32), .int (0 : Int32), .int (-6 : Int32), .int (-6 : Int32), .int (-6 : Int32)]) (rest := []) (v1 := .int y_740.1) (c' := y_740.2) (st' := [.int y_740.1]) lkL_isCandidate lSL_109 (cL_isCandidate_k (xl x) (xD x) (xy x) ta kf_725 sf zQ_725 zS y_725.2 (0 : Int32) (0 : Int32) (-6 : Int32) (-6 : Int32) (-6 : Int32) y_740 hk_725 hs h_740) rfl ⟨⟨Nat.le_of_ble_eq_true rfl, Nat.le_of_ble_eq_true rfl⟩, ⟨rfl, rfl⟩, ⟨Nat.le_of_ble_eq_true rfl, Nat.le_of_ble_eq_true rfl⟩⟩ rfl (Nat.le_of_ble_eq_true rfl) rfl dL_counts_740 (fun kf_740 zQ_740 hk_740 => ?_)
                                                                                                                                    refine g_if_eq C (pc := 743) 787 dL_counts_743 (by decide) (fun c_743 => ?_) (fun c_743 => ?_)
                                                                                                                                    · replace hf := (k_if hf).1 c_743
                                                                                                                                      refine g_iconst C (pc := 787) dL_counts_787 ck_iconst_0 ?_
                                                                                                                                      cases hf
                                                                                                                                      exact g_wid (Nat.le_of_ble_eq_true rfl) (Nat.le_of_ble_eq_true rfl) (g_zret C E rfl (pc := 788) dL_counts_788 rfl)
                                                                                                                                    · replace hf := (k_if hf).2 c_743
                                                                                                                                      refine g_aload_n C (pc := 746) 1 dL_counts_746 rfl rfl ?_
                                                                                                                                      refine g_iconst C (pc := 747) dL_counts_747 ck_iconst_3 ?_
                                                                                                                                      refine g_iconst C (pc := 748) dL_counts_748 ck_iconst_1 ?_
                                                                                                                                      refine g_iconst C (pc := 749) dL_counts_749 ck_iconst_0 ?_
                                                                                                                                      refine g_bipush C (pc := 750) dL_counts_750 ck_bipush_m6 ?_
                                                                                                                                      refine g_bipush C (pc := 752) dL_counts_752 ck_bipush_m6 ?_
                                                                                                                                      obtain ⟨y_754, h_754, hf⟩ := k_bd hf
                                                                                                                                      refine g_callOS C (pc := 754) (As := [.ref ta.1, .int (3 : Int32), .int (1 : Int32), .int (0 : Int32), .int (-6 : Int32), .int (-6 : Int32)]) (rest := []) (v1 := .int y_754.1) (c' := y_754.2) (st' := [.int y_754.1]) lkL_isCandidate lSL_109 (cL_isCandidate_k (xl x) (xD x) (xy x) ta kf_740 sf zQ_740 zS y_740.2 (3 : Int32) (1 : Int32) (0 : Int32) (-6 : Int32) (-6 : Int32) y_754 hk_740 hs h_754) rfl ⟨⟨Nat.le_of_ble_eq_true rfl, Nat.le_of_ble_eq_true rfl⟩, ⟨rfl, rfl⟩, ⟨Nat.le_of_ble_eq_true rfl, Nat.le_of_ble_eq_true rfl⟩⟩ rfl (Nat.le_of_ble_eq_true rfl) rfl dL_counts_754 (fun kf_754 zQ_754 hk_754 => ?_)
                                                                                                                                      refine g_if_eq C (pc := 757) 787 dL_counts_757 (by decide) (fun c_757 => ?_) (fun c_757 => ?_)
                                                                                                                                      · replace hf := (k_if hf).1 c_757
                                                                                                                                        refine g_iconst C (pc := 787) dL_counts_787 ck_iconst_0 ?_
                                                                                                                                        cases hf
                                                                                                                                        exact g_wid (Nat.le_of_ble_eq_true rfl) (Nat.le_of_ble_eq_true rfl) (g_zret C E rfl (pc := 788) dL_counts_788 rfl)
                                                                                                                                      · replace hf := (k_if hf).2 c_757
                                                                                                                                        refine g_aload_n C (pc := 760) 1 dL_counts_760 rfl rfl ?_
                                                                                                                                        refine g_iconst C (pc := 761) dL_counts_761 ck_iconst_0 ?_
                                                                                                                                        obtain ⟨y_762, h_762, hf⟩ := k_bd hf
                                                                                                                                        refine g_callO C (pc := 762) (As := [.int (0 : Int32)]) (rest := []) (v1 := .int y_762.1) (c' := y_762.2) (st' := [.int y_762.1]) lkX10_drop lVL_39 (kC_drop (xl x) (xD x) (xy x) ta kf_754 sf zQ_754 zS y_754.2 (0 : Int32) y_762 hk_754 hs h_762) rfl ⟨⟨Nat.le_of_ble_eq_true rfl, Nat.le_of_ble_eq_true rfl⟩, ⟨rfl, rfl⟩, ⟨Nat.le_of_ble_eq_true rfl, Nat.le_of_ble_eq_true rfl⟩⟩ rfl rfl (Nat.le_of_ble_eq_true rfl) rfl dL_counts_762 (fun kf_762 zQ_762 hk_762 => ?_)
                                                                                                                                        refine g_if_ne C (pc := 765) 787 dL_counts_765 (by decide) (fun c_765 => ?_) (fun c_765 => ?_)
                                                                                                                                        · replace hf := (k_if hf).2 c_765
                                                                                                                                          refine g_iconst C (pc := 787) dL_counts_787 ck_iconst_0 ?_
                                                                                                                                          cases hf
                                                                                                                                          exact g_wid (Nat.le_of_ble_eq_true rfl) (Nat.le_of_ble_eq_true rfl) (g_zret C E rfl (pc := 788) dL_counts_788 rfl)
                                                                                                                                        · replace hf := (k_if hf).1 c_765
                                                                                                                                          refine g_aload_n C (pc := 768) 1 dL_counts_768 rfl rfl ?_
                                                                                                                                          refine g_iconst C (pc := 769) dL_counts_769 ck_iconst_5 ?_
                                                                                                                                          refine g_bipush C (pc := 770) dL_counts_770 ck_bipush_9 ?_
                                                                                                                                          obtain ⟨y_772, h_772, hf⟩ := k_bd hf
                                                                                                                                          refine g_callO C (pc := 772) (As := [.int (5 : Int32), .int (9 : Int32)]) (rest := []) (v1 := .int y_772.1) (c' := y_772.2) (st' := [.int y_772.1]) lkX10_run lVL_48 (kC_run (xl x) (xD x) (xy x) ta kf_762 sf zQ_762 zS y_762.2 (5 : Int32) (9 : Int32) y_772 hk_762 hs h_772) rfl ⟨⟨Nat.le_of_ble_eq_true rfl, Nat.le_of_ble_eq_true rfl⟩, ⟨rfl, rfl⟩, ⟨Nat.le_of_ble_eq_true rfl, Nat.le_of_ble_eq_true rfl⟩⟩ rfl rfl (Nat.le_of_ble_eq_true rfl) rfl dL_counts_772 (fun kf_772 zQ_772 hk_772 => ?_)
                                                                                                                                          refine g_if_ne C (pc := 775) 787 dL_counts_775 (by decide) (fun c_775 => ?_) (fun c_775 => ?_)
                                                                                                                                          · replace hf := (k_if hf).2 c_775
                                                                                                                                            refine g_iconst C (pc := 787) dL_counts_787 ck_iconst_0 ?_
                                                                                                                                            cases hf
                                                                                                                                            exact g_wid (Nat.le_of_ble_eq_true rfl) (Nat.le_of_ble_eq_true rfl) (g_zret C E rfl (pc := 788) dL_counts_788 rfl)
                                                                                                                                          · replace hf := (k_if hf).1 c_775
                                                                                                                                            refine g_aload_n C (pc := 778) 1 dL_counts_778 rfl rfl ?_
                                                                                                                                            refine g_iconst C (pc := 779) dL_counts_779 ck_iconst_4 ?_
                                                                                                                                            obtain ⟨y_780, h_780, hf⟩ := k_bd hf
                                                                                                                                            refine g_callO C (pc := 780) (As := [.int (4 : Int32)]) (rest := []) (v1 := .int y_780.1) (c' := y_780.2) (st' := [.int y_780.1]) lkX10_count lVL_13 (kC_count (xl x) (xD x) (xy x) ta kf_772 sf zQ_772 zS y_772.2 (4 : Int32) y_780 hk_772 hs h_780) rfl ⟨⟨Nat.le_of_ble_eq_true rfl, Nat.le_of_ble_eq_true rfl⟩, ⟨rfl, rfl⟩, ⟨Nat.le_of_ble_eq_true rfl, Nat.le_of_ble_eq_true rfl⟩⟩ rfl rfl (Nat.le_of_ble_eq_true rfl) rfl dL_counts_780 (fun kf_780 zQ_780 hk_780 => ?_)
                                                                                                                                            refine g_iconst C (pc := 783) dL_counts_783 ck_iconst_1 ?_
                                                                                                                                            refine g_icmp_eq C (pc := 784) 789 dL_counts_784 (by decide) (fun c_784 => ?_) (fun c_784 => ?_)
                                                                                                                                            · replace hf := (k_if hf).1 c_784
                                                                                                                                              refine g_aload_n C (pc := 789) 1 dL_counts_789 rfl rfl ?_
                                                                                                                                              refine g_iconst C (pc := 790) dL_counts_790 ck_iconst_3 ?_
                                                                                                                                              refine g_iconst C (pc := 791) dL_counts_791 ck_iconst_0 ?_
                                                                                                                                              refine g_iconst C (pc := 792) dL_counts_792 ck_iconst_0 ?_
                                                                                                                                              obtain ⟨y_793, h_793, hf⟩ := k_bd hf
                                                                                                                                              refine g_callO C (pc := 793) (As := [.int (3 : Int32), .int (0 : Int32), .int (0 : Int32)]) (rest := []) (v1 := .int y_793.1) (c' := y_793.2) (st' := [.int y_793.1]) lkX10_start lVL_26 (kC_start (xl x) (xD x) (xy x) ta kf_780 sf zQ_780 zS y_780.2 (3 : Int32) (0 : Int32) (0 : Int32) y_793 hk_780 hs h_793) rfl ⟨⟨Nat.le_of_ble_eq_true rfl, Nat.le_of_ble_eq_true rfl⟩, ⟨rfl, rfl⟩, ⟨Nat.le_of_ble_eq_true rfl, Nat.le_of_ble_eq_true rfl⟩⟩ rfl rfl (Nat.le_of_ble_eq_true rfl) rfl dL_counts_793 (fun kf_793 zQ_793 hk_793 => ?_)
                                                                                                                                              refine g_bipush C (pc := 796) dL_counts_796 ck_bipush_m6 ?_
                                                                                                                                              refine g_icmp_eq C (pc := 798) 906 dL_counts_798 (by decide) (fun c_798 => ?_) (fun c_798 => ?_)
                                                                                                                                              · replace hf := (k_if hf).1 c_798
                                                                                                                                                refine g_iconst C (pc := 906) dL_counts_906 ck_iconst_0 ?_
                                                                                                                                                cases hf
                                                                                                                                                exact g_wid (Nat.le_of_ble_eq_true rfl) (Nat.le_of_ble_eq_true rfl) (g_zret C E rfl (pc := 907) dL_counts_907 rfl)
                                                                                                                                              · replace hf := (k_if hf).2 c_798
                                                                                                                                                refine g_aload_n C (pc := 801) 1 dL_counts_801 rfl rfl ?_
                                                                                                                                                refine g_iconst C (pc := 802) dL_counts_802 ck_iconst_2 ?_
                                                                                                                                                refine g_iconst C (pc := 803) dL_counts_803 ck_iconst_1 ?_
                                                                                                                                                refine g_sipush C (pc := 804) dL_counts_804 ck_sipush_192 ?_
                                                                                                                                                refine g_bipush C (pc := 807) dL_counts_807 ck_bipush_m6 ?_
                                                                                                                                                refine g_bipush C (pc := 809) dL_counts_809 ck_bipush_m6 ?_
                                                                                                                                                obtain ⟨y_811, h_811, hf⟩ := k_bd hf
                                                                                                                                                refine g_callOS C (pc := 811) (As := [.ref ta.1, .int (2 : Int32), .int (1 : Int32), .int (192 : Int32), .int (-6 : Int32), .int (-6 : Int32)]) (rest := []) (v1 := .int y_811.1) (c' := y_811.2) (st' := [.int y_811.1]) lkL_isCandidate lSL_109 (cL_isCandidate_k (xl x) (xD x) (xy x) ta kf_793 sf zQ_793 zS y_793.2 (2 : Int32) (1 : Int32) (192 : Int32) (-6 : Int32) (-6 : Int32) y_811 hk_793 hs h_811) rfl ⟨⟨Nat.le_of_ble_eq_true rfl, Nat.le_of_ble_eq_true rfl⟩, ⟨rfl, rfl⟩, ⟨Nat.le_of_ble_eq_true rfl, Nat.le_of_ble_eq_true rfl⟩⟩ rfl (Nat.le_of_ble_eq_true rfl) rfl dL_counts_811 (fun kf_811 zQ_811 hk_811 => ?_)
                                                                                                                                                refine g_if_eq C (pc := 814) 906 dL_counts_814 (by decide) (fun c_814 => ?_) (fun c_814 => ?_)
                                                                                                                                                · replace hf := (k_if hf).1 c_814
                                                                                                                                                  refine g_iconst C (pc := 906) dL_counts_906 ck_iconst_0 ?_
                                                                                                                                                  cases hf
                                                                                                                                                  exact g_wid (Nat.le_of_ble_eq_true rfl) (Nat.le_of_ble_eq_true rfl) (g_zret C E rfl (pc := 907) dL_counts_907 rfl)
                                                                                                                                                · replace hf := (k_if hf).2 c_814
                                                                                                                                                  refine g_aload_n C (pc := 817) 1 dL_counts_817 rfl rfl ?_
                                                                                                                                                  refine g_iconst C (pc := 818) dL_counts_818 ck_iconst_3 ?_
                                                                                                                                                  refine g_iconst C (pc := 819) dL_counts_819 ck_iconst_0 ?_
                                                                                                                                                  refine g_bipush C (pc := 820) dL_counts_820 ck_bipush_m6 ?_
                                                                                                                                                  refine g_bipush C (pc := 822) dL_counts_822 ck_bipush_m6 ?_
                                                                                                                                                  refine g_bipush C (pc := 824) dL_counts_824 ck_bipush_m6 ?_
                                                                                                                                                  obtain ⟨y_826, h_826, hf⟩ := k_bd hf
                                                                                                                                                  refine g_callOS C (pc := 826) (As := [.ref ta.1, .int (3 : Int32), .int (0 : Int32), .int (-6 : Int32), .int (-6 : Int32), .int (-6 : Int32)]) (rest := []) (v1 := .int y_826.1) (c' := y_826.2) (st' := [.int y_826.1]) lkL_isCandidate lSL_109 (cL_isCandidate_k (xl x) (xD x) (xy x) ta kf_811 sf zQ_811 zS y_811.2 (3 : Int32) (0 : Int32) (-6 : Int32) (-6 : Int32) (-6 : Int32) y_826 hk_811 hs h_826) rfl ⟨⟨Nat.le_of_ble_eq_true rfl, Nat.le_of_ble_eq_true rfl⟩, ⟨rfl, rfl⟩, ⟨Nat.le_of_ble_eq_true rfl, Nat.le_of_ble_eq_true rfl⟩⟩ rfl (Nat.le_of_ble_eq_true rfl) rfl dL_counts_826 (fun kf_826 zQ_826 hk_826 => ?_)
                                                                                                                                                  refine g_if_eq C (pc := 829) 906 dL_counts_829 (by decide) (fun c_829 => ?_) (fun c_829 => ?_)
                                                                                                                                                  · replace hf := (k_if hf).1 c_829
                                                                                                                                                    refine g_iconst C (pc := 906) dL_counts_906 ck_iconst_0 ?_
                                                                                                                                                    cases hf
                                                                                                                                                    exact g_wid (Nat.le_of_ble_eq_true rfl) (Nat.le_of_ble_eq_true rfl) (g_zret C E rfl (pc := 907) dL_counts_907 rfl)
                                                                                                                                                  · replace hf := (k_if hf).2 c_829
                                                                                                                                                    refine g_aload_n C (pc := 832) 1 dL_counts_832 rfl rfl ?_
                                                                                                                                                    refine g_bipush C (pc := 833) dL_counts_833 ck_bipush_7 ?_
                                                                                                                                                    refine g_iconst C (pc := 835) dL_counts_835 ck_iconst_2 ?_
                                                                                                                                                    refine g_iconst C (pc := 836) dL_counts_836 ck_iconst_0 ?_
                                                                                                                                                    refine g_iconst C (pc := 837) dL_counts_837 ck_iconst_1 ?_
                                                                                                                                                    refine g_iconst C (pc := 838) dL_counts_838 ck_iconst_0 ?_
                                                                                                                                                    obtain ⟨y_839, h_839, hf⟩ := k_bd hf
                                                                                                                                                    refine g_callO C (pc := 839) (As := [.int (7 : Int32), .int (2 : Int32), .int (0 : Int32), .int (1 : Int32), .int (0 : Int32)]) (rest := []) (v1 := .int y_839.1) (c' := y_839.2) (st' := [.int y_839.1]) lkX10_step lVL_35 (kC_step (xl x) (xD x) (xy x) ta kf_826 sf zQ_826 zS y_826.2 (7 : Int32) (2 : Int32) (0 : Int32) (1 : Int32) (0 : Int32) y_839 hk_826 hs h_839) rfl ⟨⟨Nat.le_of_ble_eq_true rfl, Nat.le_of_ble_eq_true rfl⟩, ⟨rfl, rfl⟩, ⟨Nat.le_of_ble_eq_true rfl, Nat.le_of_ble_eq_true rfl⟩⟩ rfl rfl (Nat.le_of_ble_eq_true rfl) rfl dL_counts_839 (fun kf_839 zQ_839 hk_839 => ?_)
                                                                                                                                                    refine g_if_ne C (pc := 842) 906 dL_counts_842 (by decide) (fun c_842 => ?_) (fun c_842 => ?_)
                                                                                                                                                    · replace hf := (k_if hf).2 c_842
                                                                                                                                                      refine g_iconst C (pc := 906) dL_counts_906 ck_iconst_0 ?_
                                                                                                                                                      cases hf
                                                                                                                                                      exact g_wid (Nat.le_of_ble_eq_true rfl) (Nat.le_of_ble_eq_true rfl) (g_zret C E rfl (pc := 907) dL_counts_907 rfl)
                                                                                                                                                    · replace hf := (k_if hf).1 c_842
                                                                                                                                                      refine g_aload_n C (pc := 845) 1 dL_counts_845 rfl rfl ?_
                                                                                                                                                      refine g_iconst C (pc := 846) dL_counts_846 ck_iconst_0 ?_
                                                                                                                                                      refine g_sipush C (pc := 847) dL_counts_847 ck_sipush_192 ?_
                                                                                                                                                      obtain ⟨y_850, h_850, hf⟩ := k_bd hf
                                                                                                                                                      refine g_callO C (pc := 850) (As := [.int (0 : Int32), .int (192 : Int32)]) (rest := []) (v1 := .int y_850.1) (c' := y_850.2) (st' := [.int y_850.1]) lkX10_leads lVL_54 (kC_leads (xl x) (xD x) (xy x) ta kf_839 sf zQ_839 zS y_839.2 (0 : Int32) (192 : Int32) y_850 hk_839 hs h_850) rfl ⟨⟨Nat.le_of_ble_eq_true rfl, Nat.le_of_ble_eq_true rfl⟩, ⟨rfl, rfl⟩, ⟨Nat.le_of_ble_eq_true rfl, Nat.le_of_ble_eq_true rfl⟩⟩ rfl rfl (Nat.le_of_ble_eq_true rfl) rfl dL_counts_850 (fun kf_850 zQ_850 hk_850 => ?_)
                                                                                                                                                      refine g_bipush C (pc := 853) dL_counts_853 ck_bipush_24 ?_
                                                                                                                                                      refine g_icmp_ne C (pc := 855) 906 dL_counts_855 (by decide) (fun c_855 => ?_) (fun c_855 => ?_)
                                                                                                                                                      · replace hf := (k_if hf).2 c_855
                                                                                                                                                        refine g_iconst C (pc := 906) dL_counts_906 ck_iconst_0 ?_
                                                                                                                                                        cases hf
                                                                                                                                                        exact g_wid (Nat.le_of_ble_eq_true rfl) (Nat.le_of_ble_eq_true rfl) (g_zret C E rfl (pc := 907) dL_counts_907 rfl)
                                                                                                                                                      · replace hf := (k_if hf).1 c_855
                                                                                                                                                        refine g_aload_n C (pc := 858) 1 dL_counts_858 rfl rfl ?_
                                                                                                                                                        refine g_iconst C (pc := 859) dL_counts_859 ck_iconst_0 ?_
                                                                                                                                                        refine g_sipush C (pc := 860) dL_counts_860 ck_sipush_511 ?_
                                                                                                                                                        obtain ⟨y_863, h_863, hf⟩ := k_bd hf
                                                                                                                                                        refine g_callO C (pc := 863) (As := [.int (0 : Int32), .int (511 : Int32)]) (rest := []) (v1 := .int y_863.1) (c' := y_863.2) (st' := [.int y_863.1]) lkX10_leads lVL_54 (kC_leads (xl x) (xD x) (xy x) ta kf_850 sf zQ_850 zS y_850.2 (0 : Int32) (511 : Int32) y_863 hk_850 hs h_863) rfl ⟨⟨Nat.le_of_ble_eq_true rfl, Nat.le_of_ble_eq_true rfl⟩, ⟨rfl, rfl⟩, ⟨Nat.le_of_ble_eq_true rfl, Nat.le_of_ble_eq_true rfl⟩⟩ rfl rfl (Nat.le_of_ble_eq_true rfl) rfl dL_counts_863 (fun kf_863 zQ_863 hk_863 => ?_)
                                                                                                                                                        refine g_sipush C (pc := 866) dL_counts_866 ck_sipush_511 ?_
                                                                                                                                                        refine g_icmp_ne C (pc := 869) 906 dL_counts_869 (by decide) (fun c_869 => ?_) (fun c_869 => ?_)
                                                                                                                                                        · replace hf := (k_if hf).2 c_869
                                                                                                                                                          refine g_iconst C (pc := 906) dL_counts_906 ck_iconst_0 ?_
                                                                                                                                                          cases hf
                                                                                                                                                          exact g_wid (Nat.le_of_ble_eq_true rfl) (Nat.le_of_ble_eq_true rfl) (g_zret C E rfl (pc := 907) dL_counts_907 rfl)
                                                                                                                                                        · replace hf := (k_if hf).1 c_869
                                                                                                                                                          refine g_aload_n C (pc := 872) 1 dL_counts_872 rfl rfl ?_
                                                                                                                                                          refine g_bipush C (pc := 873) dL_counts_873 ck_bipush_9 ?_
                                                                                                                                                          obtain ⟨y_875, h_875, hf⟩ := k_bd hf
                                                                                                                                                          refine g_callO C (pc := 875) (As := [.int (9 : Int32)]) (rest := []) (v1 := .int y_875.1) (c' := y_875.2) (st' := [.int y_875.1]) lkX10_count lVL_13 (kC_count (xl x) (xD x) (xy x) ta kf_863 sf zQ_863 zS y_863.2 (9 : Int32) y_875 hk_863 hs h_875) rfl ⟨⟨Nat.le_of_ble_eq_true rfl, Nat.le_of_ble_eq_true rfl⟩, ⟨rfl, rfl⟩, ⟨Nat.le_of_ble_eq_true rfl, Nat.le_of_ble_eq_true rfl⟩⟩ rfl rfl (Nat.le_of_ble_eq_true rfl) rfl dL_counts_875 (fun kf_875 zQ_875 hk_875 => ?_)
                                                                                                                                                          refine g_iconst C (pc := 878) dL_counts_878 ck_iconst_2 ?_
                                                                                                                                                          refine g_icmp_ne C (pc := 879) 906 dL_counts_879 (by decide) (fun c_879 => ?_) (fun c_879 => ?_)
                                                                                                                                                          · replace hf := (k_if hf).2 c_879
                                                                                                                                                            refine g_iconst C (pc := 906) dL_counts_906 ck_iconst_0 ?_
                                                                                                                                                            cases hf
                                                                                                                                                            exact g_wid (Nat.le_of_ble_eq_true rfl) (Nat.le_of_ble_eq_true rfl) (g_zret C E rfl (pc := 907) dL_counts_907 rfl)
                                                                                                                                                          · replace hf := (k_if hf).1 c_879
                                                                                                                                                            refine g_aload_n C (pc := 882) 1 dL_counts_882 rfl rfl ?_
                                                                                                                                                            refine g_iconst C (pc := 883) dL_counts_883 ck_iconst_1 ?_
                                                                                                                                                            obtain ⟨y_884, h_884, hf⟩ := k_bd hf
                                                                                                                                                            refine g_callO C (pc := 884) (As := [.int (1 : Int32)]) (rest := []) (v1 := .int y_884.1) (c' := y_884.2) (st' := [.int y_884.1]) lkX10_save lVL_86 (kC_save (xl x) (xD x) (xy x) ta kf_875 sf zQ_875 zS y_875.2 (1 : Int32) y_884 hk_875 hs h_884) rfl ⟨⟨Nat.le_of_ble_eq_true rfl, Nat.le_of_ble_eq_true rfl⟩, ⟨rfl, rfl⟩, ⟨Nat.le_of_ble_eq_true rfl, Nat.le_of_ble_eq_true rfl⟩⟩ rfl rfl (Nat.le_of_ble_eq_true rfl) rfl dL_counts_884 (fun kf_884 zQ_884 hk_884 => ?_)
                                                                                                                                                            refine g_aload_n C (pc := 887) 1 dL_counts_887 rfl rfl ?_
                                                                                                                                                            refine g_iconst C (pc := 888) dL_counts_888 ck_iconst_2 ?_
                                                                                                                                                            obtain ⟨y_889, h_889, hf⟩ := k_bd hf
                                                                                                                                                            refine g_callO C (pc := 889) (As := [.int (2 : Int32)]) (rest := [.int y_884.1]) (v1 := .int y_889.1) (c' := y_889.2) (st' := [.int y_889.1, .int y_884.1]) lkX10_count lVL_13 (kC_count (xl x) (xD x) (xy x) ta kf_884 sf zQ_884 zS y_884.2 (2 : Int32) y_889 hk_884 hs h_889) rfl ⟨⟨Nat.le_of_ble_eq_true rfl, Nat.le_of_ble_eq_true rfl⟩, ⟨rfl, rfl⟩, ⟨Nat.le_of_ble_eq_true rfl, Nat.le_of_ble_eq_true rfl⟩⟩ rfl rfl (Nat.le_of_ble_eq_true rfl) rfl dL_counts_889 (fun kf_889 zQ_889 hk_889 => ?_)
                                                                                                                                                            refine g_icmp_ne C (pc := 892) 906 dL_counts_892 (by decide) (fun c_892 => ?_) (fun c_892 => ?_)
                                                                                                                                                            · replace hf := (k_if hf).2 c_892
                                                                                                                                                              refine g_iconst C (pc := 906) dL_counts_906 ck_iconst_0 ?_
                                                                                                                                                              cases hf
                                                                                                                                                              exact g_wid (Nat.le_of_ble_eq_true rfl) (Nat.le_of_ble_eq_true rfl) (g_zret C E rfl (pc := 907) dL_counts_907 rfl)
                                                                                                                                                            · replace hf := (k_if hf).1 c_892
                                                                                                                                                              refine g_aload_n C (pc := 895) 1 dL_counts_895 rfl rfl ?_
                                                                                                                                                              obtain ⟨y_896, h_896, hf⟩ := k_bd hf
                                                                                                                                                              refine g_callOS C (pc := 896) (As := [.ref ta.1]) (rest := []) (v1 := .int y_896.1) (c' := y_896.2) (st' := [.int y_896.1]) lkL_refused lSL_131 (cL_refused_k (xl x) (xD x) (xy x) ta kf_889 sf zQ_889 zS y_889.2 y_896 hk_889 hs h_896) rfl ⟨⟨Nat.le_of_ble_eq_true rfl, Nat.le_of_ble_eq_true rfl⟩, ⟨rfl, rfl⟩, ⟨Nat.le_of_ble_eq_true rfl, Nat.le_of_ble_eq_true rfl⟩⟩ rfl (Nat.le_of_ble_eq_true rfl) rfl dL_counts_896 (fun kf_896 zQ_896 hk_896 => ?_)
                                                                                                                                                              refine g_if_eq C (pc := 899) 906 dL_counts_899 (by decide) (fun c_899 => ?_) (fun c_899 => ?_)
                                                                                                                                                              · replace hf := (k_if hf).1 c_899
                                                                                                                                                                refine g_iconst C (pc := 906) dL_counts_906 ck_iconst_0 ?_
                                                                                                                                                                cases hf
                                                                                                                                                                exact g_wid (Nat.le_of_ble_eq_true rfl) (Nat.le_of_ble_eq_true rfl) (g_zret C E rfl (pc := 907) dL_counts_907 rfl)
                                                                                                                                                              · replace hf := (k_if hf).2 c_899
                                                                                                                                                                refine g_iconst C (pc := 902) dL_counts_902 ck_iconst_1 ?_
                                                                                                                                                                refine g_goto C (pc := 903) (tgt := 907) dL_counts_903 (by decide) ?_
                                                                                                                                                                cases hf
                                                                                                                                                                exact g_wid (Nat.le_of_ble_eq_true rfl) (Nat.le_of_ble_eq_true rfl) (g_zret C E rfl (pc := 907) dL_counts_907 rfl)
                                                                                                                                            · replace hf := (k_if hf).2 c_784
                                                                                                                                              refine g_iconst C (pc := 787) dL_counts_787 ck_iconst_0 ?_
                                                                                                                                              cases hf
                                                                                                                                              exact g_wid (Nat.le_of_ble_eq_true rfl) (Nat.le_of_ble_eq_true rfl) (g_zret C E rfl (pc := 788) dL_counts_788 rfl)
                                                                                                                        · replace hf := (k_if hf).1 c_682
                                                                                                                          refine g_iconst C (pc := 685) dL_counts_685 ck_iconst_0 ?_
                                                                                                                          cases hf
                                                                                                                          exact g_wid (Nat.le_of_ble_eq_true rfl) (Nat.le_of_ble_eq_true rfl) (g_zret C E rfl (pc := 686) dL_counts_686 rfl)
                                                                                                          · replace hf := (k_if hf).2 c_598
                                                                                                            refine g_iconst C (pc := 601) dL_counts_601 ck_iconst_0 ?_
                                                                                                            cases hf
                                                                                                            exact g_wid (Nat.le_of_ble_eq_true rfl) (Nat.le_of_ble_eq_true rfl) (g_zret C E rfl (pc := 602) dL_counts_602 rfl)
                                                                            · replace hf := (k_if hf).2 c_423
                                                                              refine g_iconst C (pc := 426) dL_counts_426 ck_iconst_0 ?_
                                                                              cases hf
                                                                              exact g_wid (Nat.le_of_ble_eq_true rfl) (Nat.le_of_ble_eq_true rfl) (g_zret C E rfl (pc := 427) dL_counts_427 rfl)
                                                    · replace hf := (k_if hf).2 c_299
                                                      refine g_iconst C (pc := 302) dL_counts_302 ck_iconst_0 ?_
                                                      cases hf
                                                      exact g_wid (Nat.le_of_ble_eq_true rfl) (Nat.le_of_ble_eq_true rfl) (g_zret C E rfl (pc := 303) dL_counts_303 rfl)
                        · replace hf := (k_if hf).2 c_138
                          refine g_iconst C (pc := 141) dL_counts_141 ck_iconst_0 ?_
                          cases hf
                          exact g_wid (Nat.le_of_ble_eq_true rfl) (Nat.le_of_ble_eq_true rfl) (g_zret C E rfl (pc := 142) dL_counts_142 rfl)
set_option maxRecDepth 100000 in
theorem cL_counts_k (l : Launch) (D : va_G) (yy : Nat → ClassId)  (o : Int32) (hf : fL_counts  = some o) : GMet l yL_counts cL_counts 2 (some .boolean) rmL_counts 187 8998 D yy [] ([]) (fun zv _ => zv = some ((.int o))) :=
  g_met (by decide +kernel) (Nat.le_of_ble_eq_true rfl) (fun x hl hD hy hn C E _ => by subst hD; subst hy; exact (eL_counts x C hn  o E hf))
