set_option maxRecDepth 100000 in
def jL_law_648 (e_595 : Int32 × CS) : Option (Int32) :=
  bd (oC_step e_595.2 (7 : Int32) (0 : Int32) (0 : Int32) (0 : Int32) (0 : Int32)) fun y_655 : Int32 × CS => if y_655.1 = (-4 : Int32) then bd (oC_step y_655.2 (6 : Int32) (0 : Int32) (0 : Int32) (0 : Int32) (0 : Int32)) fun y_670 : Int32 × CS => if y_670.1 = (-2 : Int32) then bd (oC_count y_670.2 (1 : Int32)) fun y_680 : Int32 × CS => if y_680.1 = (40 : Int32) then bd (oC_ofCandidate y_680.2 (0 : Int32) (0 : Int32)) fun y_692 : Int32 × CS => bd (oC_candidate y_692.2 y_692.1) fun y_695 : Int32 × CS => if y_695.1 = (-4 : Int32) then bd (oC_guess y_695.2 (1 : Int32)) fun y_705 : Int32 × CS => if y_705.1 = 0 then some (1 : Int32) else some (0 : Int32) else some (0 : Int32) else some (0 : Int32) else some (0 : Int32) else some (0 : Int32)
set_option maxRecDepth 100000 in
set_option maxHeartbeats 4000000 in
theorem tL_law_648 (x : GX) (C : GC x cL_law RL room_1) (N : xn x = 10) (ta : TA) (kf : Nat → Option Nat) (sf : Nat → Option Nat) (zQ : Nat → Nat → Nat) (zS : Nat → Nat → Nat) (b : Nat) (L : Nat) (sv : Nat → Int32) (qw : Nat) (e_44 : Int32 × Int32 × CS × (Nat → Int64)) (y_409 : Int64 × CS) (e_595 : Int32 × CS) (o : Int32) (hk : HK kf zQ) (hs : HS sf zS) (hX : va_X b L sv (xs x) (xs x).heap) (hbl : b < (xs x).heap.size) (hbA : ¬ xA x b) (E : ∀ (ws : va_W) (lo : List (Nat × Value)) (pc : Nat), decode cL_law pc = .ok (.ireturn, 1) → GW x 6359 305996 ws lo pc [.int o]) (hf : jL_law_648 e_595 = some o)  : GW x 6359 305996 (tkw (xy x) ta kf sf zQ zS e_595.2 ++ [(qw, .inl ((xy x) 1, 64, .inr (.inl (vp_updL e_44.2.2.2 (ix e_44.1) y_409.1))))]) [(1, .ref ta.1)] 648 [] := by
  unfold jL_law_648 at hf
  refine g_aload_n C (pc := 648) 0 dL_law_648 rfl rfl ?_
  refine g_bipush C (pc := 649) dL_law_649 ck_bipush_7 ?_
  refine g_iconst C (pc := 651) dL_law_651 ck_iconst_0 ?_
  refine g_iconst C (pc := 652) dL_law_652 ck_iconst_0 ?_
  refine g_iconst C (pc := 653) dL_law_653 ck_iconst_0 ?_
  refine g_iconst C (pc := 654) dL_law_654 ck_iconst_0 ?_
  obtain ⟨y_655, h_655, hf⟩ := k_bd hf
  refine g_callO C (pc := 655) (As := [.int (7 : Int32), .int (0 : Int32), .int (0 : Int32), .int (0 : Int32), .int (0 : Int32)]) (rest := []) (v1 := .int y_655.1) (c' := y_655.2) (st' := [.int y_655.1]) lkX10_step lVL_35 (kC_step (xl x) (xD x) (xy x) ta kf sf zQ zS e_595.2 (7 : Int32) (0 : Int32) (0 : Int32) (0 : Int32) (0 : Int32) y_655 hk hs h_655) rfl ⟨⟨Nat.le_of_ble_eq_true rfl, Nat.le_of_ble_eq_true rfl⟩, ⟨rfl, rfl⟩, ⟨Nat.le_of_ble_eq_true rfl, Nat.le_of_ble_eq_true rfl⟩⟩ rfl rfl (Nat.le_of_ble_eq_true rfl) rfl dL_law_655 (fun kf_655 zQ_655 hk_655 => ?_)
  refine g_bipush C (pc := 658) dL_law_658 ck_bipush_m4 ?_
  refine g_icmp_ne C (pc := 660) 715 dL_law_660 (by decide) (fun c_660 => ?_) (fun c_660 => ?_)
  · replace hf := (k_if hf).2 c_660
    refine g_iconst C (pc := 715) dL_law_715 ck_iconst_0 ?_
    cases hf
    exact g_wid (Nat.le_of_ble_eq_true rfl) (Nat.le_of_ble_eq_true rfl) (E _ _ 716 dL_law_716)
  · replace hf := (k_if hf).1 c_660
    refine g_aload_n C (pc := 663) 0 dL_law_663 rfl rfl ?_
    refine g_bipush C (pc := 664) dL_law_664 ck_bipush_6 ?_
    refine g_iconst C (pc := 666) dL_law_666 ck_iconst_0 ?_
    refine g_iconst C (pc := 667) dL_law_667 ck_iconst_0 ?_
    refine g_iconst C (pc := 668) dL_law_668 ck_iconst_0 ?_
    refine g_iconst C (pc := 669) dL_law_669 ck_iconst_0 ?_
    obtain ⟨y_670, h_670, hf⟩ := k_bd hf
    refine g_callO C (pc := 670) (As := [.int (6 : Int32), .int (0 : Int32), .int (0 : Int32), .int (0 : Int32), .int (0 : Int32)]) (rest := []) (v1 := .int y_670.1) (c' := y_670.2) (st' := [.int y_670.1]) lkX10_step lVL_35 (kC_step (xl x) (xD x) (xy x) ta kf_655 sf zQ_655 zS y_655.2 (6 : Int32) (0 : Int32) (0 : Int32) (0 : Int32) (0 : Int32) y_670 hk_655 hs h_670) rfl ⟨⟨Nat.le_of_ble_eq_true rfl, Nat.le_of_ble_eq_true rfl⟩, ⟨rfl, rfl⟩, ⟨Nat.le_of_ble_eq_true rfl, Nat.le_of_ble_eq_true rfl⟩⟩ rfl rfl (Nat.le_of_ble_eq_true rfl) rfl dL_law_670 (fun kf_670 zQ_670 hk_670 => ?_)
    refine g_bipush C (pc := 673) dL_law_673 ck_bipush_m2 ?_
    refine g_icmp_ne C (pc := 675) 715 dL_law_675 (by decide) (fun c_675 => ?_) (fun c_675 => ?_)
    · replace hf := (k_if hf).2 c_675
      refine g_iconst C (pc := 715) dL_law_715 ck_iconst_0 ?_
      cases hf
      exact g_wid (Nat.le_of_ble_eq_true rfl) (Nat.le_of_ble_eq_true rfl) (E _ _ 716 dL_law_716)
    · replace hf := (k_if hf).1 c_675
      refine g_aload_n C (pc := 678) 0 dL_law_678 rfl rfl ?_
      refine g_iconst C (pc := 679) dL_law_679 ck_iconst_1 ?_
      obtain ⟨y_680, h_680, hf⟩ := k_bd hf
      refine g_callO C (pc := 680) (As := [.int (1 : Int32)]) (rest := []) (v1 := .int y_680.1) (c' := y_680.2) (st' := [.int y_680.1]) lkX10_count lVL_13 (kC_count (xl x) (xD x) (xy x) ta kf_670 sf zQ_670 zS y_670.2 (1 : Int32) y_680 hk_670 hs h_680) rfl ⟨⟨Nat.le_of_ble_eq_true rfl, Nat.le_of_ble_eq_true rfl⟩, ⟨rfl, rfl⟩, ⟨Nat.le_of_ble_eq_true rfl, Nat.le_of_ble_eq_true rfl⟩⟩ rfl rfl (Nat.le_of_ble_eq_true rfl) rfl dL_law_680 (fun kf_680 zQ_680 hk_680 => ?_)
      refine g_bipush C (pc := 683) dL_law_683 ck_bipush_40 ?_
      refine g_icmp_ne C (pc := 685) 715 dL_law_685 (by decide) (fun c_685 => ?_) (fun c_685 => ?_)
      · replace hf := (k_if hf).2 c_685
        refine g_iconst C (pc := 715) dL_law_715 ck_iconst_0 ?_
        cases hf
        exact g_wid (Nat.le_of_ble_eq_true rfl) (Nat.le_of_ble_eq_true rfl) (E _ _ 716 dL_law_716)
      · replace hf := (k_if hf).1 c_685
        refine g_aload_n C (pc := 688) 0 dL_law_688 rfl rfl ?_
        refine g_aload_n C (pc := 689) 0 dL_law_689 rfl rfl ?_
        refine g_iconst C (pc := 690) dL_law_690 ck_iconst_0 ?_
        refine g_iconst C (pc := 691) dL_law_691 ck_iconst_0 ?_
        obtain ⟨y_692, h_692, hf⟩ := k_bd hf
        refine g_callO C (pc := 692) (As := [.int (0 : Int32), .int (0 : Int32)]) (rest := [.ref ta.1]) (v1 := .int y_692.1) (c' := y_692.2) (st' := [.int y_692.1, .ref ta.1]) lkX10_ofCandidate lVL_23 (kC_ofCandidate (xl x) (xD x) (xy x) ta kf_680 sf zQ_680 zS y_680.2 (0 : Int32) (0 : Int32) y_692 hk_680 hs h_692) rfl ⟨⟨Nat.le_of_ble_eq_true rfl, Nat.le_of_ble_eq_true rfl⟩, ⟨rfl, rfl⟩, ⟨Nat.le_of_ble_eq_true rfl, Nat.le_of_ble_eq_true rfl⟩⟩ rfl rfl (Nat.le_of_ble_eq_true rfl) rfl dL_law_692 (fun kf_692 zQ_692 hk_692 => ?_)
        obtain ⟨y_695, h_695, hf⟩ := k_bd hf
        refine g_callO C (pc := 695) (As := [.int y_692.1]) (rest := []) (v1 := .int y_695.1) (c' := y_695.2) (st' := [.int y_695.1]) lkX10_candidate lVL_42 (kC_candidate (xl x) (xD x) (xy x) ta kf_692 sf zQ_692 zS y_692.2 y_692.1 y_695 hk_692 hs h_695) rfl ⟨⟨Nat.le_of_ble_eq_true rfl, Nat.le_of_ble_eq_true rfl⟩, ⟨rfl, rfl⟩, ⟨Nat.le_of_ble_eq_true rfl, Nat.le_of_ble_eq_true rfl⟩⟩ rfl rfl (Nat.le_of_ble_eq_true rfl) rfl dL_law_695 (fun kf_695 zQ_695 hk_695 => ?_)
        refine g_bipush C (pc := 698) dL_law_698 ck_bipush_m4 ?_
        refine g_icmp_ne C (pc := 700) 715 dL_law_700 (by decide) (fun c_700 => ?_) (fun c_700 => ?_)
        · replace hf := (k_if hf).2 c_700
          refine g_iconst C (pc := 715) dL_law_715 ck_iconst_0 ?_
          cases hf
          exact g_wid (Nat.le_of_ble_eq_true rfl) (Nat.le_of_ble_eq_true rfl) (E _ _ 716 dL_law_716)
        · replace hf := (k_if hf).1 c_700
          refine g_aload_n C (pc := 703) 0 dL_law_703 rfl rfl ?_
          refine g_iconst C (pc := 704) dL_law_704 ck_iconst_1 ?_
          obtain ⟨y_705, h_705, hf⟩ := k_bd hf
          refine g_callO C (pc := 705) (As := [.int (1 : Int32)]) (rest := []) (v1 := .int y_705.1) (c' := y_705.2) (st' := [.int y_705.1]) lkX10_guess lVL_45 (kC_guess (xl x) (xD x) (xy x) ta kf_695 sf zQ_695 zS y_695.2 (1 : Int32) y_705 hk_695 hs h_705) rfl ⟨⟨Nat.le_of_ble_eq_true rfl, Nat.le_of_ble_eq_true rfl⟩, ⟨rfl, rfl⟩, ⟨Nat.le_of_ble_eq_true rfl, Nat.le_of_ble_eq_true rfl⟩⟩ rfl rfl (Nat.le_of_ble_eq_true rfl) rfl dL_law_705 (fun kf_705 zQ_705 hk_705 => ?_)
          refine g_if_ne C (pc := 708) 715 dL_law_708 (by decide) (fun c_708 => ?_) (fun c_708 => ?_)
          · replace hf := (k_if hf).2 c_708
            refine g_iconst C (pc := 715) dL_law_715 ck_iconst_0 ?_
            cases hf
            exact g_wid (Nat.le_of_ble_eq_true rfl) (Nat.le_of_ble_eq_true rfl) (E _ _ 716 dL_law_716)
          · replace hf := (k_if hf).1 c_708
            refine g_iconst C (pc := 711) dL_law_711 ck_iconst_1 ?_
            refine g_goto C (pc := 712) (tgt := 716) dL_law_712 (by decide) ?_
            cases hf
            exact g_wid (Nat.le_of_ble_eq_true rfl) (Nat.le_of_ble_eq_true rfl) (E _ _ 716 dL_law_716)
set_option maxRecDepth 100000 in
def jL_law_44b387 (y_71 : Int64 × CS) (u356_0 : Int32) (k387_cs : CS) (a_44 : Int32 × Int32 × CS × (Nat → Int64)) : Option ((Int32 × Int32 × CS × (Nat → Int64)) ⊕ ((Int32 × Int32 × CS × (Nat → Int64)) ⊕ (Int32))) :=
  if 0 ≤ u356_0 then some (.inl (a_44.1 + (1 : Int32), a_44.2.1 + 1, k387_cs, vp_updL a_44.2.2.2 (ix a_44.1) y_71.1)) else some (.inl (a_44.1 + (0 : Int32), a_44.2.1 + 1, k387_cs, vp_updL a_44.2.2.2 (ix a_44.1) y_71.1))
set_option maxRecDepth 100000 in
set_option maxHeartbeats 4000000 in
theorem tL_law_44b387 (x : GX) (C : GC x cL_law RL room_1) (N : xn x = 10) (ta : TA) (kf : Nat → Option Nat) (sf : Nat → Option Nat) (zQ : Nat → Nat → Nat) (zS : Nat → Nat → Nat) (b : Nat) (L : Nat) (sv : Nat → Int32) (qw : Nat) (y_71 : Int64 × CS) (u356_0 : Int32) (k387_cs : CS) (a_44 : Int32 × Int32 × CS × (Nat → Int64)) (o : Int32) (r : (Int32 × Int32 × CS × (Nat → Int64)) ⊕ ((Int32 × Int32 × CS × (Nat → Int64)) ⊕ (Int32))) (hk : HK kf zQ) (hs : HS sf zS) (hX : va_X b L sv (xs x) (xs x).heap) (hbl : b < (xs x).heap.size) (hbA : ¬ xA x b) (E : ∀ (ws : va_W) (lo : List (Nat × Value)) (pc : Nat), decode cL_law pc = .ok (.ireturn, 1) → GW x 6359 305996 ws lo pc [.int o]) (hf : jL_law_44b387 y_71 u356_0 k387_cs a_44 = some r) (kn : ∀ e : Int32 × Int32 × CS × (Nat → Int64), r = .inl e → ∀ (kf : Nat → Option Nat) (zQ : Nat → Nat → Nat), HK kf zQ → GW x 6359 305996 (tkw (xy x) ta kf sf zQ zS e.2.2.1 ++ [(qw, .inl ((xy x) 1, 64, .inr (.inl e.2.2.2)))]) [(0, .ref b), (1, .ref ta.1), (2, .ref qw), (3, .int e.1), (4, .int e.2.1)] 44 []) (kx : ∀ e : Int32 × Int32 × CS × (Nat → Int64), r = .inr (.inl e) → ∀ (kf : Nat → Option Nat) (zQ : Nat → Nat → Nat), HK kf zQ → GW x 6359 305996 (tkw (xy x) ta kf sf zQ zS e.2.2.1 ++ [(qw, .inl ((xy x) 1, 64, .inr (.inl e.2.2.2)))]) [(1, .ref ta.1), (2, .ref qw), (3, .int e.1)] 406 []) (kr : ∀ o' : Int32, r = .inr (.inr o') → o' = o) : GW x 6359 305996 (tkw (xy x) ta kf sf zQ zS k387_cs ++ [(qw, .inl ((xy x) 1, 64, .inr (.inl (vp_updL a_44.2.2.2 (ix a_44.1) y_71.1))))]) [(0, .ref b), (1, .ref ta.1), (2, .ref qw), (3, .int a_44.1), (4, .int a_44.2.1), (9, .int u356_0)] 387 [] := by
  unfold jL_law_44b387 at hf
  refine g_iload_n C (pc := 387) 3 dL_law_387 rfl rfl ?_
  refine g_iload C (pc := 388) 5 dL_law_388 rfl ?_
  refine g_if_ge C (pc := 390) 397 dL_law_390 (by decide) (fun c_390 => ?_) (fun c_390 => ?_)
  · replace hf := (k_if hf).1 c_390
    refine g_iconst C (pc := 397) dL_law_397 ck_iconst_1 ?_
    refine g_iadd C (pc := 398) dL_law_398 ?_
    refine g_istore_n C (pc := 399) (lo' := [(3, .int (a_44.1 + (1 : Int32))), (0, .ref b), (1, .ref ta.1), (2, .ref qw), (4, .int a_44.2.1), (9, .int u356_0)]) dL_law_399 rfl N rfl rfl ?_
    refine g_iinc C (pc := 400) (v := a_44.2.1 + 1) (lo' := [(4, .int (a_44.2.1 + 1)), (3, .int (a_44.1 + (1 : Int32))), (0, .ref b), (1, .ref ta.1), (2, .ref qw), (9, .int u356_0)]) 4 dL_law_400 rfl (congrArg (HAdd.hAdd _) ck_iinc_1) N rfl rfl ?_
    refine g_goto C (pc := 403) (tgt := 44) dL_law_403 (by decide) ?_
    cases hf
    exact g_lo [2, 3, 4, 1, 0] rfl (kn (a_44.1 + (1 : Int32), a_44.2.1 + 1, k387_cs, vp_updL a_44.2.2.2 (ix a_44.1) y_71.1) rfl kf zQ hk)
  · replace hf := (k_if hf).2 c_390
    refine g_iconst C (pc := 393) dL_law_393 ck_iconst_0 ?_
    refine g_goto C (pc := 394) (tgt := 398) dL_law_394 (by decide) ?_
    refine g_iadd C (pc := 398) dL_law_398 ?_
    refine g_istore_n C (pc := 399) (lo' := [(3, .int (a_44.1 + (0 : Int32))), (0, .ref b), (1, .ref ta.1), (2, .ref qw), (4, .int a_44.2.1), (9, .int u356_0)]) dL_law_399 rfl N rfl rfl ?_
    refine g_iinc C (pc := 400) (v := a_44.2.1 + 1) (lo' := [(4, .int (a_44.2.1 + 1)), (3, .int (a_44.1 + (0 : Int32))), (0, .ref b), (1, .ref ta.1), (2, .ref qw), (9, .int u356_0)]) 4 dL_law_400 rfl (congrArg (HAdd.hAdd _) ck_iinc_1) N rfl rfl ?_
    refine g_goto C (pc := 403) (tgt := 44) dL_law_403 (by decide) ?_
    cases hf
    exact g_lo [2, 3, 4, 1, 0] rfl (kn (a_44.1 + (0 : Int32), a_44.2.1 + 1, k387_cs, vp_updL a_44.2.2.2 (ix a_44.1) y_71.1) rfl kf zQ hk)
set_option maxRecDepth 100000 in
def jL_law_44b356 (y_71 : Int64 × CS) (y_78 : Int32 × CS) (u356_0 : Int32) (k356_cs : CS) (a_44 : Int32 × Int32 × CS × (Nat → Int64)) : Option ((Int32 × Int32 × CS × (Nat → Int64)) ⊕ ((Int32 × Int32 × CS × (Nat → Int64)) ⊕ (Int32))) :=
  if 0 ≤ u356_0 then jL_law_44b387 y_71 u356_0 k356_cs a_44 else bd (oC_count k356_cs (12 : Int32)) fun y_366 : Int32 × CS => if y_366.1 = y_78.1 then bd (fL_seen y_366.2) fun y_375 : Int64 × CS => gd (gi a_44.1 64) (if (lg_cmp y_375.1 ((vp_updL a_44.2.2.2 (ix a_44.1) y_71.1) (ix a_44.1))) = 0 then jL_law_44b387 y_71 u356_0 y_375.2 a_44 else some (.inr (.inr (0 : Int32)))) else some (.inr (.inr (0 : Int32)))
set_option maxRecDepth 100000 in
set_option maxHeartbeats 4000000 in
theorem tL_law_44b356 (x : GX) (C : GC x cL_law RL room_1) (N : xn x = 10) (ta : TA) (kf : Nat → Option Nat) (sf : Nat → Option Nat) (zQ : Nat → Nat → Nat) (zS : Nat → Nat → Nat) (b : Nat) (L : Nat) (sv : Nat → Int32) (qw : Nat) (y_71 : Int64 × CS) (y_78 : Int32 × CS) (u356_0 : Int32) (k356_cs : CS) (a_44 : Int32 × Int32 × CS × (Nat → Int64)) (o : Int32) (r : (Int32 × Int32 × CS × (Nat → Int64)) ⊕ ((Int32 × Int32 × CS × (Nat → Int64)) ⊕ (Int32))) (hk : HK kf zQ) (hs : HS sf zS) (hX : va_X b L sv (xs x) (xs x).heap) (hbl : b < (xs x).heap.size) (hbA : ¬ xA x b) (E : ∀ (ws : va_W) (lo : List (Nat × Value)) (pc : Nat), decode cL_law pc = .ok (.ireturn, 1) → GW x 6359 305996 ws lo pc [.int o]) (hf : jL_law_44b356 y_71 y_78 u356_0 k356_cs a_44 = some r) (kn : ∀ e : Int32 × Int32 × CS × (Nat → Int64), r = .inl e → ∀ (kf : Nat → Option Nat) (zQ : Nat → Nat → Nat), HK kf zQ → GW x 6359 305996 (tkw (xy x) ta kf sf zQ zS e.2.2.1 ++ [(qw, .inl ((xy x) 1, 64, .inr (.inl e.2.2.2)))]) [(0, .ref b), (1, .ref ta.1), (2, .ref qw), (3, .int e.1), (4, .int e.2.1)] 44 []) (kx : ∀ e : Int32 × Int32 × CS × (Nat → Int64), r = .inr (.inl e) → ∀ (kf : Nat → Option Nat) (zQ : Nat → Nat → Nat), HK kf zQ → GW x 6359 305996 (tkw (xy x) ta kf sf zQ zS e.2.2.1 ++ [(qw, .inl ((xy x) 1, 64, .inr (.inl e.2.2.2)))]) [(1, .ref ta.1), (2, .ref qw), (3, .int e.1)] 406 []) (kr : ∀ o' : Int32, r = .inr (.inr o') → o' = o) : GW x 6359 305996 (tkw (xy x) ta kf sf zQ zS k356_cs ++ [(qw, .inl ((xy x) 1, 64, .inr (.inl (vp_updL a_44.2.2.2 (ix a_44.1) y_71.1))))]) [(0, .ref b), (1, .ref ta.1), (2, .ref qw), (3, .int a_44.1), (4, .int a_44.2.1), (7, .int y_78.1)] 356 [.int u356_0] := by
  unfold jL_law_44b356 at hf
  refine g_istore C (pc := 356) (lo' := [(9, .int u356_0), (0, .ref b), (1, .ref ta.1), (2, .ref qw), (3, .int a_44.1), (4, .int a_44.2.1), (7, .int y_78.1)]) dL_law_356 N rfl rfl ?_
  refine g_iload C (pc := 358) 0 dL_law_358 rfl ?_
  refine g_if_ge C (pc := 360) 387 dL_law_360 (by decide) (fun c_360 => ?_) (fun c_360 => ?_)
  · replace hf := (k_if hf).1 c_360
    exact g_lo [1, 2, 3, 4, 5, 0] rfl (tL_law_44b387 x C N ta kf sf zQ zS b L sv qw y_71 u356_0 k356_cs a_44 o r hk hs hX hbl hbA E hf kn kx kr)
  · replace hf := (k_if hf).2 c_360
    refine g_aload_n C (pc := 363) 2 dL_law_363 rfl rfl ?_
    refine g_bipush C (pc := 364) dL_law_364 ck_bipush_12 ?_
    obtain ⟨y_366, h_366, hf⟩ := k_bd hf
    refine g_callO C (pc := 366) (As := [.int (12 : Int32)]) (rest := []) (v1 := .int y_366.1) (c' := y_366.2) (st' := [.int y_366.1]) lkX10_count lVL_13 (kC_count (xl x) (xD x) (xy x) ta kf sf zQ zS k356_cs (12 : Int32) y_366 hk hs h_366) rfl ⟨⟨Nat.le_of_ble_eq_true rfl, Nat.le_of_ble_eq_true rfl⟩, ⟨rfl, rfl⟩, ⟨Nat.le_of_ble_eq_true rfl, Nat.le_of_ble_eq_true rfl⟩⟩ rfl rfl (Nat.le_of_ble_eq_true rfl) rfl dL_law_366 (fun kf_366 zQ_366 hk_366 => ?_)
    refine g_iload C (pc := 369) 6 dL_law_369 rfl ?_
    refine g_icmp_ne C (pc := 371) 385 dL_law_371 (by decide) (fun c_371 => ?_) (fun c_371 => ?_)
    · replace hf := (k_if hf).2 c_371
      refine g_iconst C (pc := 385) dL_law_385 ck_iconst_0 ?_
      cases hf
      have ho := kr _ rfl
      cases ho
      exact g_wid (Nat.le_of_ble_eq_true rfl) (Nat.le_of_ble_eq_true rfl) (E _ _ 386 dL_law_386)
    · replace hf := (k_if hf).1 c_371
      refine g_aload_n C (pc := 374) 2 dL_law_374 rfl rfl ?_
      obtain ⟨y_375, h_375, hf⟩ := k_bd hf
      refine g_callOS C (pc := 375) (As := [.ref ta.1]) (rest := []) (v1 := .long y_375.1) (c' := y_375.2) (st' := [.long y_375.1]) lkL_seen lSL_92 (cL_seen_k (xl x) (xD x) (xy x) ta kf_366 sf zQ_366 zS y_366.2 y_375 hk_366 hs h_375) rfl ⟨⟨Nat.le_of_ble_eq_true rfl, Nat.le_of_ble_eq_true rfl⟩, ⟨rfl, rfl⟩, ⟨Nat.le_of_ble_eq_true rfl, Nat.le_of_ble_eq_true rfl⟩⟩ rfl (Nat.le_of_ble_eq_true rfl) rfl dL_law_375 (fun kf_375 zQ_375 hk_375 => ?_)
      refine g_aload_n C (pc := 378) 3 dL_law_378 rfl rfl ?_
      refine g_iload_n C (pc := 379) 4 dL_law_379 rfl rfl ?_
      obtain ⟨i_380, hf⟩ := k_gd hf
      refine g_laldT C (pc := 380) i_380 dL_law_380 ?_
      refine g_lcmp C (pc := 381) dL_law_381 ?_
      refine g_if_eq C (pc := 382) 387 dL_law_382 (by decide) (fun c_382 => ?_) (fun c_382 => ?_)
      · replace hf := (k_if hf).1 c_382
        exact g_lo [1, 2, 3, 4, 5, 0] rfl (tL_law_44b387 x C N ta kf_375 sf zQ_375 zS b L sv qw y_71 u356_0 y_375.2 a_44 o r hk_375 hs hX hbl hbA E hf kn kx kr)
      · replace hf := (k_if hf).2 c_382
        refine g_iconst C (pc := 385) dL_law_385 ck_iconst_0 ?_
        cases hf
        have ho := kr _ rfl
        cases ho
        exact g_wid (Nat.le_of_ble_eq_true rfl) (Nat.le_of_ble_eq_true rfl) (E _ _ 386 dL_law_386)
set_option maxRecDepth 100000 in
def jL_law_44b346 (y_71 : Int64 × CS) (y_78 : Int32 × CS) (y_114 : Int32 × CS) (u346_0 : Int32) (a_44 : Int32 × Int32 × CS × (Nat → Int64)) : Option ((Int32 × Int32 × CS × (Nat → Int64)) ⊕ ((Int32 × Int32 × CS × (Nat → Int64)) ⊕ (Int32))) :=
  bd (oC_guess y_114.2 u346_0) fun y_346 : Int32 × CS => jL_law_44b356 y_71 y_78 y_346.1 y_346.2 a_44
set_option maxRecDepth 100000 in
set_option maxHeartbeats 4000000 in
theorem tL_law_44b346 (x : GX) (C : GC x cL_law RL room_1) (N : xn x = 10) (ta : TA) (kf : Nat → Option Nat) (sf : Nat → Option Nat) (zQ : Nat → Nat → Nat) (zS : Nat → Nat → Nat) (b : Nat) (L : Nat) (sv : Nat → Int32) (qw : Nat) (y_71 : Int64 × CS) (y_78 : Int32 × CS) (y_114 : Int32 × CS) (u346_0 : Int32) (a_44 : Int32 × Int32 × CS × (Nat → Int64)) (o : Int32) (r : (Int32 × Int32 × CS × (Nat → Int64)) ⊕ ((Int32 × Int32 × CS × (Nat → Int64)) ⊕ (Int32))) (hk : HK kf zQ) (hs : HS sf zS) (hX : va_X b L sv (xs x) (xs x).heap) (hbl : b < (xs x).heap.size) (hbA : ¬ xA x b) (E : ∀ (ws : va_W) (lo : List (Nat × Value)) (pc : Nat), decode cL_law pc = .ok (.ireturn, 1) → GW x 6359 305996 ws lo pc [.int o]) (hf : jL_law_44b346 y_71 y_78 y_114 u346_0 a_44 = some r) (kn : ∀ e : Int32 × Int32 × CS × (Nat → Int64), r = .inl e → ∀ (kf : Nat → Option Nat) (zQ : Nat → Nat → Nat), HK kf zQ → GW x 6359 305996 (tkw (xy x) ta kf sf zQ zS e.2.2.1 ++ [(qw, .inl ((xy x) 1, 64, .inr (.inl e.2.2.2)))]) [(0, .ref b), (1, .ref ta.1), (2, .ref qw), (3, .int e.1), (4, .int e.2.1)] 44 []) (kx : ∀ e : Int32 × Int32 × CS × (Nat → Int64), r = .inr (.inl e) → ∀ (kf : Nat → Option Nat) (zQ : Nat → Nat → Nat), HK kf zQ → GW x 6359 305996 (tkw (xy x) ta kf sf zQ zS e.2.2.1 ++ [(qw, .inl ((xy x) 1, 64, .inr (.inl e.2.2.2)))]) [(1, .ref ta.1), (2, .ref qw), (3, .int e.1)] 406 []) (kr : ∀ o' : Int32, r = .inr (.inr o') → o' = o) : GW x 6359 305996 (tkw (xy x) ta kf sf zQ zS y_114.2 ++ [(qw, .inl ((xy x) 1, 64, .inr (.inl (vp_updL a_44.2.2.2 (ix a_44.1) y_71.1))))]) [(0, .ref b), (1, .ref ta.1), (2, .ref qw), (3, .int a_44.1), (4, .int a_44.2.1), (7, .int y_78.1)] 346 [.int u346_0, .ref ta.1] := by
  unfold jL_law_44b346 at hf
  obtain ⟨y_346, h_346, hf⟩ := k_bd hf
  refine g_callO C (pc := 346) (As := [.int u346_0]) (rest := []) (v1 := .int y_346.1) (c' := y_346.2) (st' := [.int y_346.1]) lkX10_guess lVL_45 (kC_guess (xl x) (xD x) (xy x) ta kf sf zQ zS y_114.2 u346_0 y_346 hk hs h_346) rfl ⟨⟨Nat.le_of_ble_eq_true rfl, Nat.le_of_ble_eq_true rfl⟩, ⟨rfl, rfl⟩, ⟨Nat.le_of_ble_eq_true rfl, Nat.le_of_ble_eq_true rfl⟩⟩ rfl rfl (Nat.le_of_ble_eq_true rfl) rfl dL_law_346 (fun kf_346 zQ_346 hk_346 => ?_)
  refine g_goto C (pc := 349) (tgt := 356) dL_law_349 (by decide) ?_
  exact tL_law_44b356 x C N ta kf_346 sf zQ_346 zS b L sv qw y_71 y_78 y_346.1 y_346.2 a_44 o r hk_346 hs hX hbl hbA E hf kn kx kr
set_option maxRecDepth 100000 in
def jL_law_44b212 (y_54 : Int32) (y_71 : Int64 × CS) (y_78 : Int32 × CS) (y_114 : Int32 × CS) (u212_0 : Int32) (a_44 : Int32 × Int32 × CS × (Nat → Int64)) : Option ((Int32 × Int32 × CS × (Nat → Int64)) ⊕ ((Int32 × Int32 × CS × (Nat → Int64)) ⊕ (Int32))) :=
  bd (fL_part (y_54 >>> ((5 : Int32) &&& 31)) (3 : Int32)) fun y_218 : Int32 => bd (fL_part (y_54 >>> ((7 : Int32) &&& 31)) (3 : Int32)) fun y_227 : Int32 => bd (fL_part (y_54 >>> ((9 : Int32) &&& 31)) (15 : Int32)) fun y_237 : Int32 => bd (oC_step y_114.2 u212_0 (1 : Int32) y_218 y_227 (y_237 - (7 : Int32))) fun y_243 : Int32 × CS => jL_law_44b356 y_71 y_78 y_243.1 y_243.2 a_44
set_option maxRecDepth 100000 in
set_option maxHeartbeats 4000000 in
theorem tL_law_44b212 (x : GX) (C : GC x cL_law RL room_1) (N : xn x = 10) (ta : TA) (kf : Nat → Option Nat) (sf : Nat → Option Nat) (zQ : Nat → Nat → Nat) (zS : Nat → Nat → Nat) (b : Nat) (L : Nat) (sv : Nat → Int32) (qw : Nat) (y_54 : Int32) (y_71 : Int64 × CS) (y_78 : Int32 × CS) (y_114 : Int32 × CS) (u212_0 : Int32) (a_44 : Int32 × Int32 × CS × (Nat → Int64)) (o : Int32) (r : (Int32 × Int32 × CS × (Nat → Int64)) ⊕ ((Int32 × Int32 × CS × (Nat → Int64)) ⊕ (Int32))) (hk : HK kf zQ) (hs : HS sf zS) (hX : va_X b L sv (xs x) (xs x).heap) (hbl : b < (xs x).heap.size) (hbA : ¬ xA x b) (E : ∀ (ws : va_W) (lo : List (Nat × Value)) (pc : Nat), decode cL_law pc = .ok (.ireturn, 1) → GW x 6359 305996 ws lo pc [.int o]) (hf : jL_law_44b212 y_54 y_71 y_78 y_114 u212_0 a_44 = some r) (kn : ∀ e : Int32 × Int32 × CS × (Nat → Int64), r = .inl e → ∀ (kf : Nat → Option Nat) (zQ : Nat → Nat → Nat), HK kf zQ → GW x 6359 305996 (tkw (xy x) ta kf sf zQ zS e.2.2.1 ++ [(qw, .inl ((xy x) 1, 64, .inr (.inl e.2.2.2)))]) [(0, .ref b), (1, .ref ta.1), (2, .ref qw), (3, .int e.1), (4, .int e.2.1)] 44 []) (kx : ∀ e : Int32 × Int32 × CS × (Nat → Int64), r = .inr (.inl e) → ∀ (kf : Nat → Option Nat) (zQ : Nat → Nat → Nat), HK kf zQ → GW x 6359 305996 (tkw (xy x) ta kf sf zQ zS e.2.2.1 ++ [(qw, .inl ((xy x) 1, 64, .inr (.inl e.2.2.2)))]) [(1, .ref ta.1), (2, .ref qw), (3, .int e.1)] 406 []) (kr : ∀ o' : Int32, r = .inr (.inr o') → o' = o) : GW x 6359 305996 (tkw (xy x) ta kf sf zQ zS y_114.2 ++ [(qw, .inl ((xy x) 1, 64, .inr (.inl (vp_updL a_44.2.2.2 (ix a_44.1) y_71.1))))]) [(0, .ref b), (1, .ref ta.1), (2, .ref qw), (3, .int a_44.1), (4, .int a_44.2.1), (5, .int y_54), (7, .int y_78.1)] 212 [.int u212_0, .ref ta.1] := by
  unfold jL_law_44b212 at hf
  refine g_iconst C (pc := 212) dL_law_212 ck_iconst_1 ?_
  refine g_iload C (pc := 213) 5 dL_law_213 rfl ?_
  refine g_iconst C (pc := 215) dL_law_215 ck_iconst_5 ?_
  refine g_ishr C (pc := 216) dL_law_216 ?_
  refine g_iconst C (pc := 217) dL_law_217 ck_iconst_3 ?_
  obtain ⟨y_218, h_218, hf⟩ := k_bd hf
  refine g_callS0 C (pc := 218) (As := [.int (y_54 >>> ((5 : Int32) &&& 31)), .int (3 : Int32)]) (rest := [.int (1 : Int32), .int u212_0, .ref ta.1]) (v1 := some (.int y_218)) (st' := [.int y_218, .int (1 : Int32), .int u212_0, .ref ta.1]) lkL_part lSL_247 (cL_part_k (xl x) (xD x) (xy x) (y_54 >>> ((5 : Int32) &&& 31)) (3 : Int32) y_218 h_218) rfl ⟨⟨Nat.le_of_ble_eq_true rfl, Nat.le_of_ble_eq_true rfl⟩, ⟨rfl, rfl⟩, ⟨Nat.le_of_ble_eq_true rfl, Nat.le_of_ble_eq_true rfl⟩⟩ rfl (Nat.le_of_ble_eq_true rfl) rfl dL_law_218 ?_
  refine g_iload C (pc := 221) 5 dL_law_221 rfl ?_
  refine g_bipush C (pc := 223) dL_law_223 ck_bipush_7 ?_
  refine g_ishr C (pc := 225) dL_law_225 ?_
  refine g_iconst C (pc := 226) dL_law_226 ck_iconst_3 ?_
  obtain ⟨y_227, h_227, hf⟩ := k_bd hf
  refine g_callS0 C (pc := 227) (As := [.int (y_54 >>> ((7 : Int32) &&& 31)), .int (3 : Int32)]) (rest := [.int y_218, .int (1 : Int32), .int u212_0, .ref ta.1]) (v1 := some (.int y_227)) (st' := [.int y_227, .int y_218, .int (1 : Int32), .int u212_0, .ref ta.1]) lkL_part lSL_247 (cL_part_k (xl x) (xD x) (xy x) (y_54 >>> ((7 : Int32) &&& 31)) (3 : Int32) y_227 h_227) rfl ⟨⟨Nat.le_of_ble_eq_true rfl, Nat.le_of_ble_eq_true rfl⟩, ⟨rfl, rfl⟩, ⟨Nat.le_of_ble_eq_true rfl, Nat.le_of_ble_eq_true rfl⟩⟩ rfl (Nat.le_of_ble_eq_true rfl) rfl dL_law_227 ?_
  refine g_iload C (pc := 230) 5 dL_law_230 rfl ?_
  refine g_bipush C (pc := 232) dL_law_232 ck_bipush_9 ?_
  refine g_ishr C (pc := 234) dL_law_234 ?_
  refine g_bipush C (pc := 235) dL_law_235 ck_bipush_15 ?_
  obtain ⟨y_237, h_237, hf⟩ := k_bd hf
  refine g_callS0 C (pc := 237) (As := [.int (y_54 >>> ((9 : Int32) &&& 31)), .int (15 : Int32)]) (rest := [.int y_227, .int y_218, .int (1 : Int32), .int u212_0, .ref ta.1]) (v1 := some (.int y_237)) (st' := [.int y_237, .int y_227, .int y_218, .int (1 : Int32), .int u212_0, .ref ta.1]) lkL_part lSL_247 (cL_part_k (xl x) (xD x) (xy x) (y_54 >>> ((9 : Int32) &&& 31)) (15 : Int32) y_237 h_237) rfl ⟨⟨Nat.le_of_ble_eq_true rfl, Nat.le_of_ble_eq_true rfl⟩, ⟨rfl, rfl⟩, ⟨Nat.le_of_ble_eq_true rfl, Nat.le_of_ble_eq_true rfl⟩⟩ rfl (Nat.le_of_ble_eq_true rfl) rfl dL_law_237 ?_
  refine g_bipush C (pc := 240) dL_law_240 ck_bipush_7 ?_
  refine g_isub C (pc := 242) dL_law_242 ?_
  obtain ⟨y_243, h_243, hf⟩ := k_bd hf
  refine g_callO C (pc := 243) (As := [.int u212_0, .int (1 : Int32), .int y_218, .int y_227, .int (y_237 - (7 : Int32))]) (rest := []) (v1 := .int y_243.1) (c' := y_243.2) (st' := [.int y_243.1]) lkX10_step lVL_35 (kC_step (xl x) (xD x) (xy x) ta kf sf zQ zS y_114.2 u212_0 (1 : Int32) y_218 y_227 (y_237 - (7 : Int32)) y_243 hk hs h_243) rfl ⟨⟨Nat.le_of_ble_eq_true rfl, Nat.le_of_ble_eq_true rfl⟩, ⟨rfl, rfl⟩, ⟨Nat.le_of_ble_eq_true rfl, Nat.le_of_ble_eq_true rfl⟩⟩ rfl rfl (Nat.le_of_ble_eq_true rfl) rfl dL_law_243 (fun kf_243 zQ_243 hk_243 => ?_)
  refine g_goto C (pc := 246) (tgt := 356) dL_law_246 (by decide) ?_
  exact g_lo [0, 1, 2, 3, 4, 6] rfl (tL_law_44b356 x C N ta kf_243 sf zQ_243 zS b L sv qw y_71 y_78 y_243.1 y_243.2 a_44 o r hk_243 hs hX hbl hbA E hf kn kx kr)
set_option maxRecDepth 100000 in
def jL_law_44b193 (y_54 : Int32) (y_71 : Int64 × CS) (y_78 : Int32 × CS) (y_114 : Int32 × CS) (a_44 : Int32 × Int32 × CS × (Nat → Int64)) : Option ((Int32 × Int32 × CS × (Nat → Int64)) ⊕ ((Int32 × Int32 × CS × (Nat → Int64)) ⊕ (Int32))) :=
  bd (fL_part (y_54 >>> ((3 : Int32) &&& 31)) (2 : Int32)) fun y_199 : Int32 => if y_199 = 0 then jL_law_44b212 y_54 y_71 y_78 y_114 (7 : Int32) a_44 else jL_law_44b212 y_54 y_71 y_78 y_114 y_114.1 a_44
set_option maxRecDepth 100000 in
set_option maxHeartbeats 4000000 in
theorem tL_law_44b193 (x : GX) (C : GC x cL_law RL room_1) (N : xn x = 10) (ta : TA) (kf : Nat → Option Nat) (sf : Nat → Option Nat) (zQ : Nat → Nat → Nat) (zS : Nat → Nat → Nat) (b : Nat) (L : Nat) (sv : Nat → Int32) (qw : Nat) (y_54 : Int32) (y_71 : Int64 × CS) (y_78 : Int32 × CS) (y_114 : Int32 × CS) (a_44 : Int32 × Int32 × CS × (Nat → Int64)) (o : Int32) (r : (Int32 × Int32 × CS × (Nat → Int64)) ⊕ ((Int32 × Int32 × CS × (Nat → Int64)) ⊕ (Int32))) (hk : HK kf zQ) (hs : HS sf zS) (hX : va_X b L sv (xs x) (xs x).heap) (hbl : b < (xs x).heap.size) (hbA : ¬ xA x b) (E : ∀ (ws : va_W) (lo : List (Nat × Value)) (pc : Nat), decode cL_law pc = .ok (.ireturn, 1) → GW x 6359 305996 ws lo pc [.int o]) (hf : jL_law_44b193 y_54 y_71 y_78 y_114 a_44 = some r) (kn : ∀ e : Int32 × Int32 × CS × (Nat → Int64), r = .inl e → ∀ (kf : Nat → Option Nat) (zQ : Nat → Nat → Nat), HK kf zQ → GW x 6359 305996 (tkw (xy x) ta kf sf zQ zS e.2.2.1 ++ [(qw, .inl ((xy x) 1, 64, .inr (.inl e.2.2.2)))]) [(0, .ref b), (1, .ref ta.1), (2, .ref qw), (3, .int e.1), (4, .int e.2.1)] 44 []) (kx : ∀ e : Int32 × Int32 × CS × (Nat → Int64), r = .inr (.inl e) → ∀ (kf : Nat → Option Nat) (zQ : Nat → Nat → Nat), HK kf zQ → GW x 6359 305996 (tkw (xy x) ta kf sf zQ zS e.2.2.1 ++ [(qw, .inl ((xy x) 1, 64, .inr (.inl e.2.2.2)))]) [(1, .ref ta.1), (2, .ref qw), (3, .int e.1)] 406 []) (kr : ∀ o' : Int32, r = .inr (.inr o') → o' = o) : GW x 6359 305996 (tkw (xy x) ta kf sf zQ zS y_114.2 ++ [(qw, .inl ((xy x) 1, 64, .inr (.inl (vp_updL a_44.2.2.2 (ix a_44.1) y_71.1))))]) [(0, .ref b), (1, .ref ta.1), (2, .ref qw), (3, .int a_44.1), (4, .int a_44.2.1), (5, .int y_54), (7, .int y_78.1), (8, .int y_114.1)] 193 [] := by
  unfold jL_law_44b193 at hf
  refine g_aload_n C (pc := 193) 1 dL_law_193 rfl rfl ?_
  refine g_iload C (pc := 194) 5 dL_law_194 rfl ?_
  refine g_iconst C (pc := 196) dL_law_196 ck_iconst_3 ?_
  refine g_ishr C (pc := 197) dL_law_197 ?_
  refine g_iconst C (pc := 198) dL_law_198 ck_iconst_2 ?_
  obtain ⟨y_199, h_199, hf⟩ := k_bd hf
  refine g_callS0 C (pc := 199) (As := [.int (y_54 >>> ((3 : Int32) &&& 31)), .int (2 : Int32)]) (rest := [.ref ta.1]) (v1 := some (.int y_199)) (st' := [.int y_199, .ref ta.1]) lkL_part lSL_247 (cL_part_k (xl x) (xD x) (xy x) (y_54 >>> ((3 : Int32) &&& 31)) (2 : Int32) y_199 h_199) rfl ⟨⟨Nat.le_of_ble_eq_true rfl, Nat.le_of_ble_eq_true rfl⟩, ⟨rfl, rfl⟩, ⟨Nat.le_of_ble_eq_true rfl, Nat.le_of_ble_eq_true rfl⟩⟩ rfl (Nat.le_of_ble_eq_true rfl) rfl dL_law_199 ?_
  refine g_if_ne C (pc := 202) 210 dL_law_202 (by decide) (fun c_202 => ?_) (fun c_202 => ?_)
  · replace hf := (k_if hf).2 c_202
    refine g_iload C (pc := 210) 7 dL_law_210 rfl ?_
    exact g_lo [0, 1, 2, 3, 4, 5, 6] rfl (tL_law_44b212 x C N ta kf sf zQ zS b L sv qw y_54 y_71 y_78 y_114 y_114.1 a_44 o r hk hs hX hbl hbA E hf kn kx kr)
  · replace hf := (k_if hf).1 c_202
    refine g_bipush C (pc := 205) dL_law_205 ck_bipush_7 ?_
    refine g_goto C (pc := 207) (tgt := 212) dL_law_207 (by decide) ?_
    exact g_lo [0, 1, 2, 3, 4, 5, 6] rfl (tL_law_44b212 x C N ta kf sf zQ zS b L sv qw y_54 y_71 y_78 y_114 (7 : Int32) a_44 o r hk hs hX hbl hbA E hf kn kx kr)
def gL_law_44 (L : Nat) (sv : Nat → Int32) (a_44 : Int32 × Int32 × CS × (Nat → Int64)) : Option ((Int32 × Int32 × CS × (Nat → Int64)) ⊕ ((Int32 × Int32 × CS × (Nat → Int64)) ⊕ (Int32))) :=
  if (24 : Int32) ≤ a_44.2.1 then some (.inr (.inl (a_44.1, a_44.2.1, a_44.2.2.1, a_44.2.2.2))) else bd (fL_drawn L sv a_44.2.1) fun y_54 : Int32 => bd (fL_part y_54 (9 : Int32)) fun y_63 : Int32 => bd (fL_seen a_44.2.2.1) fun y_71 : Int64 × CS => gd (gi a_44.1 64) (bd (oC_count y_71.2 (12 : Int32)) fun y_78 : Int32 × CS => bd (fL_part (y_54 >>> ((4 : Int32) &&& 31)) (4 : Int32)) fun y_90 : Int32 => bd (fL_part (y_54 >>> ((6 : Int32) &&& 31)) (3 : Int32)) fun y_100 : Int32 => bd (fL_part (y_54 >>> ((8 : Int32) &&& 31)) (8 : Int32)) fun y_111 : Int32 => bd (oC_claim y_78.2 ((1 : Int32) + y_90) y_100 (0 : Int32) y_111) fun y_114 : Int32 × CS => if y_63 = 0 then bd (fL_part (y_54 >>> ((4 : Int32) &&& 31)) (8 : Int32)) fun y_131 : Int32 => bd (fL_part (y_54 >>> ((7 : Int32) &&& 31)) (8 : Int32)) fun y_141 : Int32 => bd (fL_part (y_54 >>> ((10 : Int32) &&& 31)) (8 : Int32)) fun y_151 : Int32 => bd (oC_start y_114.2 y_131 y_141 y_151) fun y_154 : Int32 × CS => jL_law_44b356 y_71 y_78 y_154.1 y_154.2 a_44 else if y_63 = (1 : Int32) then bd (fL_part (y_54 >>> ((4 : Int32) &&& 31)) (2 : Int32)) fun y_172 : Int32 => bd (oC_wrap y_114.2 y_172) fun y_175 : Int32 × CS => jL_law_44b356 y_71 y_78 y_175.1 y_175.2 a_44 else if y_63 = (2 : Int32) then jL_law_44b193 y_54 y_71 y_78 y_114 a_44 else if y_63 = (3 : Int32) then jL_law_44b193 y_54 y_71 y_78 y_114 a_44 else if y_63 = (4 : Int32) then bd (fL_part (y_54 >>> ((4 : Int32) &&& 31)) (3 : Int32)) fun y_261 : Int32 => bd (oC_drop y_114.2 y_261) fun y_264 : Int32 × CS => jL_law_44b356 y_71 y_78 y_264.1 y_264.2 a_44 else if y_63 = (5 : Int32) then bd (oC_candidate y_114.2 y_114.1) fun y_279 : Int32 × CS => jL_law_44b356 y_71 y_78 y_279.1 y_279.2 a_44 else if y_63 = (6 : Int32) then bd (fL_part (y_54 >>> ((4 : Int32) &&& 31)) (1000 : Int32)) fun y_300 : Int32 => bd (fL_part (y_54 >>> ((6 : Int32) &&& 31)) (12 : Int32)) fun y_311 : Int32 => bd (oC_run y_114.2 y_300 ((1 : Int32) + y_311)) fun y_315 : Int32 × CS => jL_law_44b356 y_71 y_78 y_315.1 y_315.2 a_44 else if y_63 = (7 : Int32) then bd (fL_part (y_54 >>> ((4 : Int32) &&& 31)) (2 : Int32)) fun y_334 : Int32 => if y_334 = 0 then jL_law_44b346 y_71 y_78 y_114 (5 : Int32) a_44 else jL_law_44b346 y_71 y_78 y_114 (9 : Int32) a_44 else bd (oC_strike y_114.2) fun y_353 : Int32 × CS => jL_law_44b356 y_71 y_78 y_353.1 y_353.2 a_44)
set_option maxRecDepth 100000 in
set_option maxHeartbeats 4000000 in
theorem bL_law_44 (x : GX) (C : GC x cL_law RL room_1) (N : xn x = 10) (ta : TA) (kf : Nat → Option Nat) (sf : Nat → Option Nat) (zQ : Nat → Nat → Nat) (zS : Nat → Nat → Nat) (b : Nat) (L : Nat) (sv : Nat → Int32) (qw : Nat) (a_44 : Int32 × Int32 × CS × (Nat → Int64)) (o : Int32) (r : (Int32 × Int32 × CS × (Nat → Int64)) ⊕ ((Int32 × Int32 × CS × (Nat → Int64)) ⊕ (Int32))) (hk : HK kf zQ) (hs : HS sf zS) (hX : va_X b L sv (xs x) (xs x).heap) (hbl : b < (xs x).heap.size) (hbA : ¬ xA x b) (E : ∀ (ws : va_W) (lo : List (Nat × Value)) (pc : Nat), decode cL_law pc = .ok (.ireturn, 1) → GW x 6359 305996 ws lo pc [.int o]) (hf : gL_law_44 L sv a_44 = some r) (kn : ∀ e : Int32 × Int32 × CS × (Nat → Int64), r = .inl e → ∀ (kf : Nat → Option Nat) (zQ : Nat → Nat → Nat), HK kf zQ → GW x 6359 305996 (tkw (xy x) ta kf sf zQ zS e.2.2.1 ++ [(qw, .inl ((xy x) 1, 64, .inr (.inl e.2.2.2)))]) [(0, .ref b), (1, .ref ta.1), (2, .ref qw), (3, .int e.1), (4, .int e.2.1)] 44 []) (kx : ∀ e : Int32 × Int32 × CS × (Nat → Int64), r = .inr (.inl e) → ∀ (kf : Nat → Option Nat) (zQ : Nat → Nat → Nat), HK kf zQ → GW x 6359 305996 (tkw (xy x) ta kf sf zQ zS e.2.2.1 ++ [(qw, .inl ((xy x) 1, 64, .inr (.inl e.2.2.2)))]) [(1, .ref ta.1), (2, .ref qw), (3, .int e.1)] 406 []) (kr : ∀ o' : Int32, r = .inr (.inr o') → o' = o) : GW x 6359 305996 (tkw (xy x) ta kf sf zQ zS a_44.2.2.1 ++ [(qw, .inl ((xy x) 1, 64, .inr (.inl a_44.2.2.2)))]) [(0, .ref b), (1, .ref ta.1), (2, .ref qw), (3, .int a_44.1), (4, .int a_44.2.1)] 44 [] := by
  unfold gL_law_44 at hf
  refine g_iload C (pc := 44) 4 dL_law_44 rfl ?_
  refine g_bipush C (pc := 46) dL_law_46 ck_bipush_24 ?_
  refine g_icmp_ge C (pc := 48) 406 dL_law_48 (by decide) (fun c_48 => ?_) (fun c_48 => ?_)
  · replace hf := (k_if hf).1 c_48
    cases hf
    exact g_lo [1, 2, 3] rfl (kx (a_44.1, a_44.2.1, a_44.2.2.1, a_44.2.2.2) rfl kf zQ hk)
  · replace hf := (k_if hf).2 c_48
    refine g_aload_n C (pc := 51) 0 dL_law_51 rfl rfl ?_
    refine g_iload C (pc := 52) 4 dL_law_52 rfl ?_
    obtain ⟨y_54, h_54, hf⟩ := k_bd hf
    refine g_callZ C (pc := 54) hX hbl hbA (As := [.ref b, .int a_44.2.1]) (rest := []) (v1 := .int y_54) (st' := [.int y_54]) lkL_drawn lSL_243 (cL_drawn_k (xl x) (xD x) (xy x) b L sv a_44.2.1 y_54 h_54) rfl ⟨⟨Nat.le_of_ble_eq_true rfl, Nat.le_of_ble_eq_true rfl⟩, ⟨rfl, rfl⟩, ⟨Nat.le_of_ble_eq_true rfl, Nat.le_of_ble_eq_true rfl⟩⟩ rfl (Nat.le_of_ble_eq_true rfl) rfl dL_law_54 ?_
    refine g_istore C (pc := 57) (lo' := [(5, .int y_54), (0, .ref b), (1, .ref ta.1), (2, .ref qw), (3, .int a_44.1), (4, .int a_44.2.1)]) dL_law_57 N rfl rfl ?_
    refine g_iload C (pc := 59) 0 dL_law_59 rfl ?_
    refine g_bipush C (pc := 61) dL_law_61 ck_bipush_9 ?_
    obtain ⟨y_63, h_63, hf⟩ := k_bd hf
    refine g_callS0 C (pc := 63) (As := [.int y_54, .int (9 : Int32)]) (rest := []) (v1 := some (.int y_63)) (st' := [.int y_63]) lkL_part lSL_247 (cL_part_k (xl x) (xD x) (xy x) y_54 (9 : Int32) y_63 h_63) rfl ⟨⟨Nat.le_of_ble_eq_true rfl, Nat.le_of_ble_eq_true rfl⟩, ⟨rfl, rfl⟩, ⟨Nat.le_of_ble_eq_true rfl, Nat.le_of_ble_eq_true rfl⟩⟩ rfl (Nat.le_of_ble_eq_true rfl) rfl dL_law_63 ?_
    refine g_istore C (pc := 66) (lo' := [(6, .int y_63), (5, .int y_54), (0, .ref b), (1, .ref ta.1), (2, .ref qw), (3, .int a_44.1), (4, .int a_44.2.1)]) dL_law_66 N rfl rfl ?_
    refine g_aload_n C (pc := 68) 4 dL_law_68 rfl rfl ?_
    refine g_iload_n C (pc := 69) 5 dL_law_69 rfl rfl ?_
    refine g_aload_n C (pc := 70) 3 dL_law_70 rfl rfl ?_
    obtain ⟨y_71, h_71, hf⟩ := k_bd hf
    refine g_callOS C (pc := 71) (As := [.ref ta.1]) (rest := [.int a_44.1, .ref qw]) (v1 := .long y_71.1) (c' := y_71.2) (st' := [.long y_71.1, .int a_44.1, .ref qw]) lkL_seen lSL_92 (cL_seen_k (xl x) (xD x) (xy x) ta kf sf zQ zS a_44.2.2.1 y_71 hk hs h_71) rfl ⟨⟨Nat.le_of_ble_eq_true rfl, Nat.le_of_ble_eq_true rfl⟩, ⟨rfl, rfl⟩, ⟨Nat.le_of_ble_eq_true rfl, Nat.le_of_ble_eq_true rfl⟩⟩ rfl (Nat.le_of_ble_eq_true rfl) rfl dL_law_71 (fun kf_71 zQ_71 hk_71 => ?_)
    obtain ⟨i_74, hf⟩ := k_gd hf
    refine g_lastT C (pc := 74) i_74 dL_law_74 ?_
    refine g_aload_n C (pc := 75) 3 dL_law_75 rfl rfl ?_
    refine g_bipush C (pc := 76) dL_law_76 ck_bipush_12 ?_
    obtain ⟨y_78, h_78, hf⟩ := k_bd hf
    refine g_callO C (pc := 78) (As := [.int (12 : Int32)]) (rest := []) (v1 := .int y_78.1) (c' := y_78.2) (st' := [.int y_78.1]) lkX10_count lVL_13 (kC_count (xl x) (xD x) (xy x) ta kf_71 sf zQ_71 zS y_71.2 (12 : Int32) y_78 hk_71 hs h_78) rfl ⟨⟨Nat.le_of_ble_eq_true rfl, Nat.le_of_ble_eq_true rfl⟩, ⟨rfl, rfl⟩, ⟨Nat.le_of_ble_eq_true rfl, Nat.le_of_ble_eq_true rfl⟩⟩ rfl rfl (Nat.le_of_ble_eq_true rfl) rfl dL_law_78 (fun kf_78 zQ_78 hk_78 => ?_)
    refine g_istore C (pc := 81) (lo' := [(7, .int y_78.1), (6, .int y_63), (5, .int y_54), (0, .ref b), (1, .ref ta.1), (2, .ref qw), (3, .int a_44.1), (4, .int a_44.2.1)]) dL_law_81 N rfl rfl ?_
    refine g_aload_n C (pc := 83) 4 dL_law_83 rfl rfl ?_
    refine g_iconst C (pc := 84) dL_law_84 ck_iconst_1 ?_
    refine g_iload C (pc := 85) 2 dL_law_85 rfl ?_
    refine g_iconst C (pc := 87) dL_law_87 ck_iconst_4 ?_
    refine g_ishr C (pc := 88) dL_law_88 ?_
    refine g_iconst C (pc := 89) dL_law_89 ck_iconst_4 ?_
    obtain ⟨y_90, h_90, hf⟩ := k_bd hf
    refine g_callS0 C (pc := 90) (As := [.int (y_54 >>> ((4 : Int32) &&& 31)), .int (4 : Int32)]) (rest := [.int (1 : Int32), .ref ta.1]) (v1 := some (.int y_90)) (st' := [.int y_90, .int (1 : Int32), .ref ta.1]) lkL_part lSL_247 (cL_part_k (xl x) (xD x) (xy x) (y_54 >>> ((4 : Int32) &&& 31)) (4 : Int32) y_90 h_90) rfl ⟨⟨Nat.le_of_ble_eq_true rfl, Nat.le_of_ble_eq_true rfl⟩, ⟨rfl, rfl⟩, ⟨Nat.le_of_ble_eq_true rfl, Nat.le_of_ble_eq_true rfl⟩⟩ rfl (Nat.le_of_ble_eq_true rfl) rfl dL_law_90 ?_
    refine g_iadd C (pc := 93) dL_law_93 ?_
    refine g_iload C (pc := 94) 2 dL_law_94 rfl ?_
    refine g_bipush C (pc := 96) dL_law_96 ck_bipush_6 ?_
    refine g_ishr C (pc := 98) dL_law_98 ?_
    refine g_iconst C (pc := 99) dL_law_99 ck_iconst_3 ?_
    obtain ⟨y_100, h_100, hf⟩ := k_bd hf
    refine g_callS0 C (pc := 100) (As := [.int (y_54 >>> ((6 : Int32) &&& 31)), .int (3 : Int32)]) (rest := [.int ((1 : Int32) + y_90), .ref ta.1]) (v1 := some (.int y_100)) (st' := [.int y_100, .int ((1 : Int32) + y_90), .ref ta.1]) lkL_part lSL_247 (cL_part_k (xl x) (xD x) (xy x) (y_54 >>> ((6 : Int32) &&& 31)) (3 : Int32) y_100 h_100) rfl ⟨⟨Nat.le_of_ble_eq_true rfl, Nat.le_of_ble_eq_true rfl⟩, ⟨rfl, rfl⟩, ⟨Nat.le_of_ble_eq_true rfl, Nat.le_of_ble_eq_true rfl⟩⟩ rfl (Nat.le_of_ble_eq_true rfl) rfl dL_law_100 ?_
    refine g_iconst C (pc := 103) dL_law_103 ck_iconst_0 ?_
    refine g_iload C (pc := 104) 2 dL_law_104 rfl ?_
    refine g_bipush C (pc := 106) dL_law_106 ck_bipush_8 ?_
    refine g_ishr C (pc := 108) dL_law_108 ?_
    refine g_bipush C (pc := 109) dL_law_109 ck_bipush_8 ?_
    obtain ⟨y_111, h_111, hf⟩ := k_bd hf
    refine g_callS0 C (pc := 111) (As := [.int (y_54 >>> ((8 : Int32) &&& 31)), .int (8 : Int32)]) (rest := [.int (0 : Int32), .int y_100, .int ((1 : Int32) + y_90), .ref ta.1]) (v1 := some (.int y_111)) (st' := [.int y_111, .int (0 : Int32), .int y_100, .int ((1 : Int32) + y_90), .ref ta.1]) lkL_part lSL_247 (cL_part_k (xl x) (xD x) (xy x) (y_54 >>> ((8 : Int32) &&& 31)) (8 : Int32) y_111 h_111) rfl ⟨⟨Nat.le_of_ble_eq_true rfl, Nat.le_of_ble_eq_true rfl⟩, ⟨rfl, rfl⟩, ⟨Nat.le_of_ble_eq_true rfl, Nat.le_of_ble_eq_true rfl⟩⟩ rfl (Nat.le_of_ble_eq_true rfl) rfl dL_law_111 ?_
    obtain ⟨y_114, h_114, hf⟩ := k_bd hf
    refine g_callO C (pc := 114) (As := [.int ((1 : Int32) + y_90), .int y_100, .int (0 : Int32), .int y_111]) (rest := []) (v1 := .int y_114.1) (c' := y_114.2) (st' := [.int y_114.1]) lkX10_claim lVL_101 (kC_claim (xl x) (xD x) (xy x) ta kf_78 sf zQ_78 zS y_78.2 ((1 : Int32) + y_90) y_100 (0 : Int32) y_111 y_114 hk_78 hs h_114) rfl ⟨⟨Nat.le_of_ble_eq_true rfl, Nat.le_of_ble_eq_true rfl⟩, ⟨rfl, rfl⟩, ⟨Nat.le_of_ble_eq_true rfl, Nat.le_of_ble_eq_true rfl⟩⟩ rfl rfl (Nat.le_of_ble_eq_true rfl) rfl dL_law_114 (fun kf_114 zQ_114 hk_114 => ?_)
    refine g_istore C (pc := 117) (lo' := [(8, .int y_114.1), (7, .int y_78.1), (6, .int y_63), (5, .int y_54), (0, .ref b), (1, .ref ta.1), (2, .ref qw), (3, .int a_44.1), (4, .int a_44.2.1)]) dL_law_117 N rfl rfl ?_
    refine g_iload C (pc := 119) 2 dL_law_119 rfl ?_
    refine g_if_ne C (pc := 121) 160 dL_law_121 (by decide) (fun c_121 => ?_) (fun c_121 => ?_)
    · replace hf := (k_if hf).2 c_121
      refine g_iload C (pc := 160) 2 dL_law_160 rfl ?_
      refine g_iconst C (pc := 162) dL_law_162 ck_iconst_1 ?_
      refine g_icmp_ne C (pc := 163) 181 dL_law_163 (by decide) (fun c_163 => ?_) (fun c_163 => ?_)
      · replace hf := (k_if hf).2 c_163
        refine g_iload C (pc := 181) 2 dL_law_181 rfl ?_
        refine g_iconst C (pc := 183) dL_law_183 ck_iconst_2 ?_
        refine g_icmp_eq C (pc := 184) 193 dL_law_184 (by decide) (fun c_184 => ?_) (fun c_184 => ?_)
        · replace hf := (k_if hf).1 c_184
          exact g_lo [4, 5, 6, 7, 8, 3, 1, 0] rfl (tL_law_44b193 x C N ta kf_114 sf zQ_114 zS b L sv qw y_54 y_71 y_78 y_114 a_44 o r hk_114 hs hX hbl hbA E hf kn kx kr)
        · replace hf := (k_if hf).2 c_184
          refine g_iload C (pc := 187) 2 dL_law_187 rfl ?_
          refine g_iconst C (pc := 189) dL_law_189 ck_iconst_3 ?_
          refine g_icmp_ne C (pc := 190) 249 dL_law_190 (by decide) (fun c_190 => ?_) (fun c_190 => ?_)
          · replace hf := (k_if hf).2 c_190
            refine g_iload C (pc := 249) 2 dL_law_249 rfl ?_
            refine g_iconst C (pc := 251) dL_law_251 ck_iconst_4 ?_
            refine g_icmp_ne C (pc := 252) 270 dL_law_252 (by decide) (fun c_252 => ?_) (fun c_252 => ?_)
            · replace hf := (k_if hf).2 c_252
              refine g_iload C (pc := 270) 2 dL_law_270 rfl ?_
              refine g_iconst C (pc := 272) dL_law_272 ck_iconst_5 ?_
              refine g_icmp_ne C (pc := 273) 285 dL_law_273 (by decide) (fun c_273 => ?_) (fun c_273 => ?_)
              · replace hf := (k_if hf).2 c_273
                refine g_iload C (pc := 285) 2 dL_law_285 rfl ?_
                refine g_bipush C (pc := 287) dL_law_287 ck_bipush_6 ?_
                refine g_icmp_ne C (pc := 289) 321 dL_law_289 (by decide) (fun c_289 => ?_) (fun c_289 => ?_)
                · replace hf := (k_if hf).2 c_289
                  refine g_iload C (pc := 321) 2 dL_law_321 rfl ?_
                  refine g_bipush C (pc := 323) dL_law_323 ck_bipush_7 ?_
                  refine g_icmp_ne C (pc := 325) 352 dL_law_325 (by decide) (fun c_325 => ?_) (fun c_325 => ?_)
                  · replace hf := (k_if hf).2 c_325
                    refine g_aload_n C (pc := 352) 5 dL_law_352 rfl rfl ?_
                    obtain ⟨y_353, h_353, hf⟩ := k_bd hf
                    refine g_callO C (pc := 353) (As := []) (rest := []) (v1 := .int y_353.1) (c' := y_353.2) (st' := [.int y_353.1]) lkX10_strike lVL_115 (kC_strike (xl x) (xD x) (xy x) ta kf_114 sf zQ_114 zS y_114.2  y_353 hk_114 hs h_353) rfl ⟨⟨Nat.le_of_ble_eq_true rfl, Nat.le_of_ble_eq_true rfl⟩, ⟨rfl, rfl⟩, ⟨Nat.le_of_ble_eq_true rfl, Nat.le_of_ble_eq_true rfl⟩⟩ rfl rfl (Nat.le_of_ble_eq_true rfl) rfl dL_law_353 (fun kf_353 zQ_353 hk_353 => ?_)
                    exact g_lo [4, 5, 6, 7, 8, 1] rfl (tL_law_44b356 x C N ta kf_353 sf zQ_353 zS b L sv qw y_71 y_78 y_353.1 y_353.2 a_44 o r hk_353 hs hX hbl hbA E hf kn kx kr)
                  · replace hf := (k_if hf).1 c_325
                    refine g_aload_n C (pc := 328) 5 dL_law_328 rfl rfl ?_
                    refine g_iload C (pc := 329) 3 dL_law_329 rfl ?_
                    refine g_iconst C (pc := 331) dL_law_331 ck_iconst_4 ?_
                    refine g_ishr C (pc := 332) dL_law_332 ?_
                    refine g_iconst C (pc := 333) dL_law_333 ck_iconst_2 ?_
                    obtain ⟨y_334, h_334, hf⟩ := k_bd hf
                    refine g_callS0 C (pc := 334) (As := [.int (y_54 >>> ((4 : Int32) &&& 31)), .int (2 : Int32)]) (rest := [.ref ta.1]) (v1 := some (.int y_334)) (st' := [.int y_334, .ref ta.1]) lkL_part lSL_247 (cL_part_k (xl x) (xD x) (xy x) (y_54 >>> ((4 : Int32) &&& 31)) (2 : Int32) y_334 h_334) rfl ⟨⟨Nat.le_of_ble_eq_true rfl, Nat.le_of_ble_eq_true rfl⟩, ⟨rfl, rfl⟩, ⟨Nat.le_of_ble_eq_true rfl, Nat.le_of_ble_eq_true rfl⟩⟩ rfl (Nat.le_of_ble_eq_true rfl) rfl dL_law_334 ?_
                    refine g_if_ne C (pc := 337) 344 dL_law_337 (by decide) (fun c_337 => ?_) (fun c_337 => ?_)
                    · replace hf := (k_if hf).2 c_337
                      refine g_bipush C (pc := 344) dL_law_344 ck_bipush_9 ?_
                      exact g_lo [4, 5, 6, 7, 8, 1] rfl (tL_law_44b346 x C N ta kf_114 sf zQ_114 zS b L sv qw y_71 y_78 y_114 (9 : Int32) a_44 o r hk_114 hs hX hbl hbA E hf kn kx kr)
                    · replace hf := (k_if hf).1 c_337
                      refine g_iconst C (pc := 340) dL_law_340 ck_iconst_5 ?_
                      refine g_goto C (pc := 341) (tgt := 346) dL_law_341 (by decide) ?_
                      exact g_lo [4, 5, 6, 7, 8, 1] rfl (tL_law_44b346 x C N ta kf_114 sf zQ_114 zS b L sv qw y_71 y_78 y_114 (5 : Int32) a_44 o r hk_114 hs hX hbl hbA E hf kn kx kr)
                · replace hf := (k_if hf).1 c_289
                  refine g_aload_n C (pc := 292) 5 dL_law_292 rfl rfl ?_
                  refine g_iload C (pc := 293) 3 dL_law_293 rfl ?_
                  refine g_iconst C (pc := 295) dL_law_295 ck_iconst_4 ?_
                  refine g_ishr C (pc := 296) dL_law_296 ?_
                  refine g_sipush C (pc := 297) dL_law_297 ck_sipush_1000 ?_
                  obtain ⟨y_300, h_300, hf⟩ := k_bd hf
                  refine g_callS0 C (pc := 300) (As := [.int (y_54 >>> ((4 : Int32) &&& 31)), .int (1000 : Int32)]) (rest := [.ref ta.1]) (v1 := some (.int y_300)) (st' := [.int y_300, .ref ta.1]) lkL_part lSL_247 (cL_part_k (xl x) (xD x) (xy x) (y_54 >>> ((4 : Int32) &&& 31)) (1000 : Int32) y_300 h_300) rfl ⟨⟨Nat.le_of_ble_eq_true rfl, Nat.le_of_ble_eq_true rfl⟩, ⟨rfl, rfl⟩, ⟨Nat.le_of_ble_eq_true rfl, Nat.le_of_ble_eq_true rfl⟩⟩ rfl (Nat.le_of_ble_eq_true rfl) rfl dL_law_300 ?_
                  refine g_iconst C (pc := 303) dL_law_303 ck_iconst_1 ?_
                  refine g_iload C (pc := 304) 3 dL_law_304 rfl ?_
                  refine g_bipush C (pc := 306) dL_law_306 ck_bipush_6 ?_
                  refine g_ishr C (pc := 308) dL_law_308 ?_
                  refine g_bipush C (pc := 309) dL_law_309 ck_bipush_12 ?_
                  obtain ⟨y_311, h_311, hf⟩ := k_bd hf
                  refine g_callS0 C (pc := 311) (As := [.int (y_54 >>> ((6 : Int32) &&& 31)), .int (12 : Int32)]) (rest := [.int (1 : Int32), .int y_300, .ref ta.1]) (v1 := some (.int y_311)) (st' := [.int y_311, .int (1 : Int32), .int y_300, .ref ta.1]) lkL_part lSL_247 (cL_part_k (xl x) (xD x) (xy x) (y_54 >>> ((6 : Int32) &&& 31)) (12 : Int32) y_311 h_311) rfl ⟨⟨Nat.le_of_ble_eq_true rfl, Nat.le_of_ble_eq_true rfl⟩, ⟨rfl, rfl⟩, ⟨Nat.le_of_ble_eq_true rfl, Nat.le_of_ble_eq_true rfl⟩⟩ rfl (Nat.le_of_ble_eq_true rfl) rfl dL_law_311 ?_
                  refine g_iadd C (pc := 314) dL_law_314 ?_
                  obtain ⟨y_315, h_315, hf⟩ := k_bd hf
                  refine g_callO C (pc := 315) (As := [.int y_300, .int ((1 : Int32) + y_311)]) (rest := []) (v1 := .int y_315.1) (c' := y_315.2) (st' := [.int y_315.1]) lkX10_run lVL_48 (kC_run (xl x) (xD x) (xy x) ta kf_114 sf zQ_114 zS y_114.2 y_300 ((1 : Int32) + y_311) y_315 hk_114 hs h_315) rfl ⟨⟨Nat.le_of_ble_eq_true rfl, Nat.le_of_ble_eq_true rfl⟩, ⟨rfl, rfl⟩, ⟨Nat.le_of_ble_eq_true rfl, Nat.le_of_ble_eq_true rfl⟩⟩ rfl rfl (Nat.le_of_ble_eq_true rfl) rfl dL_law_315 (fun kf_315 zQ_315 hk_315 => ?_)
                  refine g_goto C (pc := 318) (tgt := 356) dL_law_318 (by decide) ?_
                  exact g_lo [4, 5, 6, 7, 8, 1] rfl (tL_law_44b356 x C N ta kf_315 sf zQ_315 zS b L sv qw y_71 y_78 y_315.1 y_315.2 a_44 o r hk_315 hs hX hbl hbA E hf kn kx kr)
              · replace hf := (k_if hf).1 c_273
                refine g_aload_n C (pc := 276) 5 dL_law_276 rfl rfl ?_
                refine g_iload C (pc := 277) 0 dL_law_277 rfl ?_
                obtain ⟨y_279, h_279, hf⟩ := k_bd hf
                refine g_callO C (pc := 279) (As := [.int y_114.1]) (rest := []) (v1 := .int y_279.1) (c' := y_279.2) (st' := [.int y_279.1]) lkX10_candidate lVL_42 (kC_candidate (xl x) (xD x) (xy x) ta kf_114 sf zQ_114 zS y_114.2 y_114.1 y_279 hk_114 hs h_279) rfl ⟨⟨Nat.le_of_ble_eq_true rfl, Nat.le_of_ble_eq_true rfl⟩, ⟨rfl, rfl⟩, ⟨Nat.le_of_ble_eq_true rfl, Nat.le_of_ble_eq_true rfl⟩⟩ rfl rfl (Nat.le_of_ble_eq_true rfl) rfl dL_law_279 (fun kf_279 zQ_279 hk_279 => ?_)
                refine g_goto C (pc := 282) (tgt := 356) dL_law_282 (by decide) ?_
                exact g_lo [4, 5, 6, 7, 8, 1] rfl (tL_law_44b356 x C N ta kf_279 sf zQ_279 zS b L sv qw y_71 y_78 y_279.1 y_279.2 a_44 o r hk_279 hs hX hbl hbA E hf kn kx kr)
            · replace hf := (k_if hf).1 c_252
              refine g_aload_n C (pc := 255) 5 dL_law_255 rfl rfl ?_
              refine g_iload C (pc := 256) 3 dL_law_256 rfl ?_
              refine g_iconst C (pc := 258) dL_law_258 ck_iconst_4 ?_
              refine g_ishr C (pc := 259) dL_law_259 ?_
              refine g_iconst C (pc := 260) dL_law_260 ck_iconst_3 ?_
              obtain ⟨y_261, h_261, hf⟩ := k_bd hf
              refine g_callS0 C (pc := 261) (As := [.int (y_54 >>> ((4 : Int32) &&& 31)), .int (3 : Int32)]) (rest := [.ref ta.1]) (v1 := some (.int y_261)) (st' := [.int y_261, .ref ta.1]) lkL_part lSL_247 (cL_part_k (xl x) (xD x) (xy x) (y_54 >>> ((4 : Int32) &&& 31)) (3 : Int32) y_261 h_261) rfl ⟨⟨Nat.le_of_ble_eq_true rfl, Nat.le_of_ble_eq_true rfl⟩, ⟨rfl, rfl⟩, ⟨Nat.le_of_ble_eq_true rfl, Nat.le_of_ble_eq_true rfl⟩⟩ rfl (Nat.le_of_ble_eq_true rfl) rfl dL_law_261 ?_
              obtain ⟨y_264, h_264, hf⟩ := k_bd hf
              refine g_callO C (pc := 264) (As := [.int y_261]) (rest := []) (v1 := .int y_264.1) (c' := y_264.2) (st' := [.int y_264.1]) lkX10_drop lVL_39 (kC_drop (xl x) (xD x) (xy x) ta kf_114 sf zQ_114 zS y_114.2 y_261 y_264 hk_114 hs h_264) rfl ⟨⟨Nat.le_of_ble_eq_true rfl, Nat.le_of_ble_eq_true rfl⟩, ⟨rfl, rfl⟩, ⟨Nat.le_of_ble_eq_true rfl, Nat.le_of_ble_eq_true rfl⟩⟩ rfl rfl (Nat.le_of_ble_eq_true rfl) rfl dL_law_264 (fun kf_264 zQ_264 hk_264 => ?_)
              refine g_goto C (pc := 267) (tgt := 356) dL_law_267 (by decide) ?_
              exact g_lo [4, 5, 6, 7, 8, 1] rfl (tL_law_44b356 x C N ta kf_264 sf zQ_264 zS b L sv qw y_71 y_78 y_264.1 y_264.2 a_44 o r hk_264 hs hX hbl hbA E hf kn kx kr)
          · replace hf := (k_if hf).1 c_190
            exact g_lo [4, 5, 6, 7, 8, 3, 1, 0] rfl (tL_law_44b193 x C N ta kf_114 sf zQ_114 zS b L sv qw y_54 y_71 y_78 y_114 a_44 o r hk_114 hs hX hbl hbA E hf kn kx kr)
      · replace hf := (k_if hf).1 c_163
        refine g_aload_n C (pc := 166) 5 dL_law_166 rfl rfl ?_
        refine g_iload C (pc := 167) 3 dL_law_167 rfl ?_
        refine g_iconst C (pc := 169) dL_law_169 ck_iconst_4 ?_
        refine g_ishr C (pc := 170) dL_law_170 ?_
        refine g_iconst C (pc := 171) dL_law_171 ck_iconst_2 ?_
        obtain ⟨y_172, h_172, hf⟩ := k_bd hf
        refine g_callS0 C (pc := 172) (As := [.int (y_54 >>> ((4 : Int32) &&& 31)), .int (2 : Int32)]) (rest := [.ref ta.1]) (v1 := some (.int y_172)) (st' := [.int y_172, .ref ta.1]) lkL_part lSL_247 (cL_part_k (xl x) (xD x) (xy x) (y_54 >>> ((4 : Int32) &&& 31)) (2 : Int32) y_172 h_172) rfl ⟨⟨Nat.le_of_ble_eq_true rfl, Nat.le_of_ble_eq_true rfl⟩, ⟨rfl, rfl⟩, ⟨Nat.le_of_ble_eq_true rfl, Nat.le_of_ble_eq_true rfl⟩⟩ rfl (Nat.le_of_ble_eq_true rfl) rfl dL_law_172 ?_
        obtain ⟨y_175, h_175, hf⟩ := k_bd hf
        refine g_callO C (pc := 175) (As := [.int y_172]) (rest := []) (v1 := .int y_175.1) (c' := y_175.2) (st' := [.int y_175.1]) lkX10_wrap lVL_32 (kC_wrap (xl x) (xD x) (xy x) ta kf_114 sf zQ_114 zS y_114.2 y_172 y_175 hk_114 hs h_175) rfl ⟨⟨Nat.le_of_ble_eq_true rfl, Nat.le_of_ble_eq_true rfl⟩, ⟨rfl, rfl⟩, ⟨Nat.le_of_ble_eq_true rfl, Nat.le_of_ble_eq_true rfl⟩⟩ rfl rfl (Nat.le_of_ble_eq_true rfl) rfl dL_law_175 (fun kf_175 zQ_175 hk_175 => ?_)
        refine g_goto C (pc := 178) (tgt := 356) dL_law_178 (by decide) ?_
        exact g_lo [4, 5, 6, 7, 8, 1] rfl (tL_law_44b356 x C N ta kf_175 sf zQ_175 zS b L sv qw y_71 y_78 y_175.1 y_175.2 a_44 o r hk_175 hs hX hbl hbA E hf kn kx kr)
    · replace hf := (k_if hf).1 c_121
      refine g_aload_n C (pc := 124) 5 dL_law_124 rfl rfl ?_
      refine g_iload C (pc := 125) 3 dL_law_125 rfl ?_
      refine g_iconst C (pc := 127) dL_law_127 ck_iconst_4 ?_
      refine g_ishr C (pc := 128) dL_law_128 ?_
      refine g_bipush C (pc := 129) dL_law_129 ck_bipush_8 ?_
      obtain ⟨y_131, h_131, hf⟩ := k_bd hf
      refine g_callS0 C (pc := 131) (As := [.int (y_54 >>> ((4 : Int32) &&& 31)), .int (8 : Int32)]) (rest := [.ref ta.1]) (v1 := some (.int y_131)) (st' := [.int y_131, .ref ta.1]) lkL_part lSL_247 (cL_part_k (xl x) (xD x) (xy x) (y_54 >>> ((4 : Int32) &&& 31)) (8 : Int32) y_131 h_131) rfl ⟨⟨Nat.le_of_ble_eq_true rfl, Nat.le_of_ble_eq_true rfl⟩, ⟨rfl, rfl⟩, ⟨Nat.le_of_ble_eq_true rfl, Nat.le_of_ble_eq_true rfl⟩⟩ rfl (Nat.le_of_ble_eq_true rfl) rfl dL_law_131 ?_
      refine g_iload C (pc := 134) 3 dL_law_134 rfl ?_
      refine g_bipush C (pc := 136) dL_law_136 ck_bipush_7 ?_
      refine g_ishr C (pc := 138) dL_law_138 ?_
      refine g_bipush C (pc := 139) dL_law_139 ck_bipush_8 ?_
      obtain ⟨y_141, h_141, hf⟩ := k_bd hf
      refine g_callS0 C (pc := 141) (As := [.int (y_54 >>> ((7 : Int32) &&& 31)), .int (8 : Int32)]) (rest := [.int y_131, .ref ta.1]) (v1 := some (.int y_141)) (st' := [.int y_141, .int y_131, .ref ta.1]) lkL_part lSL_247 (cL_part_k (xl x) (xD x) (xy x) (y_54 >>> ((7 : Int32) &&& 31)) (8 : Int32) y_141 h_141) rfl ⟨⟨Nat.le_of_ble_eq_true rfl, Nat.le_of_ble_eq_true rfl⟩, ⟨rfl, rfl⟩, ⟨Nat.le_of_ble_eq_true rfl, Nat.le_of_ble_eq_true rfl⟩⟩ rfl (Nat.le_of_ble_eq_true rfl) rfl dL_law_141 ?_
      refine g_iload C (pc := 144) 3 dL_law_144 rfl ?_
      refine g_bipush C (pc := 146) dL_law_146 ck_bipush_10 ?_
      refine g_ishr C (pc := 148) dL_law_148 ?_
      refine g_bipush C (pc := 149) dL_law_149 ck_bipush_8 ?_
      obtain ⟨y_151, h_151, hf⟩ := k_bd hf
      refine g_callS0 C (pc := 151) (As := [.int (y_54 >>> ((10 : Int32) &&& 31)), .int (8 : Int32)]) (rest := [.int y_141, .int y_131, .ref ta.1]) (v1 := some (.int y_151)) (st' := [.int y_151, .int y_141, .int y_131, .ref ta.1]) lkL_part lSL_247 (cL_part_k (xl x) (xD x) (xy x) (y_54 >>> ((10 : Int32) &&& 31)) (8 : Int32) y_151 h_151) rfl ⟨⟨Nat.le_of_ble_eq_true rfl, Nat.le_of_ble_eq_true rfl⟩, ⟨rfl, rfl⟩, ⟨Nat.le_of_ble_eq_true rfl, Nat.le_of_ble_eq_true rfl⟩⟩ rfl (Nat.le_of_ble_eq_true rfl) rfl dL_law_151 ?_
      obtain ⟨y_154, h_154, hf⟩ := k_bd hf
      refine g_callO C (pc := 154) (As := [.int y_131, .int y_141, .int y_151]) (rest := []) (v1 := .int y_154.1) (c' := y_154.2) (st' := [.int y_154.1]) lkX10_start lVL_26 (kC_start (xl x) (xD x) (xy x) ta kf_114 sf zQ_114 zS y_114.2 y_131 y_141 y_151 y_154 hk_114 hs h_154) rfl ⟨⟨Nat.le_of_ble_eq_true rfl, Nat.le_of_ble_eq_true rfl⟩, ⟨rfl, rfl⟩, ⟨Nat.le_of_ble_eq_true rfl, Nat.le_of_ble_eq_true rfl⟩⟩ rfl rfl (Nat.le_of_ble_eq_true rfl) rfl dL_law_154 (fun kf_154 zQ_154 hk_154 => ?_)
      refine g_goto C (pc := 157) (tgt := 356) dL_law_157 (by decide) ?_
      exact g_lo [4, 5, 6, 7, 8, 1] rfl (tL_law_44b356 x C N ta kf_154 sf zQ_154 zS b L sv qw y_71 y_78 y_154.1 y_154.2 a_44 o r hk_154 hs hX hbl hbA E hf kn kx kr)
def gL_law_478 (e_44 : Int32 × Int32 × CS × (Nat → Int64)) (y_409 : Int64 × CS) (a_478 : Int32 × CS) : Option ((Int32 × CS) ⊕ ((Int32 × CS) ⊕ (Int32))) :=
  bd (oC_count a_478.2 (12 : Int32)) fun y_481 : Int32 × CS => if y_481.1 ≤ 0 then some (.inr (.inl (a_478.1, y_481.2))) else if (6 : Int32) < a_478.1 then some (.inr (.inr (0 : Int32))) else bd (fL_seen y_481.2) fun y_495 : Int64 × CS => gd (gi (e_44.1 - a_478.1) 64) (if (lg_cmp y_495.1 ((vp_updL e_44.2.2.2 (ix e_44.1) y_409.1) (ix (e_44.1 - a_478.1)))) = 0 then bd (oC_undo y_495.2) fun y_509 : Int32 × CS => if 0 ≤ y_509.1 then some (.inl (a_478.1 + 1, y_509.2)) else some (.inr (.inr (0 : Int32))) else some (.inr (.inr (0 : Int32))))
set_option maxRecDepth 100000 in
set_option maxHeartbeats 4000000 in
theorem bL_law_478 (x : GX) (C : GC x cL_law RL room_1) (N : xn x = 10) (ta : TA) (kf : Nat → Option Nat) (sf : Nat → Option Nat) (zQ : Nat → Nat → Nat) (zS : Nat → Nat → Nat) (b : Nat) (L : Nat) (sv : Nat → Int32) (qw : Nat) (e_44 : Int32 × Int32 × CS × (Nat → Int64)) (y_409 : Int64 × CS) (y_443 : Int32 × CS) (a_478 : Int32 × CS) (o : Int32) (r : (Int32 × CS) ⊕ ((Int32 × CS) ⊕ (Int32))) (hk : HK kf zQ) (hs : HS sf zS) (hX : va_X b L sv (xs x) (xs x).heap) (hbl : b < (xs x).heap.size) (hbA : ¬ xA x b) (E : ∀ (ws : va_W) (lo : List (Nat × Value)) (pc : Nat), decode cL_law pc = .ok (.ireturn, 1) → GW x 6359 305996 ws lo pc [.int o]) (hf : gL_law_478 e_44 y_409 a_478 = some r) (kn : ∀ e : Int32 × CS, r = .inl e → ∀ (kf : Nat → Option Nat) (zQ : Nat → Nat → Nat), HK kf zQ → GW x 6359 305996 (tkw (xy x) ta kf sf zQ zS e.2 ++ [(qw, .inl ((xy x) 1, 64, .inr (.inl (vp_updL e_44.2.2.2 (ix e_44.1) y_409.1))))]) [(1, .ref ta.1), (2, .ref qw), (3, .int e_44.1), (4, .int y_443.1), (5, .int e.1)] 478 []) (kx : ∀ e : Int32 × CS, r = .inr (.inl e) → ∀ (kf : Nat → Option Nat) (zQ : Nat → Nat → Nat), HK kf zQ → GW x 6359 305996 (tkw (xy x) ta kf sf zQ zS e.2 ++ [(qw, .inl ((xy x) 1, 64, .inr (.inl (vp_updL e_44.2.2.2 (ix e_44.1) y_409.1))))]) [(1, .ref ta.1), (4, .int y_443.1)] 523 []) (kr : ∀ o' : Int32, r = .inr (.inr o') → o' = o) : GW x 6359 305996 (tkw (xy x) ta kf sf zQ zS a_478.2 ++ [(qw, .inl ((xy x) 1, 64, .inr (.inl (vp_updL e_44.2.2.2 (ix e_44.1) y_409.1))))]) [(1, .ref ta.1), (2, .ref qw), (3, .int e_44.1), (4, .int y_443.1), (5, .int a_478.1)] 478 [] := by
  unfold gL_law_478 at hf
  refine g_aload_n C (pc := 478) 0 dL_law_478 rfl rfl ?_
  refine g_bipush C (pc := 479) dL_law_479 ck_bipush_12 ?_
  obtain ⟨y_481, h_481, hf⟩ := k_bd hf
  refine g_callO C (pc := 481) (As := [.int (12 : Int32)]) (rest := []) (v1 := .int y_481.1) (c' := y_481.2) (st' := [.int y_481.1]) lkX10_count lVL_13 (kC_count (xl x) (xD x) (xy x) ta kf sf zQ zS a_478.2 (12 : Int32) y_481 hk hs h_481) rfl ⟨⟨Nat.le_of_ble_eq_true rfl, Nat.le_of_ble_eq_true rfl⟩, ⟨rfl, rfl⟩, ⟨Nat.le_of_ble_eq_true rfl, Nat.le_of_ble_eq_true rfl⟩⟩ rfl rfl (Nat.le_of_ble_eq_true rfl) rfl dL_law_481 (fun kf_481 zQ_481 hk_481 => ?_)
  refine g_if_le C (pc := 484) 523 dL_law_484 (by decide) (fun c_484 => ?_) (fun c_484 => ?_)
  · replace hf := (k_if hf).1 c_484
    cases hf
    exact g_lo [0, 3] rfl (kx (a_478.1, y_481.2) rfl kf_481 zQ_481 hk_481)
  · replace hf := (k_if hf).2 c_484
    refine g_iload C (pc := 487) 4 dL_law_487 rfl ?_
    refine g_bipush C (pc := 489) dL_law_489 ck_bipush_6 ?_
    refine g_icmp_gt C (pc := 491) 515 dL_law_491 (by decide) (fun c_491 => ?_) (fun c_491 => ?_)
    · replace hf := (k_if hf).1 c_491
      refine g_iconst C (pc := 515) dL_law_515 ck_iconst_0 ?_
      cases hf
      have ho := kr _ rfl
      cases ho
      exact g_wid (Nat.le_of_ble_eq_true rfl) (Nat.le_of_ble_eq_true rfl) (E _ _ 516 dL_law_516)
    · replace hf := (k_if hf).2 c_491
      refine g_aload_n C (pc := 494) 0 dL_law_494 rfl rfl ?_
      obtain ⟨y_495, h_495, hf⟩ := k_bd hf
      refine g_callOS C (pc := 495) (As := [.ref ta.1]) (rest := []) (v1 := .long y_495.1) (c' := y_495.2) (st' := [.long y_495.1]) lkL_seen lSL_92 (cL_seen_k (xl x) (xD x) (xy x) ta kf_481 sf zQ_481 zS y_481.2 y_495 hk_481 hs h_495) rfl ⟨⟨Nat.le_of_ble_eq_true rfl, Nat.le_of_ble_eq_true rfl⟩, ⟨rfl, rfl⟩, ⟨Nat.le_of_ble_eq_true rfl, Nat.le_of_ble_eq_true rfl⟩⟩ rfl (Nat.le_of_ble_eq_true rfl) rfl dL_law_495 (fun kf_495 zQ_495 hk_495 => ?_)
      refine g_aload_n C (pc := 498) 1 dL_law_498 rfl rfl ?_
      refine g_iload_n C (pc := 499) 2 dL_law_499 rfl rfl ?_
      refine g_iload C (pc := 500) 4 dL_law_500 rfl ?_
      refine g_isub C (pc := 502) dL_law_502 ?_
      obtain ⟨i_503, hf⟩ := k_gd hf
      refine g_laldT C (pc := 503) i_503 dL_law_503 ?_
      refine g_lcmp C (pc := 504) dL_law_504 ?_
      refine g_if_ne C (pc := 505) 515 dL_law_505 (by decide) (fun c_505 => ?_) (fun c_505 => ?_)
      · replace hf := (k_if hf).2 c_505
        refine g_iconst C (pc := 515) dL_law_515 ck_iconst_0 ?_
        cases hf
        have ho := kr _ rfl
        cases ho
        exact g_wid (Nat.le_of_ble_eq_true rfl) (Nat.le_of_ble_eq_true rfl) (E _ _ 516 dL_law_516)
      · replace hf := (k_if hf).1 c_505
        refine g_aload_n C (pc := 508) 0 dL_law_508 rfl rfl ?_
        obtain ⟨y_509, h_509, hf⟩ := k_bd hf
        refine g_callO C (pc := 509) (As := []) (rest := []) (v1 := .int y_509.1) (c' := y_509.2) (st' := [.int y_509.1]) lkX10_undo lVL_105 (kC_undo (xl x) (xD x) (xy x) ta kf_495 sf zQ_495 zS y_495.2  y_509 hk_495 hs h_509) rfl ⟨⟨Nat.le_of_ble_eq_true rfl, Nat.le_of_ble_eq_true rfl⟩, ⟨rfl, rfl⟩, ⟨Nat.le_of_ble_eq_true rfl, Nat.le_of_ble_eq_true rfl⟩⟩ rfl rfl (Nat.le_of_ble_eq_true rfl) rfl dL_law_509 (fun kf_509 zQ_509 hk_509 => ?_)
        refine g_if_ge C (pc := 512) 517 dL_law_512 (by decide) (fun c_512 => ?_) (fun c_512 => ?_)
        · replace hf := (k_if hf).1 c_512
          refine g_iinc C (pc := 517) (v := a_478.1 + 1) (lo' := [(5, .int (a_478.1 + 1)), (1, .ref ta.1), (2, .ref qw), (3, .int e_44.1), (4, .int y_443.1)]) 4 dL_law_517 rfl (congrArg (HAdd.hAdd _) ck_iinc_1) N rfl rfl ?_
          refine g_goto C (pc := 520) (tgt := 478) dL_law_520 (by decide) ?_
          cases hf
          exact g_lo [1, 2, 3, 4, 0] rfl (kn (a_478.1 + 1, y_509.2) rfl kf_509 zQ_509 hk_509)
        · replace hf := (k_if hf).2 c_512
          refine g_iconst C (pc := 515) dL_law_515 ck_iconst_0 ?_
          cases hf
          have ho := kr _ rfl
          cases ho
          exact g_wid (Nat.le_of_ble_eq_true rfl) (Nat.le_of_ble_eq_true rfl) (E _ _ 516 dL_law_516)
def gL_law_565  (a_565 : CS) : Option ((CS) ⊕ ((CS) ⊕ (Int32))) :=
  bd (oC_count a_565 (0 : Int32)) fun y_567 : Int32 × CS => if (8 : Int32) ≤ y_567.1 then some (.inr (.inl y_567.2)) else bd (oC_step y_567.2 (7 : Int32) (0 : Int32) (0 : Int32) (0 : Int32) (0 : Int32)) fun y_582 : Int32 × CS => if 0 ≤ y_582.1 then some (.inl y_582.2) else some (.inr (.inr (0 : Int32)))
set_option maxRecDepth 100000 in
set_option maxHeartbeats 4000000 in
theorem bL_law_565 (x : GX) (C : GC x cL_law RL room_1) (N : xn x = 10) (ta : TA) (kf : Nat → Option Nat) (sf : Nat → Option Nat) (zQ : Nat → Nat → Nat) (zS : Nat → Nat → Nat) (b : Nat) (L : Nat) (sv : Nat → Int32) (qw : Nat) (e_44 : Int32 × Int32 × CS × (Nat → Int64)) (y_409 : Int64 × CS) (a_565 : CS) (o : Int32) (r : (CS) ⊕ ((CS) ⊕ (Int32))) (hk : HK kf zQ) (hs : HS sf zS) (hX : va_X b L sv (xs x) (xs x).heap) (hbl : b < (xs x).heap.size) (hbA : ¬ xA x b) (E : ∀ (ws : va_W) (lo : List (Nat × Value)) (pc : Nat), decode cL_law pc = .ok (.ireturn, 1) → GW x 6359 305996 ws lo pc [.int o]) (hf : gL_law_565 a_565 = some r) (kn : ∀ e : CS, r = .inl e → ∀ (kf : Nat → Option Nat) (zQ : Nat → Nat → Nat), HK kf zQ → GW x 6359 305996 (tkw (xy x) ta kf sf zQ zS e ++ [(qw, .inl ((xy x) 1, 64, .inr (.inl (vp_updL e_44.2.2.2 (ix e_44.1) y_409.1))))]) [(1, .ref ta.1)] 565 []) (kx : ∀ e : CS, r = .inr (.inl e) → ∀ (kf : Nat → Option Nat) (zQ : Nat → Nat → Nat), HK kf zQ → GW x 6359 305996 (tkw (xy x) ta kf sf zQ zS e ++ [(qw, .inl ((xy x) 1, 64, .inr (.inl (vp_updL e_44.2.2.2 (ix e_44.1) y_409.1))))]) [(1, .ref ta.1)] 590 []) (kr : ∀ o' : Int32, r = .inr (.inr o') → o' = o) : GW x 6359 305996 (tkw (xy x) ta kf sf zQ zS a_565 ++ [(qw, .inl ((xy x) 1, 64, .inr (.inl (vp_updL e_44.2.2.2 (ix e_44.1) y_409.1))))]) [(1, .ref ta.1)] 565 [] := by
  unfold gL_law_565 at hf
  refine g_aload_n C (pc := 565) 0 dL_law_565 rfl rfl ?_
  refine g_iconst C (pc := 566) dL_law_566 ck_iconst_0 ?_
  obtain ⟨y_567, h_567, hf⟩ := k_bd hf
  refine g_callO C (pc := 567) (As := [.int (0 : Int32)]) (rest := []) (v1 := .int y_567.1) (c' := y_567.2) (st' := [.int y_567.1]) lkX10_count lVL_13 (kC_count (xl x) (xD x) (xy x) ta kf sf zQ zS a_565 (0 : Int32) y_567 hk hs h_567) rfl ⟨⟨Nat.le_of_ble_eq_true rfl, Nat.le_of_ble_eq_true rfl⟩, ⟨rfl, rfl⟩, ⟨Nat.le_of_ble_eq_true rfl, Nat.le_of_ble_eq_true rfl⟩⟩ rfl rfl (Nat.le_of_ble_eq_true rfl) rfl dL_law_567 (fun kf_567 zQ_567 hk_567 => ?_)
  refine g_bipush C (pc := 570) dL_law_570 ck_bipush_8 ?_
  refine g_icmp_ge C (pc := 572) 590 dL_law_572 (by decide) (fun c_572 => ?_) (fun c_572 => ?_)
  · replace hf := (k_if hf).1 c_572
    cases hf
    exact kx y_567.2 rfl kf_567 zQ_567 hk_567
  · replace hf := (k_if hf).2 c_572
    refine g_aload_n C (pc := 575) 0 dL_law_575 rfl rfl ?_
    refine g_bipush C (pc := 576) dL_law_576 ck_bipush_7 ?_
    refine g_iconst C (pc := 578) dL_law_578 ck_iconst_0 ?_
    refine g_iconst C (pc := 579) dL_law_579 ck_iconst_0 ?_
    refine g_iconst C (pc := 580) dL_law_580 ck_iconst_0 ?_
    refine g_iconst C (pc := 581) dL_law_581 ck_iconst_0 ?_
    obtain ⟨y_582, h_582, hf⟩ := k_bd hf
    refine g_callO C (pc := 582) (As := [.int (7 : Int32), .int (0 : Int32), .int (0 : Int32), .int (0 : Int32), .int (0 : Int32)]) (rest := []) (v1 := .int y_582.1) (c' := y_582.2) (st' := [.int y_582.1]) lkX10_step lVL_35 (kC_step (xl x) (xD x) (xy x) ta kf_567 sf zQ_567 zS y_567.2 (7 : Int32) (0 : Int32) (0 : Int32) (0 : Int32) (0 : Int32) y_582 hk_567 hs h_582) rfl ⟨⟨Nat.le_of_ble_eq_true rfl, Nat.le_of_ble_eq_true rfl⟩, ⟨rfl, rfl⟩, ⟨Nat.le_of_ble_eq_true rfl, Nat.le_of_ble_eq_true rfl⟩⟩ rfl rfl (Nat.le_of_ble_eq_true rfl) rfl dL_law_582 (fun kf_582 zQ_582 hk_582 => ?_)
    refine g_if_ge C (pc := 585) 565 dL_law_585 (by decide) (fun c_585 => ?_) (fun c_585 => ?_)
    · replace hf := (k_if hf).1 c_585
      cases hf
      exact kn y_582.2 rfl kf_582 zQ_582 hk_582
    · replace hf := (k_if hf).2 c_585
      refine g_iconst C (pc := 588) dL_law_588 ck_iconst_0 ?_
      cases hf
      have ho := kr _ rfl
      cases ho
      exact g_wid (Nat.le_of_ble_eq_true rfl) (Nat.le_of_ble_eq_true rfl) (E _ _ 589 dL_law_589)
def gL_law_595  (a_595 : Int32 × CS) : Option ((Int32 × CS) ⊕ ((Int32 × CS) ⊕ (Int32))) :=
  if (1350 : Int32) ≤ a_595.1 then some (.inr (.inl (a_595.1, a_595.2))) else bd (oC_count a_595.2 (1 : Int32)) fun y_605 : Int32 × CS => if (40 : Int32) ≤ y_605.1 then some (.inr (.inl (a_595.1, y_605.2))) else bd (oC_candidate y_605.2 a_595.1) fun y_616 : Int32 × CS => if 0 ≤ y_616.1 then some (.inl (a_595.1 + 1, y_616.2)) else if y_616.1 = (-2 : Int32) then some (.inl (a_595.1 + 1, y_616.2)) else if y_616.1 = (-5 : Int32) then some (.inl (a_595.1 + 1, y_616.2)) else some (.inr (.inr (0 : Int32)))
set_option maxRecDepth 100000 in
set_option maxHeartbeats 4000000 in
theorem bL_law_595 (x : GX) (C : GC x cL_law RL room_1) (N : xn x = 10) (ta : TA) (kf : Nat → Option Nat) (sf : Nat → Option Nat) (zQ : Nat → Nat → Nat) (zS : Nat → Nat → Nat) (b : Nat) (L : Nat) (sv : Nat → Int32) (qw : Nat) (e_44 : Int32 × Int32 × CS × (Nat → Int64)) (y_409 : Int64 × CS) (a_595 : Int32 × CS) (o : Int32) (r : (Int32 × CS) ⊕ ((Int32 × CS) ⊕ (Int32))) (hk : HK kf zQ) (hs : HS sf zS) (hX : va_X b L sv (xs x) (xs x).heap) (hbl : b < (xs x).heap.size) (hbA : ¬ xA x b) (E : ∀ (ws : va_W) (lo : List (Nat × Value)) (pc : Nat), decode cL_law pc = .ok (.ireturn, 1) → GW x 6359 305996 ws lo pc [.int o]) (hf : gL_law_595 a_595 = some r) (kn : ∀ e : Int32 × CS, r = .inl e → ∀ (kf : Nat → Option Nat) (zQ : Nat → Nat → Nat), HK kf zQ → GW x 6359 305996 (tkw (xy x) ta kf sf zQ zS e.2 ++ [(qw, .inl ((xy x) 1, 64, .inr (.inl (vp_updL e_44.2.2.2 (ix e_44.1) y_409.1))))]) [(1, .ref ta.1), (5, .int e.1)] 595 []) (kx : ∀ e : Int32 × CS, r = .inr (.inl e) → ∀ (kf : Nat → Option Nat) (zQ : Nat → Nat → Nat), HK kf zQ → GW x 6359 305996 (tkw (xy x) ta kf sf zQ zS e.2 ++ [(qw, .inl ((xy x) 1, 64, .inr (.inl (vp_updL e_44.2.2.2 (ix e_44.1) y_409.1))))]) [(1, .ref ta.1)] 648 []) (kr : ∀ o' : Int32, r = .inr (.inr o') → o' = o) : GW x 6359 305996 (tkw (xy x) ta kf sf zQ zS a_595.2 ++ [(qw, .inl ((xy x) 1, 64, .inr (.inl (vp_updL e_44.2.2.2 (ix e_44.1) y_409.1))))]) [(1, .ref ta.1), (5, .int a_595.1)] 595 [] := by
  unfold gL_law_595 at hf
  refine g_iload C (pc := 595) 1 dL_law_595 rfl ?_
  refine g_sipush C (pc := 597) dL_law_597 ck_sipush_1350 ?_
  refine g_icmp_ge C (pc := 600) 648 dL_law_600 (by decide) (fun c_600 => ?_) (fun c_600 => ?_)
  · replace hf := (k_if hf).1 c_600
    cases hf
    exact g_lo [0] rfl (kx (a_595.1, a_595.2) rfl kf zQ hk)
  · replace hf := (k_if hf).2 c_600
    refine g_aload_n C (pc := 603) 0 dL_law_603 rfl rfl ?_
    refine g_iconst C (pc := 604) dL_law_604 ck_iconst_1 ?_
    obtain ⟨y_605, h_605, hf⟩ := k_bd hf
    refine g_callO C (pc := 605) (As := [.int (1 : Int32)]) (rest := []) (v1 := .int y_605.1) (c' := y_605.2) (st' := [.int y_605.1]) lkX10_count lVL_13 (kC_count (xl x) (xD x) (xy x) ta kf sf zQ zS a_595.2 (1 : Int32) y_605 hk hs h_605) rfl ⟨⟨Nat.le_of_ble_eq_true rfl, Nat.le_of_ble_eq_true rfl⟩, ⟨rfl, rfl⟩, ⟨Nat.le_of_ble_eq_true rfl, Nat.le_of_ble_eq_true rfl⟩⟩ rfl rfl (Nat.le_of_ble_eq_true rfl) rfl dL_law_605 (fun kf_605 zQ_605 hk_605 => ?_)
    refine g_bipush C (pc := 608) dL_law_608 ck_bipush_40 ?_
    refine g_icmp_ge C (pc := 610) 648 dL_law_610 (by decide) (fun c_610 => ?_) (fun c_610 => ?_)
    · replace hf := (k_if hf).1 c_610
      cases hf
      exact g_lo [0] rfl (kx (a_595.1, y_605.2) rfl kf_605 zQ_605 hk_605)
    · replace hf := (k_if hf).2 c_610
      refine g_aload_n C (pc := 613) 0 dL_law_613 rfl rfl ?_
      refine g_iload C (pc := 614) 1 dL_law_614 rfl ?_
      obtain ⟨y_616, h_616, hf⟩ := k_bd hf
      refine g_callO C (pc := 616) (As := [.int a_595.1]) (rest := []) (v1 := .int y_616.1) (c' := y_616.2) (st' := [.int y_616.1]) lkX10_candidate lVL_42 (kC_candidate (xl x) (xD x) (xy x) ta kf_605 sf zQ_605 zS y_605.2 a_595.1 y_616 hk_605 hs h_616) rfl ⟨⟨Nat.le_of_ble_eq_true rfl, Nat.le_of_ble_eq_true rfl⟩, ⟨rfl, rfl⟩, ⟨Nat.le_of_ble_eq_true rfl, Nat.le_of_ble_eq_true rfl⟩⟩ rfl rfl (Nat.le_of_ble_eq_true rfl) rfl dL_law_616 (fun kf_616 zQ_616 hk_616 => ?_)
      refine g_istore C (pc := 619) (lo' := [(6, .int y_616.1), (1, .ref ta.1), (5, .int a_595.1)]) dL_law_619 N rfl rfl ?_
      refine g_iload C (pc := 621) 0 dL_law_621 rfl ?_
      refine g_if_ge C (pc := 623) 642 dL_law_623 (by decide) (fun c_623 => ?_) (fun c_623 => ?_)
      · replace hf := (k_if hf).1 c_623
        refine g_iinc C (pc := 642) (v := a_595.1 + 1) (lo' := [(5, .int (a_595.1 + 1)), (6, .int y_616.1), (1, .ref ta.1)]) 2 dL_law_642 rfl (congrArg (HAdd.hAdd _) ck_iinc_1) N rfl rfl ?_
        refine g_goto C (pc := 645) (tgt := 595) dL_law_645 (by decide) ?_
        cases hf
        exact g_lo [2, 0] rfl (kn (a_595.1 + 1, y_616.2) rfl kf_616 zQ_616 hk_616)
      · replace hf := (k_if hf).2 c_623
        refine g_iload C (pc := 626) 0 dL_law_626 rfl ?_
        refine g_bipush C (pc := 628) dL_law_628 ck_bipush_m2 ?_
        refine g_icmp_eq C (pc := 630) 642 dL_law_630 (by decide) (fun c_630 => ?_) (fun c_630 => ?_)
        · replace hf := (k_if hf).1 c_630
          refine g_iinc C (pc := 642) (v := a_595.1 + 1) (lo' := [(5, .int (a_595.1 + 1)), (6, .int y_616.1), (1, .ref ta.1)]) 2 dL_law_642 rfl (congrArg (HAdd.hAdd _) ck_iinc_1) N rfl rfl ?_
          refine g_goto C (pc := 645) (tgt := 595) dL_law_645 (by decide) ?_
          cases hf
          exact g_lo [2, 0] rfl (kn (a_595.1 + 1, y_616.2) rfl kf_616 zQ_616 hk_616)
        · replace hf := (k_if hf).2 c_630
          refine g_iload C (pc := 633) 0 dL_law_633 rfl ?_
          refine g_bipush C (pc := 635) dL_law_635 ck_bipush_m5 ?_
          refine g_icmp_eq C (pc := 637) 642 dL_law_637 (by decide) (fun c_637 => ?_) (fun c_637 => ?_)
          · replace hf := (k_if hf).1 c_637
            refine g_iinc C (pc := 642) (v := a_595.1 + 1) (lo' := [(5, .int (a_595.1 + 1)), (6, .int y_616.1), (1, .ref ta.1)]) 2 dL_law_642 rfl (congrArg (HAdd.hAdd _) ck_iinc_1) N rfl rfl ?_
            refine g_goto C (pc := 645) (tgt := 595) dL_law_645 (by decide) ?_
            cases hf
            exact g_lo [2, 0] rfl (kn (a_595.1 + 1, y_616.2) rfl kf_616 zQ_616 hk_616)
          · replace hf := (k_if hf).2 c_637
            refine g_iconst C (pc := 640) dL_law_640 ck_iconst_0 ?_
            cases hf
            have ho := kr _ rfl
            cases ho
            exact g_wid (Nat.le_of_ble_eq_true rfl) (Nat.le_of_ble_eq_true rfl) (E _ _ 641 dL_law_641)
set_option maxRecDepth 100000 in
def fL_law (L : Nat) (sv : Nat → Int32) : Option (Int32) :=
  bd (fL_codes) fun y_0 : Int32 => if y_0 = 0 then some (0 : Int32) else bd (fL_counts) fun y_6 : Int32 => if y_6 = 0 then some (0 : Int32) else bd (fL_texts) fun y_12 : Int32 => if y_12 = 0 then some (0 : Int32) else bd (fL_carried) fun y_18 : Int32 => if y_18 = 0 then some (0 : Int32) else bd newC fun y_30 : CS => bd (iter (gL_law_44 L sv) FU ((0 : Int32), (0 : Int32), y_30, (fun _ => (0 : Int64)))) fun b_44 : (Int32 × Int32 × CS × (Nat → Int64)) ⊕ (Int32) => Sum.elim (fun e_44 : Int32 × Int32 × CS × (Nat → Int64) => bd (fL_seen e_44.2.2.1) fun y_409 : Int64 × CS => gd (gi e_44.1 64) (bd (oC_start y_409.2 (0 : Int32) (0 : Int32) (7 : Int32)) fun y_418 : Int32 × CS => if y_418.1 < 0 then some (0 : Int32) else bd (oC_wrap y_418.2 (0 : Int32)) fun y_426 : Int32 × CS => if y_426.1 < 0 then some (0 : Int32) else bd (fL_refused y_426.2) fun y_433 : Int32 × CS => if y_433.1 = 0 then some (0 : Int32) else bd (oC_count y_433.2 (2 : Int32)) fun y_443 : Int32 × CS => bd (oC_save y_443.2 (0 : Int32)) fun y_450 : Int32 × CS => if y_450.1 = y_443.1 then bd (oC_undo y_450.2) fun y_459 : Int32 × CS => if y_459.1 < (1 : Int32) then some (0 : Int32) else bd (oC_undo y_459.2) fun y_467 : Int32 × CS => if 0 ≤ y_467.1 then bd (iter (gL_law_478 e_44 y_409) FU ((0 : Int32), y_467.2)) fun b_478 : (Int32 × CS) ⊕ (Int32) => Sum.elim (fun e_478 : Int32 × CS => bd (oC_undo e_478.2) fun y_524 : Int32 × CS => if y_524.1 = (-5 : Int32) then bd (oC_restore y_524.2 (0 : Int32)) fun y_534 : Int32 × CS => if y_534.1 = y_443.1 then bd (oC_count y_534.2 (6 : Int32)) fun y_545 : Int32 × CS => if y_545.1 = (7 : Int32) then bd (oC_count y_545.2 (12 : Int32)) fun y_556 : Int32 × CS => if y_556.1 = (1 : Int32) then bd (iter gL_law_565 FU y_556.2) fun b_565 : (CS) ⊕ (Int32) => Sum.elim (fun e_565 : CS => bd (iter gL_law_595 FU ((945 : Int32), e_565)) fun b_595 : (Int32 × CS) ⊕ (Int32) => Sum.elim (fun e_595 : Int32 × CS => jL_law_648 e_595) (fun o_595 : Int32 => some o_595) b_595) (fun o_565 : Int32 => some o_565) b_565 else some (0 : Int32) else some (0 : Int32) else some (0 : Int32) else some (0 : Int32)) (fun o_478 : Int32 => some o_478) b_478 else some (0 : Int32) else some (0 : Int32))) (fun o_44 : Int32 => some o_44) b_44
set_option maxRecDepth 100000 in
set_option maxHeartbeats 4000000 in
theorem eL_law (x : GX) (C : GC x cL_law RL room_1) (N : xn x = 10) (b : Nat) (L : Nat) (sv : Nat → Int32) (o : Int32) (hX : va_X b L sv (xs x) (xs x).heap) (hbl : b < (xs x).heap.size) (hbA : ¬ xA x b) (E : ∀ (ws : va_W) (lo : List (Nat × Value)) (pc : Nat), decode cL_law pc = .ok (.ireturn, 1) → GW x 6359 305996 ws lo pc [.int o]) (hf : fL_law L sv = some o)  : GW x 0 0 [] [(0, .ref b)] 0 [] := by
  unfold fL_law at hf
  obtain ⟨y_0, h_0, hf⟩ := k_bd hf
  refine g_callN C (pc := 0) (mc := 187) (ms := 8998) (As := []) (rest := []) (v1 := .int y_0) (st' := [.int y_0]) lkL_codes lSL_230 (cL_codes_k (xl x) (xD x) (xy x)  y_0 h_0) rfl ⟨⟨Nat.le_of_ble_eq_true rfl, Nat.le_of_ble_eq_true rfl⟩, ⟨rfl, rfl⟩, ⟨Nat.le_of_ble_eq_true rfl, Nat.le_of_ble_eq_true rfl⟩⟩ rfl (Nat.le_of_ble_eq_true rfl) rfl dL_law_0 ?_
  show GW x 187 8998 [] _ 3 [.int y_0]
  refine g_if_eq C (pc := 3) 24 dL_law_3 (by decide) (fun c_3 => ?_) (fun c_3 => ?_)
  · replace hf := (k_if hf).1 c_3
    refine g_iconst C (pc := 24) dL_law_24 ck_iconst_0 ?_
    cases hf
    exact g_wid (Nat.le_of_ble_eq_true rfl) (Nat.le_of_ble_eq_true rfl) (E _ _ 25 dL_law_25)
  · replace hf := (k_if hf).2 c_3
    obtain ⟨y_6, h_6, hf⟩ := k_bd hf
    refine g_callN C (pc := 6) (mc := 187) (ms := 8998) (As := []) (rest := []) (v1 := .int y_6) (st' := [.int y_6]) lkL_counts lSL_234 (cL_counts_k (xl x) (xD x) (xy x)  y_6 h_6) rfl ⟨⟨Nat.le_of_ble_eq_true rfl, Nat.le_of_ble_eq_true rfl⟩, ⟨rfl, rfl⟩, ⟨Nat.le_of_ble_eq_true rfl, Nat.le_of_ble_eq_true rfl⟩⟩ rfl (Nat.le_of_ble_eq_true rfl) rfl dL_law_6 ?_
    show GW x 374 17996 [] _ 9 [.int y_6]
    refine g_if_eq C (pc := 9) 24 dL_law_9 (by decide) (fun c_9 => ?_) (fun c_9 => ?_)
    · replace hf := (k_if hf).1 c_9
      refine g_iconst C (pc := 24) dL_law_24 ck_iconst_0 ?_
      cases hf
      exact g_wid (Nat.le_of_ble_eq_true rfl) (Nat.le_of_ble_eq_true rfl) (E _ _ 25 dL_law_25)
    · replace hf := (k_if hf).2 c_9
      obtain ⟨y_12, h_12, hf⟩ := k_bd hf
      refine g_callN C (pc := 12) (mc := 5610) (ms := 269940) (As := []) (rest := []) (v1 := .int y_12) (st' := [.int y_12]) lkL_texts lSL_237 (cL_texts_k (xl x) (xD x) (xy x)  y_12 h_12) rfl ⟨⟨Nat.le_of_ble_eq_true rfl, Nat.le_of_ble_eq_true rfl⟩, ⟨rfl, rfl⟩, ⟨Nat.le_of_ble_eq_true rfl, Nat.le_of_ble_eq_true rfl⟩⟩ rfl (Nat.le_of_ble_eq_true rfl) rfl dL_law_12 ?_
      show GW x 5984 287936 [] _ 15 [.int y_12]
      refine g_if_eq C (pc := 15) 24 dL_law_15 (by decide) (fun c_15 => ?_) (fun c_15 => ?_)
      · replace hf := (k_if hf).1 c_15
        refine g_iconst C (pc := 24) dL_law_24 ck_iconst_0 ?_
        cases hf
        exact g_wid (Nat.le_of_ble_eq_true rfl) (Nat.le_of_ble_eq_true rfl) (E _ _ 25 dL_law_25)
      · replace hf := (k_if hf).2 c_15
        obtain ⟨y_18, h_18, hf⟩ := k_bd hf
        refine g_callN C (pc := 18) (mc := 187) (ms := 8998) (As := []) (rest := []) (v1 := .int y_18) (st' := [.int y_18]) lkL_carried lSL_240 (cL_carried_k (xl x) (xD x) (xy x)  y_18 h_18) rfl ⟨⟨Nat.le_of_ble_eq_true rfl, Nat.le_of_ble_eq_true rfl⟩, ⟨rfl, rfl⟩, ⟨Nat.le_of_ble_eq_true rfl, Nat.le_of_ble_eq_true rfl⟩⟩ rfl (Nat.le_of_ble_eq_true rfl) rfl dL_law_18 ?_
        show GW x 6171 296934 [] _ 21 [.int y_18]
        refine g_if_ne C (pc := 21) 26 dL_law_21 (by decide) (fun c_21 => ?_) (fun c_21 => ?_)
        · replace hf := (k_if hf).2 c_21
          obtain ⟨y_30, h_30, hf⟩ := k_bd hf
          obtain ⟨ob, h0, h1⟩ := k_bd h_30
          cases h1
          refine g_new C (pc := 26) lWL_14 [.null, .null, .null, .null, .null, .null, .null] (fun j hj => by rcases (show j = 0 ∨ j = 1 ∨ j = 2 ∨ j = 3 ∨ j = 4 ∨ j = 5 ∨ j = 6 by omega) with rfl | rfl | rfl | rfl | rfl | rfl | rfl <;> rfl) ⟨Nat.le_of_ble_eq_true rfl, Nat.le_of_ble_eq_true rfl⟩ dL_law_26 (fun qk => ?_)
          refine g_dup C (pc := 29) dL_law_29 rfl ?_
          refine g_callJ C (pc := 30) (b := qk) (As := []) (rest := [.ref qk]) (wr := []) (wc := [newT qk]) lkX10_init lIL_100 (cX10_init_k (xl x) (xD x) (xy x) qk ob h0) rfl ⟨⟨Nat.le_of_ble_eq_true rfl, Nat.le_of_ble_eq_true rfl⟩, ⟨rfl, rfl⟩, ⟨Nat.le_of_ble_eq_true rfl, Nat.le_of_ble_eq_true rfl⟩⟩ rfl (Nat.le_of_ble_eq_true rfl) dL_law_30 rfl (fun zv zw hw => ?_)
          obtain ⟨rfl, ta, kf, sf, zQ, zS, rfl, hk, hs, hw⟩ := hw
          refine g_perm (ws' := tkw (xy x) ta kf sf zQ zS (C0 ob)) hw ?_
          refine g_nil ?_
          show GW x 6358 305932 (tkw (xy x) ta kf sf zQ zS (C0 ob) ++ []) _ 33 [.ref ta.1]
          refine g_astore_n C (pc := 33) (lo' := [(1, .ref ta.1), (0, .ref b)]) dL_law_33 rfl N rfl rfl ?_
          refine g_bipush C (pc := 34) dL_law_34 ck_bipush_64 ?_
          refine g_newa C (pc := 36) (aty := .long) (ty := .long) 1 64 (64, .inr (.inl (fun _ => 0))) rfl rfl lT_long (fun _ => rfl) (by decide) (by decide +kernel) (by decide +kernel) ⟨Nat.le_of_ble_eq_true rfl, Nat.le_of_ble_eq_true rfl⟩ dL_law_36 (fun qw => ?_)
          refine g_app0 ?_
          show GW x 6359 305996 (tkw (xy x) ta kf sf zQ zS (C0 ob) ++ [(qw, .inl ((xy x) 1, 64, .inr (.inl (fun _ => (0 : Int64)))))]) _ 38 [.ref qw]
          refine g_astore_n C (pc := 38) (lo' := [(2, .ref qw), (1, .ref ta.1), (0, .ref b)]) dL_law_38 rfl N rfl rfl ?_
          refine g_iconst C (pc := 39) dL_law_39 ck_iconst_0 ?_
          refine g_istore_n C (pc := 40) (lo' := [(3, .int (0 : Int32)), (2, .ref qw), (1, .ref ta.1), (0, .ref b)]) dL_law_40 rfl N rfl rfl ?_
          refine g_iconst C (pc := 41) dL_law_41 ck_iconst_0 ?_
          refine g_istore C (pc := 42) (lo' := [(4, .int (0 : Int32)), (3, .int (0 : Int32)), (2, .ref qw), (1, .ref ta.1), (0, .ref b)]) dL_law_42 N rfl rfl ?_
          obtain ⟨b_44, hb_44, hf⟩ := k_bd hf
          refine g_lo [4, 3, 2, 1, 0] rfl ?_
          refine g_loopT (g := (gL_law_44 L sv)) (fun (e : Int32 × Int32 × CS × (Nat → Int64)) (kf : Nat → Option Nat) (zQ : Nat → Nat → Nat) => (tkw (xy x) ta kf sf zQ zS e.2.2.1 ++ [(qw, .inl ((xy x) 1, 64, .inr (.inl e.2.2.2)))])) (fun e : Int32 × Int32 × CS × (Nat → Int64) => [(0, .ref b), (1, .ref ta.1), (2, .ref qw), (3, .int e.1), (4, .int e.2.1)]) 44 (fun b : (Int32 × Int32 × CS × (Nat → Int64)) ⊕ (Int32) => (∀ e : Int32 × Int32 × CS × (Nat → Int64), b = .inl e → ∀ (kf : Nat → Option Nat) (zQ : Nat → Nat → Nat), HK kf zQ → GW x 6359 305996 (tkw (xy x) ta kf sf zQ zS e.2.2.1 ++ [(qw, .inl ((xy x) 1, 64, .inr (.inl e.2.2.2)))]) [(1, .ref ta.1), (2, .ref qw), (3, .int e.1)] 406 []) ∧ (∀ o' : Int32, b = .inr o' → o' = o)) (fun a r hg kn kx kf zQ hk => bL_law_44 x C N ta kf sf zQ zS b L sv qw a o r hk hs hX hbl hbA E hg kn (fun e he => (kx _ he).1 e rfl) (fun z he => (kx _ he).2 z rfl)) FU _ b_44 hb_44 ?_ kf zQ hk
          refine ⟨fun e_44 he => ?_, fun o_44 he => ?_⟩ <;> subst he
          · replace hf := k_eliml hf
            intro kf_44 zQ_44 hk_44
            refine g_aload_n C (pc := 406) 1 dL_law_406 rfl rfl ?_
            refine g_iload_n C (pc := 407) 2 dL_law_407 rfl rfl ?_
            refine g_aload_n C (pc := 408) 0 dL_law_408 rfl rfl ?_
            obtain ⟨y_409, h_409, hf⟩ := k_bd hf
            refine g_callOS C (pc := 409) (As := [.ref ta.1]) (rest := [.int e_44.1, .ref qw]) (v1 := .long y_409.1) (c' := y_409.2) (st' := [.long y_409.1, .int e_44.1, .ref qw]) lkL_seen lSL_92 (cL_seen_k (xl x) (xD x) (xy x) ta kf_44 sf zQ_44 zS e_44.2.2.1 y_409 hk_44 hs h_409) rfl ⟨⟨Nat.le_of_ble_eq_true rfl, Nat.le_of_ble_eq_true rfl⟩, ⟨rfl, rfl⟩, ⟨Nat.le_of_ble_eq_true rfl, Nat.le_of_ble_eq_true rfl⟩⟩ rfl (Nat.le_of_ble_eq_true rfl) rfl dL_law_409 (fun kf_409 zQ_409 hk_409 => ?_)
            obtain ⟨i_412, hf⟩ := k_gd hf
            refine g_lastT C (pc := 412) i_412 dL_law_412 ?_
            refine g_aload_n C (pc := 413) 0 dL_law_413 rfl rfl ?_
            refine g_iconst C (pc := 414) dL_law_414 ck_iconst_0 ?_
            refine g_iconst C (pc := 415) dL_law_415 ck_iconst_0 ?_
            refine g_bipush C (pc := 416) dL_law_416 ck_bipush_7 ?_
            obtain ⟨y_418, h_418, hf⟩ := k_bd hf
            refine g_callO C (pc := 418) (As := [.int (0 : Int32), .int (0 : Int32), .int (7 : Int32)]) (rest := []) (v1 := .int y_418.1) (c' := y_418.2) (st' := [.int y_418.1]) lkX10_start lVL_26 (kC_start (xl x) (xD x) (xy x) ta kf_409 sf zQ_409 zS y_409.2 (0 : Int32) (0 : Int32) (7 : Int32) y_418 hk_409 hs h_418) rfl ⟨⟨Nat.le_of_ble_eq_true rfl, Nat.le_of_ble_eq_true rfl⟩, ⟨rfl, rfl⟩, ⟨Nat.le_of_ble_eq_true rfl, Nat.le_of_ble_eq_true rfl⟩⟩ rfl rfl (Nat.le_of_ble_eq_true rfl) rfl dL_law_418 (fun kf_418 zQ_418 hk_418 => ?_)
            refine g_if_lt C (pc := 421) 439 dL_law_421 (by decide) (fun c_421 => ?_) (fun c_421 => ?_)
            · replace hf := (k_if hf).1 c_421
              refine g_iconst C (pc := 439) dL_law_439 ck_iconst_0 ?_
              cases hf
              exact g_wid (Nat.le_of_ble_eq_true rfl) (Nat.le_of_ble_eq_true rfl) (E _ _ 440 dL_law_440)
            · replace hf := (k_if hf).2 c_421
              refine g_aload_n C (pc := 424) 0 dL_law_424 rfl rfl ?_
              refine g_iconst C (pc := 425) dL_law_425 ck_iconst_0 ?_
              obtain ⟨y_426, h_426, hf⟩ := k_bd hf
              refine g_callO C (pc := 426) (As := [.int (0 : Int32)]) (rest := []) (v1 := .int y_426.1) (c' := y_426.2) (st' := [.int y_426.1]) lkX10_wrap lVL_32 (kC_wrap (xl x) (xD x) (xy x) ta kf_418 sf zQ_418 zS y_418.2 (0 : Int32) y_426 hk_418 hs h_426) rfl ⟨⟨Nat.le_of_ble_eq_true rfl, Nat.le_of_ble_eq_true rfl⟩, ⟨rfl, rfl⟩, ⟨Nat.le_of_ble_eq_true rfl, Nat.le_of_ble_eq_true rfl⟩⟩ rfl rfl (Nat.le_of_ble_eq_true rfl) rfl dL_law_426 (fun kf_426 zQ_426 hk_426 => ?_)
              refine g_if_lt C (pc := 429) 439 dL_law_429 (by decide) (fun c_429 => ?_) (fun c_429 => ?_)
              · replace hf := (k_if hf).1 c_429
                refine g_iconst C (pc := 439) dL_law_439 ck_iconst_0 ?_
                cases hf
                exact g_wid (Nat.le_of_ble_eq_true rfl) (Nat.le_of_ble_eq_true rfl) (E _ _ 440 dL_law_440)
              · replace hf := (k_if hf).2 c_429
                refine g_aload_n C (pc := 432) 0 dL_law_432 rfl rfl ?_
                obtain ⟨y_433, h_433, hf⟩ := k_bd hf
                refine g_callOS C (pc := 433) (As := [.ref ta.1]) (rest := []) (v1 := .int y_433.1) (c' := y_433.2) (st' := [.int y_433.1]) lkL_refused lSL_131 (cL_refused_k (xl x) (xD x) (xy x) ta kf_426 sf zQ_426 zS y_426.2 y_433 hk_426 hs h_433) rfl ⟨⟨Nat.le_of_ble_eq_true rfl, Nat.le_of_ble_eq_true rfl⟩, ⟨rfl, rfl⟩, ⟨Nat.le_of_ble_eq_true rfl, Nat.le_of_ble_eq_true rfl⟩⟩ rfl (Nat.le_of_ble_eq_true rfl) rfl dL_law_433 (fun kf_433 zQ_433 hk_433 => ?_)
                refine g_if_ne C (pc := 436) 441 dL_law_436 (by decide) (fun c_436 => ?_) (fun c_436 => ?_)
                · replace hf := (k_if hf).2 c_436
                  refine g_aload_n C (pc := 441) 0 dL_law_441 rfl rfl ?_
                  refine g_iconst C (pc := 442) dL_law_442 ck_iconst_2 ?_
                  obtain ⟨y_443, h_443, hf⟩ := k_bd hf
                  refine g_callO C (pc := 443) (As := [.int (2 : Int32)]) (rest := []) (v1 := .int y_443.1) (c' := y_443.2) (st' := [.int y_443.1]) lkX10_count lVL_13 (kC_count (xl x) (xD x) (xy x) ta kf_433 sf zQ_433 zS y_433.2 (2 : Int32) y_443 hk_433 hs h_443) rfl ⟨⟨Nat.le_of_ble_eq_true rfl, Nat.le_of_ble_eq_true rfl⟩, ⟨rfl, rfl⟩, ⟨Nat.le_of_ble_eq_true rfl, Nat.le_of_ble_eq_true rfl⟩⟩ rfl rfl (Nat.le_of_ble_eq_true rfl) rfl dL_law_443 (fun kf_443 zQ_443 hk_443 => ?_)
                  refine g_istore C (pc := 446) (lo' := [(4, .int y_443.1), (1, .ref ta.1), (2, .ref qw), (3, .int e_44.1)]) dL_law_446 N rfl rfl ?_
                  refine g_aload_n C (pc := 448) 1 dL_law_448 rfl rfl ?_
                  refine g_iconst C (pc := 449) dL_law_449 ck_iconst_0 ?_
                  obtain ⟨y_450, h_450, hf⟩ := k_bd hf
                  refine g_callO C (pc := 450) (As := [.int (0 : Int32)]) (rest := []) (v1 := .int y_450.1) (c' := y_450.2) (st' := [.int y_450.1]) lkX10_save lVL_86 (kC_save (xl x) (xD x) (xy x) ta kf_443 sf zQ_443 zS y_443.2 (0 : Int32) y_450 hk_443 hs h_450) rfl ⟨⟨Nat.le_of_ble_eq_true rfl, Nat.le_of_ble_eq_true rfl⟩, ⟨rfl, rfl⟩, ⟨Nat.le_of_ble_eq_true rfl, Nat.le_of_ble_eq_true rfl⟩⟩ rfl rfl (Nat.le_of_ble_eq_true rfl) rfl dL_law_450 (fun kf_450 zQ_450 hk_450 => ?_)
                  refine g_iload C (pc := 453) 0 dL_law_453 rfl ?_
                  refine g_icmp_ne C (pc := 455) 473 dL_law_455 (by decide) (fun c_455 => ?_) (fun c_455 => ?_)
                  · replace hf := (k_if hf).2 c_455
                    refine g_iconst C (pc := 473) dL_law_473 ck_iconst_0 ?_
                    cases hf
                    exact g_wid (Nat.le_of_ble_eq_true rfl) (Nat.le_of_ble_eq_true rfl) (E _ _ 474 dL_law_474)
                  · replace hf := (k_if hf).1 c_455
                    refine g_aload_n C (pc := 458) 1 dL_law_458 rfl rfl ?_
                    obtain ⟨y_459, h_459, hf⟩ := k_bd hf
                    refine g_callO C (pc := 459) (As := []) (rest := []) (v1 := .int y_459.1) (c' := y_459.2) (st' := [.int y_459.1]) lkX10_undo lVL_105 (kC_undo (xl x) (xD x) (xy x) ta kf_450 sf zQ_450 zS y_450.2  y_459 hk_450 hs h_459) rfl ⟨⟨Nat.le_of_ble_eq_true rfl, Nat.le_of_ble_eq_true rfl⟩, ⟨rfl, rfl⟩, ⟨Nat.le_of_ble_eq_true rfl, Nat.le_of_ble_eq_true rfl⟩⟩ rfl rfl (Nat.le_of_ble_eq_true rfl) rfl dL_law_459 (fun kf_459 zQ_459 hk_459 => ?_)
                    refine g_iconst C (pc := 462) dL_law_462 ck_iconst_1 ?_
                    refine g_icmp_lt C (pc := 463) 473 dL_law_463 (by decide) (fun c_463 => ?_) (fun c_463 => ?_)
                    · replace hf := (k_if hf).1 c_463
                      refine g_iconst C (pc := 473) dL_law_473 ck_iconst_0 ?_
                      cases hf
                      exact g_wid (Nat.le_of_ble_eq_true rfl) (Nat.le_of_ble_eq_true rfl) (E _ _ 474 dL_law_474)
                    · replace hf := (k_if hf).2 c_463
                      refine g_aload_n C (pc := 466) 1 dL_law_466 rfl rfl ?_
                      obtain ⟨y_467, h_467, hf⟩ := k_bd hf
                      refine g_callO C (pc := 467) (As := []) (rest := []) (v1 := .int y_467.1) (c' := y_467.2) (st' := [.int y_467.1]) lkX10_undo lVL_105 (kC_undo (xl x) (xD x) (xy x) ta kf_459 sf zQ_459 zS y_459.2  y_467 hk_459 hs h_467) rfl ⟨⟨Nat.le_of_ble_eq_true rfl, Nat.le_of_ble_eq_true rfl⟩, ⟨rfl, rfl⟩, ⟨Nat.le_of_ble_eq_true rfl, Nat.le_of_ble_eq_true rfl⟩⟩ rfl rfl (Nat.le_of_ble_eq_true rfl) rfl dL_law_467 (fun kf_467 zQ_467 hk_467 => ?_)
                      refine g_if_ge C (pc := 470) 475 dL_law_470 (by decide) (fun c_470 => ?_) (fun c_470 => ?_)
                      · replace hf := (k_if hf).1 c_470
                        refine g_iconst C (pc := 475) dL_law_475 ck_iconst_0 ?_
                        refine g_istore C (pc := 476) (lo' := [(5, .int (0 : Int32)), (4, .int y_443.1), (1, .ref ta.1), (2, .ref qw), (3, .int e_44.1)]) dL_law_476 N rfl rfl ?_
                        obtain ⟨b_478, hb_478, hf⟩ := k_bd hf
                        refine g_lo [2, 3, 4, 1, 0] rfl ?_
                        refine g_loopT (g := (gL_law_478 e_44 y_409)) (fun (e : Int32 × CS) (kf : Nat → Option Nat) (zQ : Nat → Nat → Nat) => (tkw (xy x) ta kf sf zQ zS e.2 ++ [(qw, .inl ((xy x) 1, 64, .inr (.inl (vp_updL e_44.2.2.2 (ix e_44.1) y_409.1))))])) (fun e : Int32 × CS => [(1, .ref ta.1), (2, .ref qw), (3, .int e_44.1), (4, .int y_443.1), (5, .int e.1)]) 478 (fun b : (Int32 × CS) ⊕ (Int32) => (∀ e : Int32 × CS, b = .inl e → ∀ (kf : Nat → Option Nat) (zQ : Nat → Nat → Nat), HK kf zQ → GW x 6359 305996 (tkw (xy x) ta kf sf zQ zS e.2 ++ [(qw, .inl ((xy x) 1, 64, .inr (.inl (vp_updL e_44.2.2.2 (ix e_44.1) y_409.1))))]) [(1, .ref ta.1), (4, .int y_443.1)] 523 []) ∧ (∀ o' : Int32, b = .inr o' → o' = o)) (fun a r hg kn kx kf zQ hk => bL_law_478 x C N ta kf sf zQ zS b L sv qw e_44 y_409 y_443 a o r hk hs hX hbl hbA E hg kn (fun e he => (kx _ he).1 e rfl) (fun z he => (kx _ he).2 z rfl)) FU _ b_478 hb_478 ?_ kf_467 zQ_467 hk_467
                        refine ⟨fun e_478 he => ?_, fun o_478 he => ?_⟩ <;> subst he
                        · replace hf := k_eliml hf
                          intro kf_478 zQ_478 hk_478
                          refine g_aload_n C (pc := 523) 0 dL_law_523 rfl rfl ?_
                          obtain ⟨y_524, h_524, hf⟩ := k_bd hf
                          refine g_callO C (pc := 524) (As := []) (rest := []) (v1 := .int y_524.1) (c' := y_524.2) (st' := [.int y_524.1]) lkX10_undo lVL_105 (kC_undo (xl x) (xD x) (xy x) ta kf_478 sf zQ_478 zS e_478.2  y_524 hk_478 hs h_524) rfl ⟨⟨Nat.le_of_ble_eq_true rfl, Nat.le_of_ble_eq_true rfl⟩, ⟨rfl, rfl⟩, ⟨Nat.le_of_ble_eq_true rfl, Nat.le_of_ble_eq_true rfl⟩⟩ rfl rfl (Nat.le_of_ble_eq_true rfl) rfl dL_law_524 (fun kf_524 zQ_524 hk_524 => ?_)
                          refine g_bipush C (pc := 527) dL_law_527 ck_bipush_m5 ?_
                          refine g_icmp_ne C (pc := 529) 563 dL_law_529 (by decide) (fun c_529 => ?_) (fun c_529 => ?_)
                          · replace hf := (k_if hf).2 c_529
                            refine g_iconst C (pc := 563) dL_law_563 ck_iconst_0 ?_
                            cases hf
                            exact g_wid (Nat.le_of_ble_eq_true rfl) (Nat.le_of_ble_eq_true rfl) (E _ _ 564 dL_law_564)
                          · replace hf := (k_if hf).1 c_529
                            refine g_aload_n C (pc := 532) 0 dL_law_532 rfl rfl ?_
                            refine g_iconst C (pc := 533) dL_law_533 ck_iconst_0 ?_
                            obtain ⟨y_534, h_534, hf⟩ := k_bd hf
                            refine g_callO C (pc := 534) (As := [.int (0 : Int32)]) (rest := []) (v1 := .int y_534.1) (c' := y_534.2) (st' := [.int y_534.1]) lkX10_restore lVL_89 (kC_restore (xl x) (xD x) (xy x) ta kf_524 sf zQ_524 zS y_524.2 (0 : Int32) y_534 hk_524 hs h_534) rfl ⟨⟨Nat.le_of_ble_eq_true rfl, Nat.le_of_ble_eq_true rfl⟩, ⟨rfl, rfl⟩, ⟨Nat.le_of_ble_eq_true rfl, Nat.le_of_ble_eq_true rfl⟩⟩ rfl rfl (Nat.le_of_ble_eq_true rfl) rfl dL_law_534 (fun kf_534 zQ_534 hk_534 => ?_)
                            refine g_iload C (pc := 537) 1 dL_law_537 rfl ?_
                            refine g_icmp_ne C (pc := 539) 563 dL_law_539 (by decide) (fun c_539 => ?_) (fun c_539 => ?_)
                            · replace hf := (k_if hf).2 c_539
                              refine g_iconst C (pc := 563) dL_law_563 ck_iconst_0 ?_
                              cases hf
                              exact g_wid (Nat.le_of_ble_eq_true rfl) (Nat.le_of_ble_eq_true rfl) (E _ _ 564 dL_law_564)
                            · replace hf := (k_if hf).1 c_539
                              refine g_aload_n C (pc := 542) 0 dL_law_542 rfl rfl ?_
                              refine g_bipush C (pc := 543) dL_law_543 ck_bipush_6 ?_
                              obtain ⟨y_545, h_545, hf⟩ := k_bd hf
                              refine g_callO C (pc := 545) (As := [.int (6 : Int32)]) (rest := []) (v1 := .int y_545.1) (c' := y_545.2) (st' := [.int y_545.1]) lkX10_count lVL_13 (kC_count (xl x) (xD x) (xy x) ta kf_534 sf zQ_534 zS y_534.2 (6 : Int32) y_545 hk_534 hs h_545) rfl ⟨⟨Nat.le_of_ble_eq_true rfl, Nat.le_of_ble_eq_true rfl⟩, ⟨rfl, rfl⟩, ⟨Nat.le_of_ble_eq_true rfl, Nat.le_of_ble_eq_true rfl⟩⟩ rfl rfl (Nat.le_of_ble_eq_true rfl) rfl dL_law_545 (fun kf_545 zQ_545 hk_545 => ?_)
                              refine g_bipush C (pc := 548) dL_law_548 ck_bipush_7 ?_
                              refine g_icmp_ne C (pc := 550) 563 dL_law_550 (by decide) (fun c_550 => ?_) (fun c_550 => ?_)
                              · replace hf := (k_if hf).2 c_550
                                refine g_iconst C (pc := 563) dL_law_563 ck_iconst_0 ?_
                                cases hf
                                exact g_wid (Nat.le_of_ble_eq_true rfl) (Nat.le_of_ble_eq_true rfl) (E _ _ 564 dL_law_564)
                              · replace hf := (k_if hf).1 c_550
                                refine g_aload_n C (pc := 553) 0 dL_law_553 rfl rfl ?_
                                refine g_bipush C (pc := 554) dL_law_554 ck_bipush_12 ?_
                                obtain ⟨y_556, h_556, hf⟩ := k_bd hf
                                refine g_callO C (pc := 556) (As := [.int (12 : Int32)]) (rest := []) (v1 := .int y_556.1) (c' := y_556.2) (st' := [.int y_556.1]) lkX10_count lVL_13 (kC_count (xl x) (xD x) (xy x) ta kf_545 sf zQ_545 zS y_545.2 (12 : Int32) y_556 hk_545 hs h_556) rfl ⟨⟨Nat.le_of_ble_eq_true rfl, Nat.le_of_ble_eq_true rfl⟩, ⟨rfl, rfl⟩, ⟨Nat.le_of_ble_eq_true rfl, Nat.le_of_ble_eq_true rfl⟩⟩ rfl rfl (Nat.le_of_ble_eq_true rfl) rfl dL_law_556 (fun kf_556 zQ_556 hk_556 => ?_)
                                refine g_iconst C (pc := 559) dL_law_559 ck_iconst_1 ?_
                                refine g_icmp_eq C (pc := 560) 565 dL_law_560 (by decide) (fun c_560 => ?_) (fun c_560 => ?_)
                                · replace hf := (k_if hf).1 c_560
                                  obtain ⟨b_565, hb_565, hf⟩ := k_bd hf
                                  refine g_lo [0] rfl ?_
                                  refine g_loopT (g := gL_law_565) (fun (e : CS) (kf : Nat → Option Nat) (zQ : Nat → Nat → Nat) => (tkw (xy x) ta kf sf zQ zS e ++ [(qw, .inl ((xy x) 1, 64, .inr (.inl (vp_updL e_44.2.2.2 (ix e_44.1) y_409.1))))])) (fun e : CS => [(1, .ref ta.1)]) 565 (fun b : (CS) ⊕ (Int32) => (∀ e : CS, b = .inl e → ∀ (kf : Nat → Option Nat) (zQ : Nat → Nat → Nat), HK kf zQ → GW x 6359 305996 (tkw (xy x) ta kf sf zQ zS e ++ [(qw, .inl ((xy x) 1, 64, .inr (.inl (vp_updL e_44.2.2.2 (ix e_44.1) y_409.1))))]) [(1, .ref ta.1)] 590 []) ∧ (∀ o' : Int32, b = .inr o' → o' = o)) (fun a r hg kn kx kf zQ hk => bL_law_565 x C N ta kf sf zQ zS b L sv qw e_44 y_409 a o r hk hs hX hbl hbA E hg kn (fun e he => (kx _ he).1 e rfl) (fun z he => (kx _ he).2 z rfl)) FU _ b_565 hb_565 ?_ kf_556 zQ_556 hk_556
                                  refine ⟨fun e_565 he => ?_, fun o_565 he => ?_⟩ <;> subst he
                                  · replace hf := k_eliml hf
                                    intro kf_565 zQ_565 hk_565
                                    refine g_sipush C (pc := 590) dL_law_590 ck_sipush_945 ?_
                                    refine g_istore C (pc := 593) (lo' := [(5, .int (945 : Int32)), (1, .ref ta.1)]) dL_law_593 N rfl rfl ?_
                                    obtain ⟨b_595, hb_595, hf⟩ := k_bd hf
                                    refine g_lo [1, 0] rfl ?_
                                    refine g_loopT (g := gL_law_595) (fun (e : Int32 × CS) (kf : Nat → Option Nat) (zQ : Nat → Nat → Nat) => (tkw (xy x) ta kf sf zQ zS e.2 ++ [(qw, .inl ((xy x) 1, 64, .inr (.inl (vp_updL e_44.2.2.2 (ix e_44.1) y_409.1))))])) (fun e : Int32 × CS => [(1, .ref ta.1), (5, .int e.1)]) 595 (fun b : (Int32 × CS) ⊕ (Int32) => (∀ e : Int32 × CS, b = .inl e → ∀ (kf : Nat → Option Nat) (zQ : Nat → Nat → Nat), HK kf zQ → GW x 6359 305996 (tkw (xy x) ta kf sf zQ zS e.2 ++ [(qw, .inl ((xy x) 1, 64, .inr (.inl (vp_updL e_44.2.2.2 (ix e_44.1) y_409.1))))]) [(1, .ref ta.1)] 648 []) ∧ (∀ o' : Int32, b = .inr o' → o' = o)) (fun a r hg kn kx kf zQ hk => bL_law_595 x C N ta kf sf zQ zS b L sv qw e_44 y_409 a o r hk hs hX hbl hbA E hg kn (fun e he => (kx _ he).1 e rfl) (fun z he => (kx _ he).2 z rfl)) FU _ b_595 hb_595 ?_ kf_565 zQ_565 hk_565
                                    refine ⟨fun e_595 he => ?_, fun o_595 he => ?_⟩ <;> subst he
                                    · replace hf := k_eliml hf
                                      intro kf_595 zQ_595 hk_595
                                      exact tL_law_648 x C N ta kf_595 sf zQ_595 zS b L sv qw e_44 y_409 e_595 o hk_595 hs hX hbl hbA E hf
                                    · replace hf := k_elimr hf
                                      exact k_some hf
                                  · replace hf := k_elimr hf
                                    exact k_some hf
                                · replace hf := (k_if hf).2 c_560
                                  refine g_iconst C (pc := 563) dL_law_563 ck_iconst_0 ?_
                                  cases hf
                                  exact g_wid (Nat.le_of_ble_eq_true rfl) (Nat.le_of_ble_eq_true rfl) (E _ _ 564 dL_law_564)
                        · replace hf := k_elimr hf
                          exact k_some hf
                      · replace hf := (k_if hf).2 c_470
                        refine g_iconst C (pc := 473) dL_law_473 ck_iconst_0 ?_
                        cases hf
                        exact g_wid (Nat.le_of_ble_eq_true rfl) (Nat.le_of_ble_eq_true rfl) (E _ _ 474 dL_law_474)
                · replace hf := (k_if hf).1 c_436
                  refine g_iconst C (pc := 439) dL_law_439 ck_iconst_0 ?_
                  cases hf
                  exact g_wid (Nat.le_of_ble_eq_true rfl) (Nat.le_of_ble_eq_true rfl) (E _ _ 440 dL_law_440)
          · replace hf := k_elimr hf
            exact k_some hf
        · replace hf := (k_if hf).1 c_21
          refine g_iconst C (pc := 24) dL_law_24 ck_iconst_0 ?_
          cases hf
          exact g_wid (Nat.le_of_ble_eq_true rfl) (Nat.le_of_ble_eq_true rfl) (E _ _ 25 dL_law_25)
