def rmL_refusesAny : Room := { frames := 8, cells := 0, slots := 0, locals := 188 }
set_option maxRecDepth 100000 in
def jL_refusesAny_703 (y_685 : Int32 × CS) (u703_0 : Int32) : Option (Int32 × CS) :=
  bd (oC_restore y_685.2 u703_0) fun y_703 : Int32 × CS => if y_703.1 = (-2 : Int32) then some ((1 : Int32), y_703.2) else some ((0 : Int32), y_703.2)
set_option maxRecDepth 100000 in
set_option maxHeartbeats 4000000 in
theorem tL_refusesAny_703 (x : GX) (C : GC x cL_refusesAny RL rmL_refusesAny) (N : xn x = 3) (ta : TA) (kf : Nat → Option Nat) (sf : Nat → Option Nat) (zQ : Nat → Nat → Nat) (zS : Nat → Nat → Nat) (y_685 : Int32 × CS) (u703_0 : Int32) (o : Int32 × CS) (hk : HK kf zQ) (hs : HS sf zS) (E : GE x (some .boolean) 0 0 (PO (xy x) ta sf zS (.int o.1) o.2)) (hf : jL_refusesAny_703 y_685 u703_0 = some o)  : GW x 0 0 (tkw (xy x) ta kf sf zQ zS y_685.2 ++ []) [] 703 [.int u703_0, .ref ta.1] := by
  unfold jL_refusesAny_703 at hf
  obtain ⟨y_703, h_703, hf⟩ := k_bd hf
  refine g_callO C (pc := 703) (As := [.int u703_0]) (rest := []) (v1 := .int y_703.1) (c' := y_703.2) (st' := [.int y_703.1]) lkX10_restore lVL_89 (kC_restore (xl x) (xD x) (xy x) ta kf sf zQ zS y_685.2 u703_0 y_703 hk hs h_703) rfl ⟨⟨Nat.le_of_ble_eq_true rfl, Nat.le_of_ble_eq_true rfl⟩, ⟨rfl, rfl⟩, ⟨Nat.le_of_ble_eq_true rfl, Nat.le_of_ble_eq_true rfl⟩⟩ rfl rfl (Nat.le_of_ble_eq_true rfl) rfl dL_refusesAny_703 (fun kf_703 zQ_703 hk_703 => ?_)
  refine g_bipush C (pc := 706) dL_refusesAny_706 ck_bipush_m2 ?_
  refine g_icmp_ne C (pc := 708) 715 dL_refusesAny_708 (by decide) (fun c_708 => ?_) (fun c_708 => ?_)
  · replace hf := (k_if hf).2 c_708
    refine g_iconst C (pc := 715) dL_refusesAny_715 ck_iconst_0 ?_
    cases hf
    exact g_wid (Nat.le_of_ble_eq_true rfl) (Nat.le_of_ble_eq_true rfl) (g_zret C E rfl (pc := 716) dL_refusesAny_716 ⟨zQ_703, kf_703, hk_703, rfl, List.append_nil _⟩)
  · replace hf := (k_if hf).1 c_708
    refine g_iconst C (pc := 711) dL_refusesAny_711 ck_iconst_1 ?_
    refine g_goto C (pc := 712) (tgt := 716) dL_refusesAny_712 (by decide) ?_
    cases hf
    exact g_wid (Nat.le_of_ble_eq_true rfl) (Nat.le_of_ble_eq_true rfl) (g_zret C E rfl (pc := 716) dL_refusesAny_716 ⟨zQ_703, kf_703, hk_703, rfl, List.append_nil _⟩)
set_option maxRecDepth 100000 in
def jL_refusesAny_685 (p1 : Int32) (y_667 : Int32 × CS) (u685_0 : Int32) : Option (Int32 × CS) :=
  bd (oC_save y_667.2 u685_0) fun y_685 : Int32 × CS => if y_685.1 = (-2 : Int32) then if p1 = 0 then jL_refusesAny_703 y_685 (-1 : Int32) else jL_refusesAny_703 y_685 (2 : Int32) else some ((0 : Int32), y_685.2)
set_option maxRecDepth 100000 in
set_option maxHeartbeats 4000000 in
theorem tL_refusesAny_685 (x : GX) (C : GC x cL_refusesAny RL rmL_refusesAny) (N : xn x = 3) (ta : TA) (kf : Nat → Option Nat) (sf : Nat → Option Nat) (zQ : Nat → Nat → Nat) (zS : Nat → Nat → Nat) (p1 : Int32) (y_667 : Int32 × CS) (u685_0 : Int32) (o : Int32 × CS) (hk : HK kf zQ) (hs : HS sf zS) (E : GE x (some .boolean) 0 0 (PO (xy x) ta sf zS (.int o.1) o.2)) (hf : jL_refusesAny_685 p1 y_667 u685_0 = some o)  : GW x 0 0 (tkw (xy x) ta kf sf zQ zS y_667.2 ++ []) [(0, .ref ta.1), (1, .int p1)] 685 [.int u685_0, .ref ta.1] := by
  unfold jL_refusesAny_685 at hf
  obtain ⟨y_685, h_685, hf⟩ := k_bd hf
  refine g_callO C (pc := 685) (As := [.int u685_0]) (rest := []) (v1 := .int y_685.1) (c' := y_685.2) (st' := [.int y_685.1]) lkX10_save lVL_86 (kC_save (xl x) (xD x) (xy x) ta kf sf zQ zS y_667.2 u685_0 y_685 hk hs h_685) rfl ⟨⟨Nat.le_of_ble_eq_true rfl, Nat.le_of_ble_eq_true rfl⟩, ⟨rfl, rfl⟩, ⟨Nat.le_of_ble_eq_true rfl, Nat.le_of_ble_eq_true rfl⟩⟩ rfl rfl (Nat.le_of_ble_eq_true rfl) rfl dL_refusesAny_685 (fun kf_685 zQ_685 hk_685 => ?_)
  refine g_bipush C (pc := 688) dL_refusesAny_688 ck_bipush_m2 ?_
  refine g_icmp_ne C (pc := 690) 715 dL_refusesAny_690 (by decide) (fun c_690 => ?_) (fun c_690 => ?_)
  · replace hf := (k_if hf).2 c_690
    refine g_iconst C (pc := 715) dL_refusesAny_715 ck_iconst_0 ?_
    cases hf
    exact g_wid (Nat.le_of_ble_eq_true rfl) (Nat.le_of_ble_eq_true rfl) (g_zret C E rfl (pc := 716) dL_refusesAny_716 ⟨zQ_685, kf_685, hk_685, rfl, List.append_nil _⟩)
  · replace hf := (k_if hf).1 c_690
    refine g_aload_n C (pc := 693) 0 dL_refusesAny_693 rfl rfl ?_
    refine g_iload_n C (pc := 694) 1 dL_refusesAny_694 rfl rfl ?_
    refine g_if_ne C (pc := 695) 702 dL_refusesAny_695 (by decide) (fun c_695 => ?_) (fun c_695 => ?_)
    · replace hf := (k_if hf).2 c_695
      refine g_iconst C (pc := 702) dL_refusesAny_702 ck_iconst_2 ?_
      exact g_lo [] rfl (tL_refusesAny_703 x C N ta kf_685 sf zQ_685 zS y_685 (2 : Int32) o hk_685 hs E hf)
    · replace hf := (k_if hf).1 c_695
      refine g_iconst C (pc := 698) dL_refusesAny_698 ck_iconst_m1 ?_
      refine g_goto C (pc := 699) (tgt := 703) dL_refusesAny_699 (by decide) ?_
      exact g_lo [] rfl (tL_refusesAny_703 x C N ta kf_685 sf zQ_685 zS y_685 (-1 : Int32) o hk_685 hs E hf)
set_option maxRecDepth 100000 in
def jL_refusesAny_667 (p1 : Int32) (y_645 : Int32 × CS) (u667_0 : Int64) : Option (Int32 × CS) :=
  bd (oC_put y_645.2 u667_0) fun y_667 : Int32 × CS => if y_667.1 = (-2 : Int32) then if p1 = 0 then jL_refusesAny_685 p1 y_667 (-1 : Int32) else jL_refusesAny_685 p1 y_667 (2 : Int32) else some ((0 : Int32), y_667.2)
set_option maxRecDepth 100000 in
set_option maxHeartbeats 4000000 in
theorem tL_refusesAny_667 (x : GX) (C : GC x cL_refusesAny RL rmL_refusesAny) (N : xn x = 3) (ta : TA) (kf : Nat → Option Nat) (sf : Nat → Option Nat) (zQ : Nat → Nat → Nat) (zS : Nat → Nat → Nat) (p1 : Int32) (y_645 : Int32 × CS) (u667_0 : Int64) (o : Int32 × CS) (hk : HK kf zQ) (hs : HS sf zS) (E : GE x (some .boolean) 0 0 (PO (xy x) ta sf zS (.int o.1) o.2)) (hf : jL_refusesAny_667 p1 y_645 u667_0 = some o)  : GW x 0 0 (tkw (xy x) ta kf sf zQ zS y_645.2 ++ []) [(0, .ref ta.1), (1, .int p1)] 667 [.long u667_0, .ref ta.1] := by
  unfold jL_refusesAny_667 at hf
  obtain ⟨y_667, h_667, hf⟩ := k_bd hf
  refine g_callO C (pc := 667) (As := [.long u667_0]) (rest := []) (v1 := .int y_667.1) (c' := y_667.2) (st' := [.int y_667.1]) lkX10_put lVL_78 (kC_put (xl x) (xD x) (xy x) ta kf sf zQ zS y_645.2 u667_0 y_667 hk hs h_667) rfl ⟨⟨Nat.le_of_ble_eq_true rfl, Nat.le_of_ble_eq_true rfl⟩, ⟨rfl, rfl⟩, ⟨Nat.le_of_ble_eq_true rfl, Nat.le_of_ble_eq_true rfl⟩⟩ rfl rfl (Nat.le_of_ble_eq_true rfl) rfl dL_refusesAny_667 (fun kf_667 zQ_667 hk_667 => ?_)
  refine g_bipush C (pc := 670) dL_refusesAny_670 ck_bipush_m2 ?_
  refine g_icmp_ne C (pc := 672) 715 dL_refusesAny_672 (by decide) (fun c_672 => ?_) (fun c_672 => ?_)
  · replace hf := (k_if hf).2 c_672
    refine g_iconst C (pc := 715) dL_refusesAny_715 ck_iconst_0 ?_
    cases hf
    exact g_wid (Nat.le_of_ble_eq_true rfl) (Nat.le_of_ble_eq_true rfl) (g_zret C E rfl (pc := 716) dL_refusesAny_716 ⟨zQ_667, kf_667, hk_667, rfl, List.append_nil _⟩)
  · replace hf := (k_if hf).1 c_672
    refine g_aload_n C (pc := 675) 0 dL_refusesAny_675 rfl rfl ?_
    refine g_iload_n C (pc := 676) 1 dL_refusesAny_676 rfl rfl ?_
    refine g_if_ne C (pc := 677) 684 dL_refusesAny_677 (by decide) (fun c_677 => ?_) (fun c_677 => ?_)
    · replace hf := (k_if hf).2 c_677
      refine g_iconst C (pc := 684) dL_refusesAny_684 ck_iconst_2 ?_
      exact tL_refusesAny_685 x C N ta kf_667 sf zQ_667 zS p1 y_667 (2 : Int32) o hk_667 hs E hf
    · replace hf := (k_if hf).1 c_677
      refine g_iconst C (pc := 680) dL_refusesAny_680 ck_iconst_m1 ?_
      refine g_goto C (pc := 681) (tgt := 685) dL_refusesAny_681 (by decide) ?_
      exact tL_refusesAny_685 x C N ta kf_667 sf zQ_667 zS p1 y_667 (-1 : Int32) o hk_667 hs E hf
set_option maxRecDepth 100000 in
def jL_refusesAny_645 (p1 : Int32) (y_621 : Int64 × CS) (u645_0 : Int64) : Option (Int32 × CS) :=
  bd (oC_put y_621.2 u645_0) fun y_645 : Int32 × CS => if y_645.1 = (-2 : Int32) then if p1 = 0 then jL_refusesAny_667 p1 y_645 (6488163 : Int64) else jL_refusesAny_667 p1 y_645 (32611 : Int64) else some ((0 : Int32), y_645.2)
set_option maxRecDepth 100000 in
set_option maxHeartbeats 4000000 in
theorem tL_refusesAny_645 (x : GX) (C : GC x cL_refusesAny RL rmL_refusesAny) (N : xn x = 3) (ta : TA) (kf : Nat → Option Nat) (sf : Nat → Option Nat) (zQ : Nat → Nat → Nat) (zS : Nat → Nat → Nat) (p1 : Int32) (y_621 : Int64 × CS) (u645_0 : Int64) (o : Int32 × CS) (hk : HK kf zQ) (hs : HS sf zS) (E : GE x (some .boolean) 0 0 (PO (xy x) ta sf zS (.int o.1) o.2)) (hf : jL_refusesAny_645 p1 y_621 u645_0 = some o)  : GW x 0 0 (tkw (xy x) ta kf sf zQ zS y_621.2 ++ []) [(0, .ref ta.1), (1, .int p1)] 645 [.long u645_0, .ref ta.1] := by
  unfold jL_refusesAny_645 at hf
  obtain ⟨y_645, h_645, hf⟩ := k_bd hf
  refine g_callO C (pc := 645) (As := [.long u645_0]) (rest := []) (v1 := .int y_645.1) (c' := y_645.2) (st' := [.int y_645.1]) lkX10_put lVL_78 (kC_put (xl x) (xD x) (xy x) ta kf sf zQ zS y_621.2 u645_0 y_645 hk hs h_645) rfl ⟨⟨Nat.le_of_ble_eq_true rfl, Nat.le_of_ble_eq_true rfl⟩, ⟨rfl, rfl⟩, ⟨Nat.le_of_ble_eq_true rfl, Nat.le_of_ble_eq_true rfl⟩⟩ rfl rfl (Nat.le_of_ble_eq_true rfl) rfl dL_refusesAny_645 (fun kf_645 zQ_645 hk_645 => ?_)
  refine g_bipush C (pc := 648) dL_refusesAny_648 ck_bipush_m2 ?_
  refine g_icmp_ne C (pc := 650) 715 dL_refusesAny_650 (by decide) (fun c_650 => ?_) (fun c_650 => ?_)
  · replace hf := (k_if hf).2 c_650
    refine g_iconst C (pc := 715) dL_refusesAny_715 ck_iconst_0 ?_
    cases hf
    exact g_wid (Nat.le_of_ble_eq_true rfl) (Nat.le_of_ble_eq_true rfl) (g_zret C E rfl (pc := 716) dL_refusesAny_716 ⟨zQ_645, kf_645, hk_645, rfl, List.append_nil _⟩)
  · replace hf := (k_if hf).1 c_650
    refine g_aload_n C (pc := 653) 0 dL_refusesAny_653 rfl rfl ?_
    refine g_iload_n C (pc := 654) 1 dL_refusesAny_654 rfl rfl ?_
    refine g_if_ne C (pc := 655) 664 dL_refusesAny_655 (by decide) (fun c_655 => ?_) (fun c_655 => ?_)
    · replace hf := (k_if hf).2 c_655
      refine g_ldc2 C (pc := 664) lcL_84 dL_refusesAny_664 ?_
      exact tL_refusesAny_667 x C N ta kf_645 sf zQ_645 zS p1 y_645 (32611 : Int64) o hk_645 hs E hf
    · replace hf := (k_if hf).1 c_655
      refine g_ldc2 C (pc := 658) lcL_82 dL_refusesAny_658 ?_
      refine g_goto C (pc := 661) (tgt := 667) dL_refusesAny_661 (by decide) ?_
      exact tL_refusesAny_667 x C N ta kf_645 sf zQ_645 zS p1 y_645 (6488163 : Int64) o hk_645 hs E hf
set_option maxRecDepth 100000 in
def jL_refusesAny_621 (p1 : Int32) (y_601 : Int32 × CS) (u621_0 : Int32) : Option (Int32 × CS) :=
  bd (oC_core y_601.2 u621_0) fun y_621 : Int64 × CS => if (lg_cmp y_621.1 (-2 : Int64)) = 0 then if p1 = 0 then jL_refusesAny_645 p1 y_621 (0 : Int64) else jL_refusesAny_645 p1 y_621 (32 : Int64) else some ((0 : Int32), y_621.2)
set_option maxRecDepth 100000 in
set_option maxHeartbeats 4000000 in
theorem tL_refusesAny_621 (x : GX) (C : GC x cL_refusesAny RL rmL_refusesAny) (N : xn x = 3) (ta : TA) (kf : Nat → Option Nat) (sf : Nat → Option Nat) (zQ : Nat → Nat → Nat) (zS : Nat → Nat → Nat) (p1 : Int32) (y_601 : Int32 × CS) (u621_0 : Int32) (o : Int32 × CS) (hk : HK kf zQ) (hs : HS sf zS) (E : GE x (some .boolean) 0 0 (PO (xy x) ta sf zS (.int o.1) o.2)) (hf : jL_refusesAny_621 p1 y_601 u621_0 = some o)  : GW x 0 0 (tkw (xy x) ta kf sf zQ zS y_601.2 ++ []) [(0, .ref ta.1), (1, .int p1)] 621 [.int u621_0, .ref ta.1] := by
  unfold jL_refusesAny_621 at hf
  obtain ⟨y_621, h_621, hf⟩ := k_bd hf
  refine g_callO C (pc := 621) (As := [.int u621_0]) (rest := []) (v1 := .long y_621.1) (c' := y_621.2) (st' := [.long y_621.1]) lkX10_core lVL_70 (kC_core (xl x) (xD x) (xy x) ta kf sf zQ zS y_601.2 u621_0 y_621 hk hs h_621) rfl ⟨⟨Nat.le_of_ble_eq_true rfl, Nat.le_of_ble_eq_true rfl⟩, ⟨rfl, rfl⟩, ⟨Nat.le_of_ble_eq_true rfl, Nat.le_of_ble_eq_true rfl⟩⟩ rfl rfl (Nat.le_of_ble_eq_true rfl) rfl dL_refusesAny_621 (fun kf_621 zQ_621 hk_621 => ?_)
  refine g_ldc2 C (pc := 624) lcL_74 dL_refusesAny_624 ?_
  refine g_lcmp C (pc := 627) dL_refusesAny_627 ?_
  refine g_if_eq C (pc := 628) 633 dL_refusesAny_628 (by decide) (fun c_628 => ?_) (fun c_628 => ?_)
  · replace hf := (k_if hf).1 c_628
    refine g_aload_n C (pc := 633) 0 dL_refusesAny_633 rfl rfl ?_
    refine g_iload_n C (pc := 634) 1 dL_refusesAny_634 rfl rfl ?_
    refine g_if_ne C (pc := 635) 642 dL_refusesAny_635 (by decide) (fun c_635 => ?_) (fun c_635 => ?_)
    · replace hf := (k_if hf).2 c_635
      refine g_ldc2 C (pc := 642) lcL_76 dL_refusesAny_642 ?_
      exact tL_refusesAny_645 x C N ta kf_621 sf zQ_621 zS p1 y_621 (32 : Int64) o hk_621 hs E hf
    · replace hf := (k_if hf).1 c_635
      refine g_lconst C (pc := 638) (v := 0) dL_refusesAny_638 rfl ?_
      refine g_goto C (pc := 639) (tgt := 645) dL_refusesAny_639 (by decide) ?_
      exact tL_refusesAny_645 x C N ta kf_621 sf zQ_621 zS p1 y_621 (0 : Int64) o hk_621 hs E hf
  · replace hf := (k_if hf).2 c_628
    refine g_iconst C (pc := 631) dL_refusesAny_631 ck_iconst_0 ?_
    cases hf
    exact g_wid (Nat.le_of_ble_eq_true rfl) (Nat.le_of_ble_eq_true rfl) (g_zret C E rfl (pc := 632) dL_refusesAny_632 ⟨zQ_621, kf_621, hk_621, rfl, List.append_nil _⟩)
set_option maxRecDepth 100000 in
def jL_refusesAny_578 (p1 : Int32) (y_558 : Int32 × CS) (u578_0 : Int32) : Option (Int32 × CS) :=
  bd (oC_proves y_558.2 u578_0) fun y_578 : Int32 × CS => if y_578.1 = (-2 : Int32) then bd (oC_witness y_578.2 (8 : Int32)) fun y_589 : Int32 × CS => if y_589.1 = (-2 : Int32) then bd (oC_isTrue y_589.2 (1350 : Int32)) fun y_601 : Int32 × CS => if y_601.1 = (-2 : Int32) then if p1 = 0 then jL_refusesAny_621 p1 y_601 (8 : Int32) else jL_refusesAny_621 p1 y_601 (-2147483648 : Int32) else some ((0 : Int32), y_601.2) else some ((0 : Int32), y_589.2) else some ((0 : Int32), y_578.2)
set_option maxRecDepth 100000 in
set_option maxHeartbeats 4000000 in
theorem tL_refusesAny_578 (x : GX) (C : GC x cL_refusesAny RL rmL_refusesAny) (N : xn x = 3) (ta : TA) (kf : Nat → Option Nat) (sf : Nat → Option Nat) (zQ : Nat → Nat → Nat) (zS : Nat → Nat → Nat) (p1 : Int32) (y_558 : Int32 × CS) (u578_0 : Int32) (o : Int32 × CS) (hk : HK kf zQ) (hs : HS sf zS) (E : GE x (some .boolean) 0 0 (PO (xy x) ta sf zS (.int o.1) o.2)) (hf : jL_refusesAny_578 p1 y_558 u578_0 = some o)  : GW x 0 0 (tkw (xy x) ta kf sf zQ zS y_558.2 ++ []) [(0, .ref ta.1), (1, .int p1)] 578 [.int u578_0, .ref ta.1] := by
  unfold jL_refusesAny_578 at hf
  obtain ⟨y_578, h_578, hf⟩ := k_bd hf
  refine g_callO C (pc := 578) (As := [.int u578_0]) (rest := []) (v1 := .int y_578.1) (c' := y_578.2) (st' := [.int y_578.1]) lkX10_proves lVL_60 (kC_proves (xl x) (xD x) (xy x) ta kf sf zQ zS y_558.2 u578_0 y_578 hk hs h_578) rfl ⟨⟨Nat.le_of_ble_eq_true rfl, Nat.le_of_ble_eq_true rfl⟩, ⟨rfl, rfl⟩, ⟨Nat.le_of_ble_eq_true rfl, Nat.le_of_ble_eq_true rfl⟩⟩ rfl rfl (Nat.le_of_ble_eq_true rfl) rfl dL_refusesAny_578 (fun kf_578 zQ_578 hk_578 => ?_)
  refine g_bipush C (pc := 581) dL_refusesAny_581 ck_bipush_m2 ?_
  refine g_icmp_ne C (pc := 583) 631 dL_refusesAny_583 (by decide) (fun c_583 => ?_) (fun c_583 => ?_)
  · replace hf := (k_if hf).2 c_583
    refine g_iconst C (pc := 631) dL_refusesAny_631 ck_iconst_0 ?_
    cases hf
    exact g_wid (Nat.le_of_ble_eq_true rfl) (Nat.le_of_ble_eq_true rfl) (g_zret C E rfl (pc := 632) dL_refusesAny_632 ⟨zQ_578, kf_578, hk_578, rfl, List.append_nil _⟩)
  · replace hf := (k_if hf).1 c_583
    refine g_aload_n C (pc := 586) 0 dL_refusesAny_586 rfl rfl ?_
    refine g_bipush C (pc := 587) dL_refusesAny_587 ck_bipush_8 ?_
    obtain ⟨y_589, h_589, hf⟩ := k_bd hf
    refine g_callO C (pc := 589) (As := [.int (8 : Int32)]) (rest := []) (v1 := .int y_589.1) (c' := y_589.2) (st' := [.int y_589.1]) lkX10_witness lVL_63 (kC_witness (xl x) (xD x) (xy x) ta kf_578 sf zQ_578 zS y_578.2 (8 : Int32) y_589 hk_578 hs h_589) rfl ⟨⟨Nat.le_of_ble_eq_true rfl, Nat.le_of_ble_eq_true rfl⟩, ⟨rfl, rfl⟩, ⟨Nat.le_of_ble_eq_true rfl, Nat.le_of_ble_eq_true rfl⟩⟩ rfl rfl (Nat.le_of_ble_eq_true rfl) rfl dL_refusesAny_589 (fun kf_589 zQ_589 hk_589 => ?_)
    refine g_bipush C (pc := 592) dL_refusesAny_592 ck_bipush_m2 ?_
    refine g_icmp_ne C (pc := 594) 631 dL_refusesAny_594 (by decide) (fun c_594 => ?_) (fun c_594 => ?_)
    · replace hf := (k_if hf).2 c_594
      refine g_iconst C (pc := 631) dL_refusesAny_631 ck_iconst_0 ?_
      cases hf
      exact g_wid (Nat.le_of_ble_eq_true rfl) (Nat.le_of_ble_eq_true rfl) (g_zret C E rfl (pc := 632) dL_refusesAny_632 ⟨zQ_589, kf_589, hk_589, rfl, List.append_nil _⟩)
    · replace hf := (k_if hf).1 c_594
      refine g_aload_n C (pc := 597) 0 dL_refusesAny_597 rfl rfl ?_
      refine g_sipush C (pc := 598) dL_refusesAny_598 ck_sipush_1350 ?_
      obtain ⟨y_601, h_601, hf⟩ := k_bd hf
      refine g_callO C (pc := 601) (As := [.int (1350 : Int32)]) (rest := []) (v1 := .int y_601.1) (c' := y_601.2) (st' := [.int y_601.1]) lkX10_isTrue lVL_66 (kC_isTrue (xl x) (xD x) (xy x) ta kf_589 sf zQ_589 zS y_589.2 (1350 : Int32) y_601 hk_589 hs h_601) rfl ⟨⟨Nat.le_of_ble_eq_true rfl, Nat.le_of_ble_eq_true rfl⟩, ⟨rfl, rfl⟩, ⟨Nat.le_of_ble_eq_true rfl, Nat.le_of_ble_eq_true rfl⟩⟩ rfl rfl (Nat.le_of_ble_eq_true rfl) rfl dL_refusesAny_601 (fun kf_601 zQ_601 hk_601 => ?_)
      refine g_bipush C (pc := 604) dL_refusesAny_604 ck_bipush_m2 ?_
      refine g_icmp_ne C (pc := 606) 631 dL_refusesAny_606 (by decide) (fun c_606 => ?_) (fun c_606 => ?_)
      · replace hf := (k_if hf).2 c_606
        refine g_iconst C (pc := 631) dL_refusesAny_631 ck_iconst_0 ?_
        cases hf
        exact g_wid (Nat.le_of_ble_eq_true rfl) (Nat.le_of_ble_eq_true rfl) (g_zret C E rfl (pc := 632) dL_refusesAny_632 ⟨zQ_601, kf_601, hk_601, rfl, List.append_nil _⟩)
      · replace hf := (k_if hf).1 c_606
        refine g_aload_n C (pc := 609) 0 dL_refusesAny_609 rfl rfl ?_
        refine g_iload_n C (pc := 610) 1 dL_refusesAny_610 rfl rfl ?_
        refine g_if_ne C (pc := 611) 619 dL_refusesAny_611 (by decide) (fun c_611 => ?_) (fun c_611 => ?_)
        · replace hf := (k_if hf).2 c_611
          refine g_ldc C (pc := 619) lciL_69 dL_refusesAny_619 ?_
          exact tL_refusesAny_621 x C N ta kf_601 sf zQ_601 zS p1 y_601 (-2147483648 : Int32) o hk_601 hs E hf
        · replace hf := (k_if hf).1 c_611
          refine g_bipush C (pc := 614) dL_refusesAny_614 ck_bipush_8 ?_
          refine g_goto C (pc := 616) (tgt := 621) dL_refusesAny_616 (by decide) ?_
          exact tL_refusesAny_621 x C N ta kf_601 sf zQ_601 zS p1 y_601 (8 : Int32) o hk_601 hs E hf
set_option maxRecDepth 100000 in
def jL_refusesAny_558 (p1 : Int32) (y_538 : Int32 × CS) (u558_0 : Int32) : Option (Int32 × CS) :=
  bd (oC_ofState y_538.2 u558_0) fun y_558 : Int32 × CS => if y_558.1 = (-2 : Int32) then if p1 = 0 then jL_refusesAny_578 p1 y_558 (6 : Int32) else jL_refusesAny_578 p1 y_558 (-7 : Int32) else some ((0 : Int32), y_558.2)
set_option maxRecDepth 100000 in
set_option maxHeartbeats 4000000 in
theorem tL_refusesAny_558 (x : GX) (C : GC x cL_refusesAny RL rmL_refusesAny) (N : xn x = 3) (ta : TA) (kf : Nat → Option Nat) (sf : Nat → Option Nat) (zQ : Nat → Nat → Nat) (zS : Nat → Nat → Nat) (p1 : Int32) (y_538 : Int32 × CS) (u558_0 : Int32) (o : Int32 × CS) (hk : HK kf zQ) (hs : HS sf zS) (E : GE x (some .boolean) 0 0 (PO (xy x) ta sf zS (.int o.1) o.2)) (hf : jL_refusesAny_558 p1 y_538 u558_0 = some o)  : GW x 0 0 (tkw (xy x) ta kf sf zQ zS y_538.2 ++ []) [(0, .ref ta.1), (1, .int p1)] 558 [.int u558_0, .ref ta.1] := by
  unfold jL_refusesAny_558 at hf
  obtain ⟨y_558, h_558, hf⟩ := k_bd hf
  refine g_callO C (pc := 558) (As := [.int u558_0]) (rest := []) (v1 := .int y_558.1) (c' := y_558.2) (st' := [.int y_558.1]) lkX10_ofState lVL_57 (kC_ofState (xl x) (xD x) (xy x) ta kf sf zQ zS y_538.2 u558_0 y_558 hk hs h_558) rfl ⟨⟨Nat.le_of_ble_eq_true rfl, Nat.le_of_ble_eq_true rfl⟩, ⟨rfl, rfl⟩, ⟨Nat.le_of_ble_eq_true rfl, Nat.le_of_ble_eq_true rfl⟩⟩ rfl rfl (Nat.le_of_ble_eq_true rfl) rfl dL_refusesAny_558 (fun kf_558 zQ_558 hk_558 => ?_)
  refine g_bipush C (pc := 561) dL_refusesAny_561 ck_bipush_m2 ?_
  refine g_icmp_ne C (pc := 563) 631 dL_refusesAny_563 (by decide) (fun c_563 => ?_) (fun c_563 => ?_)
  · replace hf := (k_if hf).2 c_563
    refine g_iconst C (pc := 631) dL_refusesAny_631 ck_iconst_0 ?_
    cases hf
    exact g_wid (Nat.le_of_ble_eq_true rfl) (Nat.le_of_ble_eq_true rfl) (g_zret C E rfl (pc := 632) dL_refusesAny_632 ⟨zQ_558, kf_558, hk_558, rfl, List.append_nil _⟩)
  · replace hf := (k_if hf).1 c_563
    refine g_aload_n C (pc := 566) 0 dL_refusesAny_566 rfl rfl ?_
    refine g_iload_n C (pc := 567) 1 dL_refusesAny_567 rfl rfl ?_
    refine g_if_ne C (pc := 568) 576 dL_refusesAny_568 (by decide) (fun c_568 => ?_) (fun c_568 => ?_)
    · replace hf := (k_if hf).2 c_568
      refine g_bipush C (pc := 576) dL_refusesAny_576 ck_bipush_m7 ?_
      exact tL_refusesAny_578 x C N ta kf_558 sf zQ_558 zS p1 y_558 (-7 : Int32) o hk_558 hs E hf
    · replace hf := (k_if hf).1 c_568
      refine g_bipush C (pc := 571) dL_refusesAny_571 ck_bipush_6 ?_
      refine g_goto C (pc := 573) (tgt := 578) dL_refusesAny_573 (by decide) ?_
      exact tL_refusesAny_578 x C N ta kf_558 sf zQ_558 zS p1 y_558 (6 : Int32) o hk_558 hs E hf
set_option maxRecDepth 100000 in
def jL_refusesAny_538 (p1 : Int32) (k527_cs : CS) (u538_0 : Int32) : Option (Int32 × CS) :=
  bd (oC_count k527_cs u538_0) fun y_538 : Int32 × CS => if y_538.1 = (-2 : Int32) then if p1 = 0 then jL_refusesAny_558 p1 y_538 (-1 : Int32) else jL_refusesAny_558 p1 y_538 (512 : Int32) else some ((0 : Int32), y_538.2)
set_option maxRecDepth 100000 in
set_option maxHeartbeats 4000000 in
theorem tL_refusesAny_538 (x : GX) (C : GC x cL_refusesAny RL rmL_refusesAny) (N : xn x = 3) (ta : TA) (kf : Nat → Option Nat) (sf : Nat → Option Nat) (zQ : Nat → Nat → Nat) (zS : Nat → Nat → Nat) (p1 : Int32) (k527_cs : CS) (u538_0 : Int32) (o : Int32 × CS) (hk : HK kf zQ) (hs : HS sf zS) (E : GE x (some .boolean) 0 0 (PO (xy x) ta sf zS (.int o.1) o.2)) (hf : jL_refusesAny_538 p1 k527_cs u538_0 = some o)  : GW x 0 0 (tkw (xy x) ta kf sf zQ zS k527_cs ++ []) [(0, .ref ta.1), (1, .int p1)] 538 [.int u538_0, .ref ta.1] := by
  unfold jL_refusesAny_538 at hf
  obtain ⟨y_538, h_538, hf⟩ := k_bd hf
  refine g_callO C (pc := 538) (As := [.int u538_0]) (rest := []) (v1 := .int y_538.1) (c' := y_538.2) (st' := [.int y_538.1]) lkX10_count lVL_13 (kC_count (xl x) (xD x) (xy x) ta kf sf zQ zS k527_cs u538_0 y_538 hk hs h_538) rfl ⟨⟨Nat.le_of_ble_eq_true rfl, Nat.le_of_ble_eq_true rfl⟩, ⟨rfl, rfl⟩, ⟨Nat.le_of_ble_eq_true rfl, Nat.le_of_ble_eq_true rfl⟩⟩ rfl rfl (Nat.le_of_ble_eq_true rfl) rfl dL_refusesAny_538 (fun kf_538 zQ_538 hk_538 => ?_)
  refine g_bipush C (pc := 541) dL_refusesAny_541 ck_bipush_m2 ?_
  refine g_icmp_ne C (pc := 543) 631 dL_refusesAny_543 (by decide) (fun c_543 => ?_) (fun c_543 => ?_)
  · replace hf := (k_if hf).2 c_543
    refine g_iconst C (pc := 631) dL_refusesAny_631 ck_iconst_0 ?_
    cases hf
    exact g_wid (Nat.le_of_ble_eq_true rfl) (Nat.le_of_ble_eq_true rfl) (g_zret C E rfl (pc := 632) dL_refusesAny_632 ⟨zQ_538, kf_538, hk_538, rfl, List.append_nil _⟩)
  · replace hf := (k_if hf).1 c_543
    refine g_aload_n C (pc := 546) 0 dL_refusesAny_546 rfl rfl ?_
    refine g_iload_n C (pc := 547) 1 dL_refusesAny_547 rfl rfl ?_
    refine g_if_ne C (pc := 548) 555 dL_refusesAny_548 (by decide) (fun c_548 => ?_) (fun c_548 => ?_)
    · replace hf := (k_if hf).2 c_548
      refine g_sipush C (pc := 555) dL_refusesAny_555 ck_sipush_512 ?_
      exact tL_refusesAny_558 x C N ta kf_538 sf zQ_538 zS p1 y_538 (512 : Int32) o hk_538 hs E hf
    · replace hf := (k_if hf).1 c_548
      refine g_iconst C (pc := 551) dL_refusesAny_551 ck_iconst_m1 ?_
      refine g_goto C (pc := 552) (tgt := 558) dL_refusesAny_552 (by decide) ?_
      exact tL_refusesAny_558 x C N ta kf_538 sf zQ_538 zS p1 y_538 (-1 : Int32) o hk_538 hs E hf
set_option maxRecDepth 100000 in
def jL_refusesAny_527 (p1 : Int32) (k527_cs : CS) : Option (Int32 × CS) :=
  if p1 = 0 then jL_refusesAny_538 p1 k527_cs (-1 : Int32) else jL_refusesAny_538 p1 k527_cs (13 : Int32)
set_option maxRecDepth 100000 in
set_option maxHeartbeats 4000000 in
theorem tL_refusesAny_527 (x : GX) (C : GC x cL_refusesAny RL rmL_refusesAny) (N : xn x = 3) (ta : TA) (kf : Nat → Option Nat) (sf : Nat → Option Nat) (zQ : Nat → Nat → Nat) (zS : Nat → Nat → Nat) (p1 : Int32) (k527_cs : CS) (o : Int32 × CS) (hk : HK kf zQ) (hs : HS sf zS) (E : GE x (some .boolean) 0 0 (PO (xy x) ta sf zS (.int o.1) o.2)) (hf : jL_refusesAny_527 p1 k527_cs = some o)  : GW x 0 0 (tkw (xy x) ta kf sf zQ zS k527_cs ++ []) [(0, .ref ta.1), (1, .int p1)] 527 [] := by
  unfold jL_refusesAny_527 at hf
  refine g_aload_n C (pc := 527) 0 dL_refusesAny_527 rfl rfl ?_
  refine g_iload_n C (pc := 528) 1 dL_refusesAny_528 rfl rfl ?_
  refine g_if_ne C (pc := 529) 536 dL_refusesAny_529 (by decide) (fun c_529 => ?_) (fun c_529 => ?_)
  · replace hf := (k_if hf).2 c_529
    refine g_bipush C (pc := 536) dL_refusesAny_536 ck_bipush_13 ?_
    exact tL_refusesAny_538 x C N ta kf sf zQ zS p1 k527_cs (13 : Int32) o hk hs E hf
  · replace hf := (k_if hf).1 c_529
    refine g_iconst C (pc := 532) dL_refusesAny_532 ck_iconst_m1 ?_
    refine g_goto C (pc := 533) (tgt := 538) dL_refusesAny_533 (by decide) ?_
    exact tL_refusesAny_538 x C N ta kf sf zQ zS p1 k527_cs (-1 : Int32) o hk hs E hf
set_option maxRecDepth 100000 in
def jL_refusesAny_519 (p1 : Int32) (y_502 : Int32 × CS) (u519_0 : Int32) : Option (Int32 × CS) :=
  bd (oC_ofCandidate y_502.2 (0 : Int32) u519_0) fun y_519 : Int32 × CS => if y_519.1 = (-2 : Int32) then jL_refusesAny_527 p1 y_519.2 else some ((0 : Int32), y_519.2)
set_option maxRecDepth 100000 in
set_option maxHeartbeats 4000000 in
theorem tL_refusesAny_519 (x : GX) (C : GC x cL_refusesAny RL rmL_refusesAny) (N : xn x = 3) (ta : TA) (kf : Nat → Option Nat) (sf : Nat → Option Nat) (zQ : Nat → Nat → Nat) (zS : Nat → Nat → Nat) (p1 : Int32) (y_502 : Int32 × CS) (u519_0 : Int32) (o : Int32 × CS) (hk : HK kf zQ) (hs : HS sf zS) (E : GE x (some .boolean) 0 0 (PO (xy x) ta sf zS (.int o.1) o.2)) (hf : jL_refusesAny_519 p1 y_502 u519_0 = some o)  : GW x 0 0 (tkw (xy x) ta kf sf zQ zS y_502.2 ++ []) [(0, .ref ta.1), (1, .int p1)] 519 [.int u519_0, .int (0 : Int32), .ref ta.1] := by
  unfold jL_refusesAny_519 at hf
  obtain ⟨y_519, h_519, hf⟩ := k_bd hf
  refine g_callO C (pc := 519) (As := [.int (0 : Int32), .int u519_0]) (rest := []) (v1 := .int y_519.1) (c' := y_519.2) (st' := [.int y_519.1]) lkX10_ofCandidate lVL_23 (kC_ofCandidate (xl x) (xD x) (xy x) ta kf sf zQ zS y_502.2 (0 : Int32) u519_0 y_519 hk hs h_519) rfl ⟨⟨Nat.le_of_ble_eq_true rfl, Nat.le_of_ble_eq_true rfl⟩, ⟨rfl, rfl⟩, ⟨Nat.le_of_ble_eq_true rfl, Nat.le_of_ble_eq_true rfl⟩⟩ rfl rfl (Nat.le_of_ble_eq_true rfl) rfl dL_refusesAny_519 (fun kf_519 zQ_519 hk_519 => ?_)
  refine g_bipush C (pc := 522) dL_refusesAny_522 ck_bipush_m2 ?_
  refine g_icmp_ne C (pc := 524) 631 dL_refusesAny_524 (by decide) (fun c_524 => ?_) (fun c_524 => ?_)
  · replace hf := (k_if hf).2 c_524
    refine g_iconst C (pc := 631) dL_refusesAny_631 ck_iconst_0 ?_
    cases hf
    exact g_wid (Nat.le_of_ble_eq_true rfl) (Nat.le_of_ble_eq_true rfl) (g_zret C E rfl (pc := 632) dL_refusesAny_632 ⟨zQ_519, kf_519, hk_519, rfl, List.append_nil _⟩)
  · replace hf := (k_if hf).1 c_524
    exact tL_refusesAny_527 x C N ta kf_519 sf zQ_519 zS p1 y_519.2 o hk_519 hs E hf
set_option maxRecDepth 100000 in
def jL_refusesAny_491 (p1 : Int32) (u491_0 : Int32) (k491_cs : CS) : Option (Int32 × CS) :=
  bd (oC_ofCandidate k491_cs u491_0 (9 : Int32)) fun y_493 : Int32 × CS => if y_493.1 = (-1 : Int32) then bd (oC_count y_493.2 (1 : Int32)) fun y_502 : Int32 × CS => if y_502.1 ≤ 0 then jL_refusesAny_527 p1 y_502.2 else if p1 = 0 then jL_refusesAny_519 p1 y_502 (-1 : Int32) else jL_refusesAny_519 p1 y_502 (5 : Int32) else some ((0 : Int32), y_493.2)
set_option maxRecDepth 100000 in
set_option maxHeartbeats 4000000 in
theorem tL_refusesAny_491 (x : GX) (C : GC x cL_refusesAny RL rmL_refusesAny) (N : xn x = 3) (ta : TA) (kf : Nat → Option Nat) (sf : Nat → Option Nat) (zQ : Nat → Nat → Nat) (zS : Nat → Nat → Nat) (p1 : Int32) (u491_0 : Int32) (k491_cs : CS) (o : Int32 × CS) (hk : HK kf zQ) (hs : HS sf zS) (E : GE x (some .boolean) 0 0 (PO (xy x) ta sf zS (.int o.1) o.2)) (hf : jL_refusesAny_491 p1 u491_0 k491_cs = some o)  : GW x 0 0 (tkw (xy x) ta kf sf zQ zS k491_cs ++ []) [(0, .ref ta.1), (1, .int p1)] 491 [.int u491_0, .ref ta.1] := by
  unfold jL_refusesAny_491 at hf
  refine g_bipush C (pc := 491) dL_refusesAny_491 ck_bipush_9 ?_
  obtain ⟨y_493, h_493, hf⟩ := k_bd hf
  refine g_callO C (pc := 493) (As := [.int u491_0, .int (9 : Int32)]) (rest := []) (v1 := .int y_493.1) (c' := y_493.2) (st' := [.int y_493.1]) lkX10_ofCandidate lVL_23 (kC_ofCandidate (xl x) (xD x) (xy x) ta kf sf zQ zS k491_cs u491_0 (9 : Int32) y_493 hk hs h_493) rfl ⟨⟨Nat.le_of_ble_eq_true rfl, Nat.le_of_ble_eq_true rfl⟩, ⟨rfl, rfl⟩, ⟨Nat.le_of_ble_eq_true rfl, Nat.le_of_ble_eq_true rfl⟩⟩ rfl rfl (Nat.le_of_ble_eq_true rfl) rfl dL_refusesAny_493 (fun kf_493 zQ_493 hk_493 => ?_)
  refine g_iconst C (pc := 496) dL_refusesAny_496 ck_iconst_m1 ?_
  refine g_icmp_ne C (pc := 497) 631 dL_refusesAny_497 (by decide) (fun c_497 => ?_) (fun c_497 => ?_)
  · replace hf := (k_if hf).2 c_497
    refine g_iconst C (pc := 631) dL_refusesAny_631 ck_iconst_0 ?_
    cases hf
    exact g_wid (Nat.le_of_ble_eq_true rfl) (Nat.le_of_ble_eq_true rfl) (g_zret C E rfl (pc := 632) dL_refusesAny_632 ⟨zQ_493, kf_493, hk_493, rfl, List.append_nil _⟩)
  · replace hf := (k_if hf).1 c_497
    refine g_aload_n C (pc := 500) 0 dL_refusesAny_500 rfl rfl ?_
    refine g_iconst C (pc := 501) dL_refusesAny_501 ck_iconst_1 ?_
    obtain ⟨y_502, h_502, hf⟩ := k_bd hf
    refine g_callO C (pc := 502) (As := [.int (1 : Int32)]) (rest := []) (v1 := .int y_502.1) (c' := y_502.2) (st' := [.int y_502.1]) lkX10_count lVL_13 (kC_count (xl x) (xD x) (xy x) ta kf_493 sf zQ_493 zS y_493.2 (1 : Int32) y_502 hk_493 hs h_502) rfl ⟨⟨Nat.le_of_ble_eq_true rfl, Nat.le_of_ble_eq_true rfl⟩, ⟨rfl, rfl⟩, ⟨Nat.le_of_ble_eq_true rfl, Nat.le_of_ble_eq_true rfl⟩⟩ rfl rfl (Nat.le_of_ble_eq_true rfl) rfl dL_refusesAny_502 (fun kf_502 zQ_502 hk_502 => ?_)
    refine g_if_le C (pc := 505) 527 dL_refusesAny_505 (by decide) (fun c_505 => ?_) (fun c_505 => ?_)
    · replace hf := (k_if hf).1 c_505
      exact tL_refusesAny_527 x C N ta kf_502 sf zQ_502 zS p1 y_502.2 o hk_502 hs E hf
    · replace hf := (k_if hf).2 c_505
      refine g_aload_n C (pc := 508) 0 dL_refusesAny_508 rfl rfl ?_
      refine g_iconst C (pc := 509) dL_refusesAny_509 ck_iconst_0 ?_
      refine g_iload_n C (pc := 510) 1 dL_refusesAny_510 rfl rfl ?_
      refine g_if_ne C (pc := 511) 518 dL_refusesAny_511 (by decide) (fun c_511 => ?_) (fun c_511 => ?_)
      · replace hf := (k_if hf).2 c_511
        refine g_iconst C (pc := 518) dL_refusesAny_518 ck_iconst_5 ?_
        exact tL_refusesAny_519 x C N ta kf_502 sf zQ_502 zS p1 y_502 (5 : Int32) o hk_502 hs E hf
      · replace hf := (k_if hf).1 c_511
        refine g_iconst C (pc := 514) dL_refusesAny_514 ck_iconst_m1 ?_
        refine g_goto C (pc := 515) (tgt := 519) dL_refusesAny_515 (by decide) ?_
        exact tL_refusesAny_519 x C N ta kf_502 sf zQ_502 zS p1 y_502 (-1 : Int32) o hk_502 hs E hf
set_option maxRecDepth 100000 in
def jL_refusesAny_477 (p1 : Int32) (k477_cs : CS) : Option (Int32 × CS) :=
  if p1 = 0 then jL_refusesAny_491 p1 (-1 : Int32) k477_cs else bd (oC_count k477_cs (1 : Int32)) fun y_488 : Int32 × CS => jL_refusesAny_491 p1 y_488.1 y_488.2
set_option maxRecDepth 100000 in
set_option maxHeartbeats 4000000 in
theorem tL_refusesAny_477 (x : GX) (C : GC x cL_refusesAny RL rmL_refusesAny) (N : xn x = 3) (ta : TA) (kf : Nat → Option Nat) (sf : Nat → Option Nat) (zQ : Nat → Nat → Nat) (zS : Nat → Nat → Nat) (p1 : Int32) (k477_cs : CS) (o : Int32 × CS) (hk : HK kf zQ) (hs : HS sf zS) (E : GE x (some .boolean) 0 0 (PO (xy x) ta sf zS (.int o.1) o.2)) (hf : jL_refusesAny_477 p1 k477_cs = some o)  : GW x 0 0 (tkw (xy x) ta kf sf zQ zS k477_cs ++ []) [(0, .ref ta.1), (1, .int p1)] 477 [] := by
  unfold jL_refusesAny_477 at hf
  refine g_aload_n C (pc := 477) 0 dL_refusesAny_477 rfl rfl ?_
  refine g_iload_n C (pc := 478) 1 dL_refusesAny_478 rfl rfl ?_
  refine g_if_ne C (pc := 479) 486 dL_refusesAny_479 (by decide) (fun c_479 => ?_) (fun c_479 => ?_)
  · replace hf := (k_if hf).2 c_479
    refine g_aload_n C (pc := 486) 0 dL_refusesAny_486 rfl rfl ?_
    refine g_iconst C (pc := 487) dL_refusesAny_487 ck_iconst_1 ?_
    obtain ⟨y_488, h_488, hf⟩ := k_bd hf
    refine g_callO C (pc := 488) (As := [.int (1 : Int32)]) (rest := [.ref ta.1]) (v1 := .int y_488.1) (c' := y_488.2) (st' := [.int y_488.1, .ref ta.1]) lkX10_count lVL_13 (kC_count (xl x) (xD x) (xy x) ta kf sf zQ zS k477_cs (1 : Int32) y_488 hk hs h_488) rfl ⟨⟨Nat.le_of_ble_eq_true rfl, Nat.le_of_ble_eq_true rfl⟩, ⟨rfl, rfl⟩, ⟨Nat.le_of_ble_eq_true rfl, Nat.le_of_ble_eq_true rfl⟩⟩ rfl rfl (Nat.le_of_ble_eq_true rfl) rfl dL_refusesAny_488 (fun kf_488 zQ_488 hk_488 => ?_)
    exact tL_refusesAny_491 x C N ta kf_488 sf zQ_488 zS p1 y_488.1 y_488.2 o hk_488 hs E hf
  · replace hf := (k_if hf).1 c_479
    refine g_iconst C (pc := 482) dL_refusesAny_482 ck_iconst_m1 ?_
    refine g_goto C (pc := 483) (tgt := 491) dL_refusesAny_483 (by decide) ?_
    exact tL_refusesAny_491 x C N ta kf sf zQ zS p1 (-1 : Int32) k477_cs o hk hs E hf
set_option maxRecDepth 100000 in
def jL_refusesAny_469 (p1 : Int32) (y_450 : Int32 × CS) (u469_0 : Int32) : Option (Int32 × CS) :=
  bd (oC_leads y_450.2 (0 : Int32) u469_0) fun y_469 : Int32 × CS => if y_469.1 = (-2 : Int32) then jL_refusesAny_477 p1 y_469.2 else some ((0 : Int32), y_469.2)
set_option maxRecDepth 100000 in
set_option maxHeartbeats 4000000 in
theorem tL_refusesAny_469 (x : GX) (C : GC x cL_refusesAny RL rmL_refusesAny) (N : xn x = 3) (ta : TA) (kf : Nat → Option Nat) (sf : Nat → Option Nat) (zQ : Nat → Nat → Nat) (zS : Nat → Nat → Nat) (p1 : Int32) (y_450 : Int32 × CS) (u469_0 : Int32) (o : Int32 × CS) (hk : HK kf zQ) (hs : HS sf zS) (E : GE x (some .boolean) 0 0 (PO (xy x) ta sf zS (.int o.1) o.2)) (hf : jL_refusesAny_469 p1 y_450 u469_0 = some o)  : GW x 0 0 (tkw (xy x) ta kf sf zQ zS y_450.2 ++ []) [(0, .ref ta.1), (1, .int p1)] 469 [.int u469_0, .int (0 : Int32), .ref ta.1] := by
  unfold jL_refusesAny_469 at hf
  obtain ⟨y_469, h_469, hf⟩ := k_bd hf
  refine g_callO C (pc := 469) (As := [.int (0 : Int32), .int u469_0]) (rest := []) (v1 := .int y_469.1) (c' := y_469.2) (st' := [.int y_469.1]) lkX10_leads lVL_54 (kC_leads (xl x) (xD x) (xy x) ta kf sf zQ zS y_450.2 (0 : Int32) u469_0 y_469 hk hs h_469) rfl ⟨⟨Nat.le_of_ble_eq_true rfl, Nat.le_of_ble_eq_true rfl⟩, ⟨rfl, rfl⟩, ⟨Nat.le_of_ble_eq_true rfl, Nat.le_of_ble_eq_true rfl⟩⟩ rfl rfl (Nat.le_of_ble_eq_true rfl) rfl dL_refusesAny_469 (fun kf_469 zQ_469 hk_469 => ?_)
  refine g_bipush C (pc := 472) dL_refusesAny_472 ck_bipush_m2 ?_
  refine g_icmp_ne C (pc := 474) 631 dL_refusesAny_474 (by decide) (fun c_474 => ?_) (fun c_474 => ?_)
  · replace hf := (k_if hf).2 c_474
    refine g_iconst C (pc := 631) dL_refusesAny_631 ck_iconst_0 ?_
    cases hf
    exact g_wid (Nat.le_of_ble_eq_true rfl) (Nat.le_of_ble_eq_true rfl) (g_zret C E rfl (pc := 632) dL_refusesAny_632 ⟨zQ_469, kf_469, hk_469, rfl, List.append_nil _⟩)
  · replace hf := (k_if hf).1 c_474
    exact tL_refusesAny_477 x C N ta kf_469 sf zQ_469 zS p1 y_469.2 o hk_469 hs E hf
set_option maxRecDepth 100000 in
def jL_refusesAny_438 (p1 : Int32) (u438_0 : Int32) (k438_cs : CS) : Option (Int32 × CS) :=
  bd (oC_leads k438_cs u438_0 (999 : Int32)) fun y_441 : Int32 × CS => if y_441.1 = (-1 : Int32) then bd (oC_count y_441.2 (0 : Int32)) fun y_450 : Int32 × CS => if y_450.1 ≤ 0 then jL_refusesAny_477 p1 y_450.2 else if p1 = 0 then jL_refusesAny_469 p1 y_450 (-1 : Int32) else jL_refusesAny_469 p1 y_450 (512 : Int32) else some ((0 : Int32), y_441.2)
set_option maxRecDepth 100000 in
set_option maxHeartbeats 4000000 in
theorem tL_refusesAny_438 (x : GX) (C : GC x cL_refusesAny RL rmL_refusesAny) (N : xn x = 3) (ta : TA) (kf : Nat → Option Nat) (sf : Nat → Option Nat) (zQ : Nat → Nat → Nat) (zS : Nat → Nat → Nat) (p1 : Int32) (u438_0 : Int32) (k438_cs : CS) (o : Int32 × CS) (hk : HK kf zQ) (hs : HS sf zS) (E : GE x (some .boolean) 0 0 (PO (xy x) ta sf zS (.int o.1) o.2)) (hf : jL_refusesAny_438 p1 u438_0 k438_cs = some o)  : GW x 0 0 (tkw (xy x) ta kf sf zQ zS k438_cs ++ []) [(0, .ref ta.1), (1, .int p1)] 438 [.int u438_0, .ref ta.1] := by
  unfold jL_refusesAny_438 at hf
  refine g_sipush C (pc := 438) dL_refusesAny_438 ck_sipush_999 ?_
  obtain ⟨y_441, h_441, hf⟩ := k_bd hf
  refine g_callO C (pc := 441) (As := [.int u438_0, .int (999 : Int32)]) (rest := []) (v1 := .int y_441.1) (c' := y_441.2) (st' := [.int y_441.1]) lkX10_leads lVL_54 (kC_leads (xl x) (xD x) (xy x) ta kf sf zQ zS k438_cs u438_0 (999 : Int32) y_441 hk hs h_441) rfl ⟨⟨Nat.le_of_ble_eq_true rfl, Nat.le_of_ble_eq_true rfl⟩, ⟨rfl, rfl⟩, ⟨Nat.le_of_ble_eq_true rfl, Nat.le_of_ble_eq_true rfl⟩⟩ rfl rfl (Nat.le_of_ble_eq_true rfl) rfl dL_refusesAny_441 (fun kf_441 zQ_441 hk_441 => ?_)
  refine g_iconst C (pc := 444) dL_refusesAny_444 ck_iconst_m1 ?_
  refine g_icmp_ne C (pc := 445) 631 dL_refusesAny_445 (by decide) (fun c_445 => ?_) (fun c_445 => ?_)
  · replace hf := (k_if hf).2 c_445
    refine g_iconst C (pc := 631) dL_refusesAny_631 ck_iconst_0 ?_
    cases hf
    exact g_wid (Nat.le_of_ble_eq_true rfl) (Nat.le_of_ble_eq_true rfl) (g_zret C E rfl (pc := 632) dL_refusesAny_632 ⟨zQ_441, kf_441, hk_441, rfl, List.append_nil _⟩)
  · replace hf := (k_if hf).1 c_445
    refine g_aload_n C (pc := 448) 0 dL_refusesAny_448 rfl rfl ?_
    refine g_iconst C (pc := 449) dL_refusesAny_449 ck_iconst_0 ?_
    obtain ⟨y_450, h_450, hf⟩ := k_bd hf
    refine g_callO C (pc := 450) (As := [.int (0 : Int32)]) (rest := []) (v1 := .int y_450.1) (c' := y_450.2) (st' := [.int y_450.1]) lkX10_count lVL_13 (kC_count (xl x) (xD x) (xy x) ta kf_441 sf zQ_441 zS y_441.2 (0 : Int32) y_450 hk_441 hs h_450) rfl ⟨⟨Nat.le_of_ble_eq_true rfl, Nat.le_of_ble_eq_true rfl⟩, ⟨rfl, rfl⟩, ⟨Nat.le_of_ble_eq_true rfl, Nat.le_of_ble_eq_true rfl⟩⟩ rfl rfl (Nat.le_of_ble_eq_true rfl) rfl dL_refusesAny_450 (fun kf_450 zQ_450 hk_450 => ?_)
    refine g_if_le C (pc := 453) 477 dL_refusesAny_453 (by decide) (fun c_453 => ?_) (fun c_453 => ?_)
    · replace hf := (k_if hf).1 c_453
      exact tL_refusesAny_477 x C N ta kf_450 sf zQ_450 zS p1 y_450.2 o hk_450 hs E hf
    · replace hf := (k_if hf).2 c_453
      refine g_aload_n C (pc := 456) 0 dL_refusesAny_456 rfl rfl ?_
      refine g_iconst C (pc := 457) dL_refusesAny_457 ck_iconst_0 ?_
      refine g_iload_n C (pc := 458) 1 dL_refusesAny_458 rfl rfl ?_
      refine g_if_ne C (pc := 459) 466 dL_refusesAny_459 (by decide) (fun c_459 => ?_) (fun c_459 => ?_)
      · replace hf := (k_if hf).2 c_459
        refine g_sipush C (pc := 466) dL_refusesAny_466 ck_sipush_512 ?_
        exact tL_refusesAny_469 x C N ta kf_450 sf zQ_450 zS p1 y_450 (512 : Int32) o hk_450 hs E hf
      · replace hf := (k_if hf).1 c_459
        refine g_iconst C (pc := 462) dL_refusesAny_462 ck_iconst_m1 ?_
        refine g_goto C (pc := 463) (tgt := 469) dL_refusesAny_463 (by decide) ?_
        exact tL_refusesAny_469 x C N ta kf_450 sf zQ_450 zS p1 y_450 (-1 : Int32) o hk_450 hs E hf
set_option maxRecDepth 100000 in
def jL_refusesAny_424 (p1 : Int32) (k424_cs : CS) : Option (Int32 × CS) :=
  if p1 = 0 then jL_refusesAny_438 p1 (-1 : Int32) k424_cs else bd (oC_count k424_cs (0 : Int32)) fun y_435 : Int32 × CS => jL_refusesAny_438 p1 y_435.1 y_435.2
set_option maxRecDepth 100000 in
set_option maxHeartbeats 4000000 in
theorem tL_refusesAny_424 (x : GX) (C : GC x cL_refusesAny RL rmL_refusesAny) (N : xn x = 3) (ta : TA) (kf : Nat → Option Nat) (sf : Nat → Option Nat) (zQ : Nat → Nat → Nat) (zS : Nat → Nat → Nat) (p1 : Int32) (k424_cs : CS) (o : Int32 × CS) (hk : HK kf zQ) (hs : HS sf zS) (E : GE x (some .boolean) 0 0 (PO (xy x) ta sf zS (.int o.1) o.2)) (hf : jL_refusesAny_424 p1 k424_cs = some o)  : GW x 0 0 (tkw (xy x) ta kf sf zQ zS k424_cs ++ []) [(0, .ref ta.1), (1, .int p1)] 424 [] := by
  unfold jL_refusesAny_424 at hf
  refine g_aload_n C (pc := 424) 0 dL_refusesAny_424 rfl rfl ?_
  refine g_iload_n C (pc := 425) 1 dL_refusesAny_425 rfl rfl ?_
  refine g_if_ne C (pc := 426) 433 dL_refusesAny_426 (by decide) (fun c_426 => ?_) (fun c_426 => ?_)
  · replace hf := (k_if hf).2 c_426
    refine g_aload_n C (pc := 433) 0 dL_refusesAny_433 rfl rfl ?_
    refine g_iconst C (pc := 434) dL_refusesAny_434 ck_iconst_0 ?_
    obtain ⟨y_435, h_435, hf⟩ := k_bd hf
    refine g_callO C (pc := 435) (As := [.int (0 : Int32)]) (rest := [.ref ta.1]) (v1 := .int y_435.1) (c' := y_435.2) (st' := [.int y_435.1, .ref ta.1]) lkX10_count lVL_13 (kC_count (xl x) (xD x) (xy x) ta kf sf zQ zS k424_cs (0 : Int32) y_435 hk hs h_435) rfl ⟨⟨Nat.le_of_ble_eq_true rfl, Nat.le_of_ble_eq_true rfl⟩, ⟨rfl, rfl⟩, ⟨Nat.le_of_ble_eq_true rfl, Nat.le_of_ble_eq_true rfl⟩⟩ rfl rfl (Nat.le_of_ble_eq_true rfl) rfl dL_refusesAny_435 (fun kf_435 zQ_435 hk_435 => ?_)
    exact tL_refusesAny_438 x C N ta kf_435 sf zQ_435 zS p1 y_435.1 y_435.2 o hk_435 hs E hf
  · replace hf := (k_if hf).1 c_426
    refine g_iconst C (pc := 429) dL_refusesAny_429 ck_iconst_m1 ?_
    refine g_goto C (pc := 430) (tgt := 438) dL_refusesAny_430 (by decide) ?_
    exact tL_refusesAny_438 x C N ta kf sf zQ zS p1 (-1 : Int32) k424_cs o hk hs E hf
set_option maxRecDepth 100000 in
def jL_refusesAny_414 (p1 : Int32) (y_396 : Int32 × CS) (u414_0 : Int32) : Option (Int32 × CS) :=
  bd (oC_ofStep y_396.2 (0 : Int32) u414_0) fun y_414 : Int32 × CS => if y_414.1 = (-2 : Int32) then jL_refusesAny_424 p1 y_414.2 else some ((0 : Int32), y_414.2)
set_option maxRecDepth 100000 in
set_option maxHeartbeats 4000000 in
theorem tL_refusesAny_414 (x : GX) (C : GC x cL_refusesAny RL rmL_refusesAny) (N : xn x = 3) (ta : TA) (kf : Nat → Option Nat) (sf : Nat → Option Nat) (zQ : Nat → Nat → Nat) (zS : Nat → Nat → Nat) (p1 : Int32) (y_396 : Int32 × CS) (u414_0 : Int32) (o : Int32 × CS) (hk : HK kf zQ) (hs : HS sf zS) (E : GE x (some .boolean) 0 0 (PO (xy x) ta sf zS (.int o.1) o.2)) (hf : jL_refusesAny_414 p1 y_396 u414_0 = some o)  : GW x 0 0 (tkw (xy x) ta kf sf zQ zS y_396.2 ++ []) [(0, .ref ta.1), (1, .int p1)] 414 [.int u414_0, .int (0 : Int32), .ref ta.1] := by
  unfold jL_refusesAny_414 at hf
  obtain ⟨y_414, h_414, hf⟩ := k_bd hf
  refine g_callO C (pc := 414) (As := [.int (0 : Int32), .int u414_0]) (rest := []) (v1 := .int y_414.1) (c' := y_414.2) (st' := [.int y_414.1]) lkX10_ofStep lVL_19 (kC_ofStep (xl x) (xD x) (xy x) ta kf sf zQ zS y_396.2 (0 : Int32) u414_0 y_414 hk hs h_414) rfl ⟨⟨Nat.le_of_ble_eq_true rfl, Nat.le_of_ble_eq_true rfl⟩, ⟨rfl, rfl⟩, ⟨Nat.le_of_ble_eq_true rfl, Nat.le_of_ble_eq_true rfl⟩⟩ rfl rfl (Nat.le_of_ble_eq_true rfl) rfl dL_refusesAny_414 (fun kf_414 zQ_414 hk_414 => ?_)
  refine g_bipush C (pc := 417) dL_refusesAny_417 ck_bipush_m2 ?_
  refine g_icmp_eq C (pc := 419) 424 dL_refusesAny_419 (by decide) (fun c_419 => ?_) (fun c_419 => ?_)
  · replace hf := (k_if hf).1 c_419
    exact tL_refusesAny_424 x C N ta kf_414 sf zQ_414 zS p1 y_414.2 o hk_414 hs E hf
  · replace hf := (k_if hf).2 c_419
    refine g_iconst C (pc := 422) dL_refusesAny_422 ck_iconst_0 ?_
    cases hf
    exact g_wid (Nat.le_of_ble_eq_true rfl) (Nat.le_of_ble_eq_true rfl) (g_zret C E rfl (pc := 423) dL_refusesAny_423 ⟨zQ_414, kf_414, hk_414, rfl, List.append_nil _⟩)
set_option maxRecDepth 100000 in
def jL_refusesAny_385 (p1 : Int32) (u385_0 : Int32) (k385_cs : CS) : Option (Int32 × CS) :=
  bd (oC_ofStep k385_cs u385_0 (9 : Int32)) fun y_387 : Int32 × CS => if y_387.1 = (-1 : Int32) then bd (oC_count y_387.2 (0 : Int32)) fun y_396 : Int32 × CS => if y_396.1 ≤ 0 then jL_refusesAny_424 p1 y_396.2 else if p1 = 0 then jL_refusesAny_414 p1 y_396 (-1 : Int32) else jL_refusesAny_414 p1 y_396 (7 : Int32) else some ((0 : Int32), y_387.2)
set_option maxRecDepth 100000 in
set_option maxHeartbeats 4000000 in
theorem tL_refusesAny_385 (x : GX) (C : GC x cL_refusesAny RL rmL_refusesAny) (N : xn x = 3) (ta : TA) (kf : Nat → Option Nat) (sf : Nat → Option Nat) (zQ : Nat → Nat → Nat) (zS : Nat → Nat → Nat) (p1 : Int32) (u385_0 : Int32) (k385_cs : CS) (o : Int32 × CS) (hk : HK kf zQ) (hs : HS sf zS) (E : GE x (some .boolean) 0 0 (PO (xy x) ta sf zS (.int o.1) o.2)) (hf : jL_refusesAny_385 p1 u385_0 k385_cs = some o)  : GW x 0 0 (tkw (xy x) ta kf sf zQ zS k385_cs ++ []) [(0, .ref ta.1), (1, .int p1)] 385 [.int u385_0, .ref ta.1] := by
  unfold jL_refusesAny_385 at hf
  refine g_bipush C (pc := 385) dL_refusesAny_385 ck_bipush_9 ?_
  obtain ⟨y_387, h_387, hf⟩ := k_bd hf
  refine g_callO C (pc := 387) (As := [.int u385_0, .int (9 : Int32)]) (rest := []) (v1 := .int y_387.1) (c' := y_387.2) (st' := [.int y_387.1]) lkX10_ofStep lVL_19 (kC_ofStep (xl x) (xD x) (xy x) ta kf sf zQ zS k385_cs u385_0 (9 : Int32) y_387 hk hs h_387) rfl ⟨⟨Nat.le_of_ble_eq_true rfl, Nat.le_of_ble_eq_true rfl⟩, ⟨rfl, rfl⟩, ⟨Nat.le_of_ble_eq_true rfl, Nat.le_of_ble_eq_true rfl⟩⟩ rfl rfl (Nat.le_of_ble_eq_true rfl) rfl dL_refusesAny_387 (fun kf_387 zQ_387 hk_387 => ?_)
  refine g_iconst C (pc := 390) dL_refusesAny_390 ck_iconst_m1 ?_
  refine g_icmp_ne C (pc := 391) 422 dL_refusesAny_391 (by decide) (fun c_391 => ?_) (fun c_391 => ?_)
  · replace hf := (k_if hf).2 c_391
    refine g_iconst C (pc := 422) dL_refusesAny_422 ck_iconst_0 ?_
    cases hf
    exact g_wid (Nat.le_of_ble_eq_true rfl) (Nat.le_of_ble_eq_true rfl) (g_zret C E rfl (pc := 423) dL_refusesAny_423 ⟨zQ_387, kf_387, hk_387, rfl, List.append_nil _⟩)
  · replace hf := (k_if hf).1 c_391
    refine g_aload_n C (pc := 394) 0 dL_refusesAny_394 rfl rfl ?_
    refine g_iconst C (pc := 395) dL_refusesAny_395 ck_iconst_0 ?_
    obtain ⟨y_396, h_396, hf⟩ := k_bd hf
    refine g_callO C (pc := 396) (As := [.int (0 : Int32)]) (rest := []) (v1 := .int y_396.1) (c' := y_396.2) (st' := [.int y_396.1]) lkX10_count lVL_13 (kC_count (xl x) (xD x) (xy x) ta kf_387 sf zQ_387 zS y_387.2 (0 : Int32) y_396 hk_387 hs h_396) rfl ⟨⟨Nat.le_of_ble_eq_true rfl, Nat.le_of_ble_eq_true rfl⟩, ⟨rfl, rfl⟩, ⟨Nat.le_of_ble_eq_true rfl, Nat.le_of_ble_eq_true rfl⟩⟩ rfl rfl (Nat.le_of_ble_eq_true rfl) rfl dL_refusesAny_396 (fun kf_396 zQ_396 hk_396 => ?_)
    refine g_if_le C (pc := 399) 424 dL_refusesAny_399 (by decide) (fun c_399 => ?_) (fun c_399 => ?_)
    · replace hf := (k_if hf).1 c_399
      exact tL_refusesAny_424 x C N ta kf_396 sf zQ_396 zS p1 y_396.2 o hk_396 hs E hf
    · replace hf := (k_if hf).2 c_399
      refine g_aload_n C (pc := 402) 0 dL_refusesAny_402 rfl rfl ?_
      refine g_iconst C (pc := 403) dL_refusesAny_403 ck_iconst_0 ?_
      refine g_iload_n C (pc := 404) 1 dL_refusesAny_404 rfl rfl ?_
      refine g_if_ne C (pc := 405) 412 dL_refusesAny_405 (by decide) (fun c_405 => ?_) (fun c_405 => ?_)
      · replace hf := (k_if hf).2 c_405
        refine g_bipush C (pc := 412) dL_refusesAny_412 ck_bipush_7 ?_
        exact tL_refusesAny_414 x C N ta kf_396 sf zQ_396 zS p1 y_396 (7 : Int32) o hk_396 hs E hf
      · replace hf := (k_if hf).1 c_405
        refine g_iconst C (pc := 408) dL_refusesAny_408 ck_iconst_m1 ?_
        refine g_goto C (pc := 409) (tgt := 414) dL_refusesAny_409 (by decide) ?_
        exact tL_refusesAny_414 x C N ta kf_396 sf zQ_396 zS p1 y_396 (-1 : Int32) o hk_396 hs E hf
set_option maxRecDepth 100000 in
def jL_refusesAny_363 (p1 : Int32) (y_341 : Int32 × CS) (u363_0 : Int32) : Option (Int32 × CS) :=
  bd (oC_holds y_341.2 (7 : Int32) u363_0) fun y_363 : Int32 × CS => if y_363.1 = (-2 : Int32) then if p1 = 0 then jL_refusesAny_385 p1 (-1 : Int32) y_363.2 else bd (oC_count y_363.2 (0 : Int32)) fun y_382 : Int32 × CS => jL_refusesAny_385 p1 y_382.1 y_382.2 else some ((0 : Int32), y_363.2)
set_option maxRecDepth 100000 in
set_option maxHeartbeats 4000000 in
theorem tL_refusesAny_363 (x : GX) (C : GC x cL_refusesAny RL rmL_refusesAny) (N : xn x = 3) (ta : TA) (kf : Nat → Option Nat) (sf : Nat → Option Nat) (zQ : Nat → Nat → Nat) (zS : Nat → Nat → Nat) (p1 : Int32) (y_341 : Int32 × CS) (u363_0 : Int32) (o : Int32 × CS) (hk : HK kf zQ) (hs : HS sf zS) (E : GE x (some .boolean) 0 0 (PO (xy x) ta sf zS (.int o.1) o.2)) (hf : jL_refusesAny_363 p1 y_341 u363_0 = some o)  : GW x 0 0 (tkw (xy x) ta kf sf zQ zS y_341.2 ++ []) [(0, .ref ta.1), (1, .int p1)] 363 [.int u363_0, .int (7 : Int32), .ref ta.1] := by
  unfold jL_refusesAny_363 at hf
  obtain ⟨y_363, h_363, hf⟩ := k_bd hf
  refine g_callO C (pc := 363) (As := [.int (7 : Int32), .int u363_0]) (rest := []) (v1 := .int y_363.1) (c' := y_363.2) (st' := [.int y_363.1]) lkX10_holds lVL_51 (kC_holds (xl x) (xD x) (xy x) ta kf sf zQ zS y_341.2 (7 : Int32) u363_0 y_363 hk hs h_363) rfl ⟨⟨Nat.le_of_ble_eq_true rfl, Nat.le_of_ble_eq_true rfl⟩, ⟨rfl, rfl⟩, ⟨Nat.le_of_ble_eq_true rfl, Nat.le_of_ble_eq_true rfl⟩⟩ rfl rfl (Nat.le_of_ble_eq_true rfl) rfl dL_refusesAny_363 (fun kf_363 zQ_363 hk_363 => ?_)
  refine g_bipush C (pc := 366) dL_refusesAny_366 ck_bipush_m2 ?_
  refine g_icmp_ne C (pc := 368) 422 dL_refusesAny_368 (by decide) (fun c_368 => ?_) (fun c_368 => ?_)
  · replace hf := (k_if hf).2 c_368
    refine g_iconst C (pc := 422) dL_refusesAny_422 ck_iconst_0 ?_
    cases hf
    exact g_wid (Nat.le_of_ble_eq_true rfl) (Nat.le_of_ble_eq_true rfl) (g_zret C E rfl (pc := 423) dL_refusesAny_423 ⟨zQ_363, kf_363, hk_363, rfl, List.append_nil _⟩)
  · replace hf := (k_if hf).1 c_368
    refine g_aload_n C (pc := 371) 0 dL_refusesAny_371 rfl rfl ?_
    refine g_iload_n C (pc := 372) 1 dL_refusesAny_372 rfl rfl ?_
    refine g_if_ne C (pc := 373) 380 dL_refusesAny_373 (by decide) (fun c_373 => ?_) (fun c_373 => ?_)
    · replace hf := (k_if hf).2 c_373
      refine g_aload_n C (pc := 380) 0 dL_refusesAny_380 rfl rfl ?_
      refine g_iconst C (pc := 381) dL_refusesAny_381 ck_iconst_0 ?_
      obtain ⟨y_382, h_382, hf⟩ := k_bd hf
      refine g_callO C (pc := 382) (As := [.int (0 : Int32)]) (rest := [.ref ta.1]) (v1 := .int y_382.1) (c' := y_382.2) (st' := [.int y_382.1, .ref ta.1]) lkX10_count lVL_13 (kC_count (xl x) (xD x) (xy x) ta kf_363 sf zQ_363 zS y_363.2 (0 : Int32) y_382 hk_363 hs h_382) rfl ⟨⟨Nat.le_of_ble_eq_true rfl, Nat.le_of_ble_eq_true rfl⟩, ⟨rfl, rfl⟩, ⟨Nat.le_of_ble_eq_true rfl, Nat.le_of_ble_eq_true rfl⟩⟩ rfl rfl (Nat.le_of_ble_eq_true rfl) rfl dL_refusesAny_382 (fun kf_382 zQ_382 hk_382 => ?_)
      exact tL_refusesAny_385 x C N ta kf_382 sf zQ_382 zS p1 y_382.1 y_382.2 o hk_382 hs E hf
    · replace hf := (k_if hf).1 c_373
      refine g_iconst C (pc := 376) dL_refusesAny_376 ck_iconst_m1 ?_
      refine g_goto C (pc := 377) (tgt := 385) dL_refusesAny_377 (by decide) ?_
      exact tL_refusesAny_385 x C N ta kf_363 sf zQ_363 zS p1 (-1 : Int32) y_363.2 o hk_363 hs E hf
set_option maxRecDepth 100000 in
def jL_refusesAny_329 (p1 : Int32) (y_309 : Int32 × CS) (u329_0 : Int32) : Option (Int32 × CS) :=
  bd (oC_run y_309.2 (1 : Int32) u329_0) fun y_329 : Int32 × CS => if y_329.1 = (-2 : Int32) then bd (oC_holds y_329.2 (6 : Int32) (0 : Int32)) fun y_341 : Int32 × CS => if y_341.1 = (-2 : Int32) then if p1 = 0 then jL_refusesAny_363 p1 y_341 (-1 : Int32) else jL_refusesAny_363 p1 y_341 (512 : Int32) else some ((0 : Int32), y_341.2) else some ((0 : Int32), y_329.2)
set_option maxRecDepth 100000 in
set_option maxHeartbeats 4000000 in
theorem tL_refusesAny_329 (x : GX) (C : GC x cL_refusesAny RL rmL_refusesAny) (N : xn x = 3) (ta : TA) (kf : Nat → Option Nat) (sf : Nat → Option Nat) (zQ : Nat → Nat → Nat) (zS : Nat → Nat → Nat) (p1 : Int32) (y_309 : Int32 × CS) (u329_0 : Int32) (o : Int32 × CS) (hk : HK kf zQ) (hs : HS sf zS) (E : GE x (some .boolean) 0 0 (PO (xy x) ta sf zS (.int o.1) o.2)) (hf : jL_refusesAny_329 p1 y_309 u329_0 = some o)  : GW x 0 0 (tkw (xy x) ta kf sf zQ zS y_309.2 ++ []) [(0, .ref ta.1), (1, .int p1)] 329 [.int u329_0, .int (1 : Int32), .ref ta.1] := by
  unfold jL_refusesAny_329 at hf
  obtain ⟨y_329, h_329, hf⟩ := k_bd hf
  refine g_callO C (pc := 329) (As := [.int (1 : Int32), .int u329_0]) (rest := []) (v1 := .int y_329.1) (c' := y_329.2) (st' := [.int y_329.1]) lkX10_run lVL_48 (kC_run (xl x) (xD x) (xy x) ta kf sf zQ zS y_309.2 (1 : Int32) u329_0 y_329 hk hs h_329) rfl ⟨⟨Nat.le_of_ble_eq_true rfl, Nat.le_of_ble_eq_true rfl⟩, ⟨rfl, rfl⟩, ⟨Nat.le_of_ble_eq_true rfl, Nat.le_of_ble_eq_true rfl⟩⟩ rfl rfl (Nat.le_of_ble_eq_true rfl) rfl dL_refusesAny_329 (fun kf_329 zQ_329 hk_329 => ?_)
  refine g_bipush C (pc := 332) dL_refusesAny_332 ck_bipush_m2 ?_
  refine g_icmp_ne C (pc := 334) 422 dL_refusesAny_334 (by decide) (fun c_334 => ?_) (fun c_334 => ?_)
  · replace hf := (k_if hf).2 c_334
    refine g_iconst C (pc := 422) dL_refusesAny_422 ck_iconst_0 ?_
    cases hf
    exact g_wid (Nat.le_of_ble_eq_true rfl) (Nat.le_of_ble_eq_true rfl) (g_zret C E rfl (pc := 423) dL_refusesAny_423 ⟨zQ_329, kf_329, hk_329, rfl, List.append_nil _⟩)
  · replace hf := (k_if hf).1 c_334
    refine g_aload_n C (pc := 337) 0 dL_refusesAny_337 rfl rfl ?_
    refine g_bipush C (pc := 338) dL_refusesAny_338 ck_bipush_6 ?_
    refine g_iconst C (pc := 340) dL_refusesAny_340 ck_iconst_0 ?_
    obtain ⟨y_341, h_341, hf⟩ := k_bd hf
    refine g_callO C (pc := 341) (As := [.int (6 : Int32), .int (0 : Int32)]) (rest := []) (v1 := .int y_341.1) (c' := y_341.2) (st' := [.int y_341.1]) lkX10_holds lVL_51 (kC_holds (xl x) (xD x) (xy x) ta kf_329 sf zQ_329 zS y_329.2 (6 : Int32) (0 : Int32) y_341 hk_329 hs h_341) rfl ⟨⟨Nat.le_of_ble_eq_true rfl, Nat.le_of_ble_eq_true rfl⟩, ⟨rfl, rfl⟩, ⟨Nat.le_of_ble_eq_true rfl, Nat.le_of_ble_eq_true rfl⟩⟩ rfl rfl (Nat.le_of_ble_eq_true rfl) rfl dL_refusesAny_341 (fun kf_341 zQ_341 hk_341 => ?_)
    refine g_bipush C (pc := 344) dL_refusesAny_344 ck_bipush_m2 ?_
    refine g_icmp_ne C (pc := 346) 422 dL_refusesAny_346 (by decide) (fun c_346 => ?_) (fun c_346 => ?_)
    · replace hf := (k_if hf).2 c_346
      refine g_iconst C (pc := 422) dL_refusesAny_422 ck_iconst_0 ?_
      cases hf
      exact g_wid (Nat.le_of_ble_eq_true rfl) (Nat.le_of_ble_eq_true rfl) (g_zret C E rfl (pc := 423) dL_refusesAny_423 ⟨zQ_341, kf_341, hk_341, rfl, List.append_nil _⟩)
    · replace hf := (k_if hf).1 c_346
      refine g_aload_n C (pc := 349) 0 dL_refusesAny_349 rfl rfl ?_
      refine g_bipush C (pc := 350) dL_refusesAny_350 ck_bipush_7 ?_
      refine g_iload_n C (pc := 352) 1 dL_refusesAny_352 rfl rfl ?_
      refine g_if_ne C (pc := 353) 360 dL_refusesAny_353 (by decide) (fun c_353 => ?_) (fun c_353 => ?_)
      · replace hf := (k_if hf).2 c_353
        refine g_sipush C (pc := 360) dL_refusesAny_360 ck_sipush_512 ?_
        exact tL_refusesAny_363 x C N ta kf_341 sf zQ_341 zS p1 y_341 (512 : Int32) o hk_341 hs E hf
      · replace hf := (k_if hf).1 c_353
        refine g_iconst C (pc := 356) dL_refusesAny_356 ck_iconst_m1 ?_
        refine g_goto C (pc := 357) (tgt := 363) dL_refusesAny_357 (by decide) ?_
        exact tL_refusesAny_363 x C N ta kf_341 sf zQ_341 zS p1 y_341 (-1 : Int32) o hk_341 hs E hf
set_option maxRecDepth 100000 in
def jL_refusesAny_298 (p1 : Int32) (y_279 : Int32 × CS) (u298_0 : Int32) : Option (Int32 × CS) :=
  bd (oC_guess y_279.2 u298_0) fun y_298 : Int32 × CS => if y_298.1 = (-2 : Int32) then bd (oC_run y_298.2 (-1 : Int32) (5 : Int32)) fun y_309 : Int32 × CS => if y_309.1 = (-2 : Int32) then if p1 = 0 then jL_refusesAny_329 p1 y_309 (0 : Int32) else jL_refusesAny_329 p1 y_309 (100 : Int32) else some ((0 : Int32), y_309.2) else some ((0 : Int32), y_298.2)
set_option maxRecDepth 100000 in
set_option maxHeartbeats 4000000 in
theorem tL_refusesAny_298 (x : GX) (C : GC x cL_refusesAny RL rmL_refusesAny) (N : xn x = 3) (ta : TA) (kf : Nat → Option Nat) (sf : Nat → Option Nat) (zQ : Nat → Nat → Nat) (zS : Nat → Nat → Nat) (p1 : Int32) (y_279 : Int32 × CS) (u298_0 : Int32) (o : Int32 × CS) (hk : HK kf zQ) (hs : HS sf zS) (E : GE x (some .boolean) 0 0 (PO (xy x) ta sf zS (.int o.1) o.2)) (hf : jL_refusesAny_298 p1 y_279 u298_0 = some o)  : GW x 0 0 (tkw (xy x) ta kf sf zQ zS y_279.2 ++ []) [(0, .ref ta.1), (1, .int p1)] 298 [.int u298_0, .ref ta.1] := by
  unfold jL_refusesAny_298 at hf
  obtain ⟨y_298, h_298, hf⟩ := k_bd hf
  refine g_callO C (pc := 298) (As := [.int u298_0]) (rest := []) (v1 := .int y_298.1) (c' := y_298.2) (st' := [.int y_298.1]) lkX10_guess lVL_45 (kC_guess (xl x) (xD x) (xy x) ta kf sf zQ zS y_279.2 u298_0 y_298 hk hs h_298) rfl ⟨⟨Nat.le_of_ble_eq_true rfl, Nat.le_of_ble_eq_true rfl⟩, ⟨rfl, rfl⟩, ⟨Nat.le_of_ble_eq_true rfl, Nat.le_of_ble_eq_true rfl⟩⟩ rfl rfl (Nat.le_of_ble_eq_true rfl) rfl dL_refusesAny_298 (fun kf_298 zQ_298 hk_298 => ?_)
  refine g_bipush C (pc := 301) dL_refusesAny_301 ck_bipush_m2 ?_
  refine g_icmp_ne C (pc := 303) 422 dL_refusesAny_303 (by decide) (fun c_303 => ?_) (fun c_303 => ?_)
  · replace hf := (k_if hf).2 c_303
    refine g_iconst C (pc := 422) dL_refusesAny_422 ck_iconst_0 ?_
    cases hf
    exact g_wid (Nat.le_of_ble_eq_true rfl) (Nat.le_of_ble_eq_true rfl) (g_zret C E rfl (pc := 423) dL_refusesAny_423 ⟨zQ_298, kf_298, hk_298, rfl, List.append_nil _⟩)
  · replace hf := (k_if hf).1 c_303
    refine g_aload_n C (pc := 306) 0 dL_refusesAny_306 rfl rfl ?_
    refine g_iconst C (pc := 307) dL_refusesAny_307 ck_iconst_m1 ?_
    refine g_iconst C (pc := 308) dL_refusesAny_308 ck_iconst_5 ?_
    obtain ⟨y_309, h_309, hf⟩ := k_bd hf
    refine g_callO C (pc := 309) (As := [.int (-1 : Int32), .int (5 : Int32)]) (rest := []) (v1 := .int y_309.1) (c' := y_309.2) (st' := [.int y_309.1]) lkX10_run lVL_48 (kC_run (xl x) (xD x) (xy x) ta kf_298 sf zQ_298 zS y_298.2 (-1 : Int32) (5 : Int32) y_309 hk_298 hs h_309) rfl ⟨⟨Nat.le_of_ble_eq_true rfl, Nat.le_of_ble_eq_true rfl⟩, ⟨rfl, rfl⟩, ⟨Nat.le_of_ble_eq_true rfl, Nat.le_of_ble_eq_true rfl⟩⟩ rfl rfl (Nat.le_of_ble_eq_true rfl) rfl dL_refusesAny_309 (fun kf_309 zQ_309 hk_309 => ?_)
    refine g_bipush C (pc := 312) dL_refusesAny_312 ck_bipush_m2 ?_
    refine g_icmp_ne C (pc := 314) 422 dL_refusesAny_314 (by decide) (fun c_314 => ?_) (fun c_314 => ?_)
    · replace hf := (k_if hf).2 c_314
      refine g_iconst C (pc := 422) dL_refusesAny_422 ck_iconst_0 ?_
      cases hf
      exact g_wid (Nat.le_of_ble_eq_true rfl) (Nat.le_of_ble_eq_true rfl) (g_zret C E rfl (pc := 423) dL_refusesAny_423 ⟨zQ_309, kf_309, hk_309, rfl, List.append_nil _⟩)
    · replace hf := (k_if hf).1 c_314
      refine g_aload_n C (pc := 317) 0 dL_refusesAny_317 rfl rfl ?_
      refine g_iconst C (pc := 318) dL_refusesAny_318 ck_iconst_1 ?_
      refine g_iload_n C (pc := 319) 1 dL_refusesAny_319 rfl rfl ?_
      refine g_if_ne C (pc := 320) 327 dL_refusesAny_320 (by decide) (fun c_320 => ?_) (fun c_320 => ?_)
      · replace hf := (k_if hf).2 c_320
        refine g_bipush C (pc := 327) dL_refusesAny_327 ck_bipush_100 ?_
        exact tL_refusesAny_329 x C N ta kf_309 sf zQ_309 zS p1 y_309 (100 : Int32) o hk_309 hs E hf
      · replace hf := (k_if hf).1 c_320
        refine g_iconst C (pc := 323) dL_refusesAny_323 ck_iconst_0 ?_
        refine g_goto C (pc := 324) (tgt := 329) dL_refusesAny_324 (by decide) ?_
        exact tL_refusesAny_329 x C N ta kf_309 sf zQ_309 zS p1 y_309 (0 : Int32) o hk_309 hs E hf
set_option maxRecDepth 100000 in
def jL_refusesAny_279 (p1 : Int32) (y_261 : Int32 × CS) (u279_0 : Int32) : Option (Int32 × CS) :=
  bd (oC_candidate y_261.2 u279_0) fun y_279 : Int32 × CS => if y_279.1 = (-2 : Int32) then if p1 = 0 then jL_refusesAny_298 p1 y_279 (0 : Int32) else jL_refusesAny_298 p1 y_279 (10 : Int32) else some ((0 : Int32), y_279.2)
set_option maxRecDepth 100000 in
set_option maxHeartbeats 4000000 in
theorem tL_refusesAny_279 (x : GX) (C : GC x cL_refusesAny RL rmL_refusesAny) (N : xn x = 3) (ta : TA) (kf : Nat → Option Nat) (sf : Nat → Option Nat) (zQ : Nat → Nat → Nat) (zS : Nat → Nat → Nat) (p1 : Int32) (y_261 : Int32 × CS) (u279_0 : Int32) (o : Int32 × CS) (hk : HK kf zQ) (hs : HS sf zS) (E : GE x (some .boolean) 0 0 (PO (xy x) ta sf zS (.int o.1) o.2)) (hf : jL_refusesAny_279 p1 y_261 u279_0 = some o)  : GW x 0 0 (tkw (xy x) ta kf sf zQ zS y_261.2 ++ []) [(0, .ref ta.1), (1, .int p1)] 279 [.int u279_0, .ref ta.1] := by
  unfold jL_refusesAny_279 at hf
  obtain ⟨y_279, h_279, hf⟩ := k_bd hf
  refine g_callO C (pc := 279) (As := [.int u279_0]) (rest := []) (v1 := .int y_279.1) (c' := y_279.2) (st' := [.int y_279.1]) lkX10_candidate lVL_42 (kC_candidate (xl x) (xD x) (xy x) ta kf sf zQ zS y_261.2 u279_0 y_279 hk hs h_279) rfl ⟨⟨Nat.le_of_ble_eq_true rfl, Nat.le_of_ble_eq_true rfl⟩, ⟨rfl, rfl⟩, ⟨Nat.le_of_ble_eq_true rfl, Nat.le_of_ble_eq_true rfl⟩⟩ rfl rfl (Nat.le_of_ble_eq_true rfl) rfl dL_refusesAny_279 (fun kf_279 zQ_279 hk_279 => ?_)
  refine g_bipush C (pc := 282) dL_refusesAny_282 ck_bipush_m2 ?_
  refine g_icmp_ne C (pc := 284) 422 dL_refusesAny_284 (by decide) (fun c_284 => ?_) (fun c_284 => ?_)
  · replace hf := (k_if hf).2 c_284
    refine g_iconst C (pc := 422) dL_refusesAny_422 ck_iconst_0 ?_
    cases hf
    exact g_wid (Nat.le_of_ble_eq_true rfl) (Nat.le_of_ble_eq_true rfl) (g_zret C E rfl (pc := 423) dL_refusesAny_423 ⟨zQ_279, kf_279, hk_279, rfl, List.append_nil _⟩)
  · replace hf := (k_if hf).1 c_284
    refine g_aload_n C (pc := 287) 0 dL_refusesAny_287 rfl rfl ?_
    refine g_iload_n C (pc := 288) 1 dL_refusesAny_288 rfl rfl ?_
    refine g_if_ne C (pc := 289) 296 dL_refusesAny_289 (by decide) (fun c_289 => ?_) (fun c_289 => ?_)
    · replace hf := (k_if hf).2 c_289
      refine g_bipush C (pc := 296) dL_refusesAny_296 ck_bipush_10 ?_
      exact tL_refusesAny_298 x C N ta kf_279 sf zQ_279 zS p1 y_279 (10 : Int32) o hk_279 hs E hf
    · replace hf := (k_if hf).1 c_289
      refine g_iconst C (pc := 292) dL_refusesAny_292 ck_iconst_0 ?_
      refine g_goto C (pc := 293) (tgt := 298) dL_refusesAny_293 (by decide) ?_
      exact tL_refusesAny_298 x C N ta kf_279 sf zQ_279 zS p1 y_279 (0 : Int32) o hk_279 hs E hf
set_option maxRecDepth 100000 in
def jL_refusesAny_261 (p1 : Int32) (u261_0 : Int32) (k261_cs : CS) : Option (Int32 × CS) :=
  bd (oC_drop k261_cs u261_0) fun y_261 : Int32 × CS => if y_261.1 = (-1 : Int32) then if p1 = 0 then jL_refusesAny_279 p1 y_261 (8 : Int32) else jL_refusesAny_279 p1 y_261 (-1 : Int32) else some ((0 : Int32), y_261.2)
set_option maxRecDepth 100000 in
set_option maxHeartbeats 4000000 in
theorem tL_refusesAny_261 (x : GX) (C : GC x cL_refusesAny RL rmL_refusesAny) (N : xn x = 3) (ta : TA) (kf : Nat → Option Nat) (sf : Nat → Option Nat) (zQ : Nat → Nat → Nat) (zS : Nat → Nat → Nat) (p1 : Int32) (u261_0 : Int32) (k261_cs : CS) (o : Int32 × CS) (hk : HK kf zQ) (hs : HS sf zS) (E : GE x (some .boolean) 0 0 (PO (xy x) ta sf zS (.int o.1) o.2)) (hf : jL_refusesAny_261 p1 u261_0 k261_cs = some o)  : GW x 0 0 (tkw (xy x) ta kf sf zQ zS k261_cs ++ []) [(0, .ref ta.1), (1, .int p1)] 261 [.int u261_0, .ref ta.1] := by
  unfold jL_refusesAny_261 at hf
  obtain ⟨y_261, h_261, hf⟩ := k_bd hf
  refine g_callO C (pc := 261) (As := [.int u261_0]) (rest := []) (v1 := .int y_261.1) (c' := y_261.2) (st' := [.int y_261.1]) lkX10_drop lVL_39 (kC_drop (xl x) (xD x) (xy x) ta kf sf zQ zS k261_cs u261_0 y_261 hk hs h_261) rfl ⟨⟨Nat.le_of_ble_eq_true rfl, Nat.le_of_ble_eq_true rfl⟩, ⟨rfl, rfl⟩, ⟨Nat.le_of_ble_eq_true rfl, Nat.le_of_ble_eq_true rfl⟩⟩ rfl rfl (Nat.le_of_ble_eq_true rfl) rfl dL_refusesAny_261 (fun kf_261 zQ_261 hk_261 => ?_)
  refine g_iconst C (pc := 264) dL_refusesAny_264 ck_iconst_m1 ?_
  refine g_icmp_ne C (pc := 265) 422 dL_refusesAny_265 (by decide) (fun c_265 => ?_) (fun c_265 => ?_)
  · replace hf := (k_if hf).2 c_265
    refine g_iconst C (pc := 422) dL_refusesAny_422 ck_iconst_0 ?_
    cases hf
    exact g_wid (Nat.le_of_ble_eq_true rfl) (Nat.le_of_ble_eq_true rfl) (g_zret C E rfl (pc := 423) dL_refusesAny_423 ⟨zQ_261, kf_261, hk_261, rfl, List.append_nil _⟩)
  · replace hf := (k_if hf).1 c_265
    refine g_aload_n C (pc := 268) 0 dL_refusesAny_268 rfl rfl ?_
    refine g_iload_n C (pc := 269) 1 dL_refusesAny_269 rfl rfl ?_
    refine g_if_ne C (pc := 270) 278 dL_refusesAny_270 (by decide) (fun c_270 => ?_) (fun c_270 => ?_)
    · replace hf := (k_if hf).2 c_270
      refine g_iconst C (pc := 278) dL_refusesAny_278 ck_iconst_m1 ?_
      exact tL_refusesAny_279 x C N ta kf_261 sf zQ_261 zS p1 y_261 (-1 : Int32) o hk_261 hs E hf
    · replace hf := (k_if hf).1 c_270
      refine g_bipush C (pc := 273) dL_refusesAny_273 ck_bipush_8 ?_
      refine g_goto C (pc := 275) (tgt := 279) dL_refusesAny_275 (by decide) ?_
      exact tL_refusesAny_279 x C N ta kf_261 sf zQ_261 zS p1 y_261 (8 : Int32) o hk_261 hs E hf
set_option maxRecDepth 100000 in
def jL_refusesAny_236 (p1 : Int32) (y_214 : Int32 × CS) (u236_0 : Int32) : Option (Int32 × CS) :=
  bd (oC_step y_214.2 (7 : Int32) (2 : Int32) (1 : Int32) u236_0 p1) fun y_237 : Int32 × CS => if y_237.1 = (-2 : Int32) then if p1 = 0 then jL_refusesAny_261 p1 (-1 : Int32) y_237.2 else bd (oC_count y_237.2 (0 : Int32)) fun y_258 : Int32 × CS => jL_refusesAny_261 p1 y_258.1 y_258.2 else some ((0 : Int32), y_237.2)
set_option maxRecDepth 100000 in
set_option maxHeartbeats 4000000 in
theorem tL_refusesAny_236 (x : GX) (C : GC x cL_refusesAny RL rmL_refusesAny) (N : xn x = 3) (ta : TA) (kf : Nat → Option Nat) (sf : Nat → Option Nat) (zQ : Nat → Nat → Nat) (zS : Nat → Nat → Nat) (p1 : Int32) (y_214 : Int32 × CS) (u236_0 : Int32) (o : Int32 × CS) (hk : HK kf zQ) (hs : HS sf zS) (E : GE x (some .boolean) 0 0 (PO (xy x) ta sf zS (.int o.1) o.2)) (hf : jL_refusesAny_236 p1 y_214 u236_0 = some o)  : GW x 0 0 (tkw (xy x) ta kf sf zQ zS y_214.2 ++ []) [(0, .ref ta.1), (1, .int p1)] 236 [.int u236_0, .int (1 : Int32), .int (2 : Int32), .int (7 : Int32), .ref ta.1] := by
  unfold jL_refusesAny_236 at hf
  refine g_iload_n C (pc := 236) 1 dL_refusesAny_236 rfl rfl ?_
  obtain ⟨y_237, h_237, hf⟩ := k_bd hf
  refine g_callO C (pc := 237) (As := [.int (7 : Int32), .int (2 : Int32), .int (1 : Int32), .int u236_0, .int p1]) (rest := []) (v1 := .int y_237.1) (c' := y_237.2) (st' := [.int y_237.1]) lkX10_step lVL_35 (kC_step (xl x) (xD x) (xy x) ta kf sf zQ zS y_214.2 (7 : Int32) (2 : Int32) (1 : Int32) u236_0 p1 y_237 hk hs h_237) rfl ⟨⟨Nat.le_of_ble_eq_true rfl, Nat.le_of_ble_eq_true rfl⟩, ⟨rfl, rfl⟩, ⟨Nat.le_of_ble_eq_true rfl, Nat.le_of_ble_eq_true rfl⟩⟩ rfl rfl (Nat.le_of_ble_eq_true rfl) rfl dL_refusesAny_237 (fun kf_237 zQ_237 hk_237 => ?_)
  refine g_bipush C (pc := 240) dL_refusesAny_240 ck_bipush_m2 ?_
  refine g_icmp_eq C (pc := 242) 247 dL_refusesAny_242 (by decide) (fun c_242 => ?_) (fun c_242 => ?_)
  · replace hf := (k_if hf).1 c_242
    refine g_aload_n C (pc := 247) 0 dL_refusesAny_247 rfl rfl ?_
    refine g_iload_n C (pc := 248) 1 dL_refusesAny_248 rfl rfl ?_
    refine g_if_ne C (pc := 249) 256 dL_refusesAny_249 (by decide) (fun c_249 => ?_) (fun c_249 => ?_)
    · replace hf := (k_if hf).2 c_249
      refine g_aload_n C (pc := 256) 0 dL_refusesAny_256 rfl rfl ?_
      refine g_iconst C (pc := 257) dL_refusesAny_257 ck_iconst_0 ?_
      obtain ⟨y_258, h_258, hf⟩ := k_bd hf
      refine g_callO C (pc := 258) (As := [.int (0 : Int32)]) (rest := [.ref ta.1]) (v1 := .int y_258.1) (c' := y_258.2) (st' := [.int y_258.1, .ref ta.1]) lkX10_count lVL_13 (kC_count (xl x) (xD x) (xy x) ta kf_237 sf zQ_237 zS y_237.2 (0 : Int32) y_258 hk_237 hs h_258) rfl ⟨⟨Nat.le_of_ble_eq_true rfl, Nat.le_of_ble_eq_true rfl⟩, ⟨rfl, rfl⟩, ⟨Nat.le_of_ble_eq_true rfl, Nat.le_of_ble_eq_true rfl⟩⟩ rfl rfl (Nat.le_of_ble_eq_true rfl) rfl dL_refusesAny_258 (fun kf_258 zQ_258 hk_258 => ?_)
      exact tL_refusesAny_261 x C N ta kf_258 sf zQ_258 zS p1 y_258.1 y_258.2 o hk_258 hs E hf
    · replace hf := (k_if hf).1 c_249
      refine g_iconst C (pc := 252) dL_refusesAny_252 ck_iconst_m1 ?_
      refine g_goto C (pc := 253) (tgt := 261) dL_refusesAny_253 (by decide) ?_
      exact tL_refusesAny_261 x C N ta kf_237 sf zQ_237 zS p1 (-1 : Int32) y_237.2 o hk_237 hs E hf
  · replace hf := (k_if hf).2 c_242
    refine g_iconst C (pc := 245) dL_refusesAny_245 ck_iconst_0 ?_
    cases hf
    exact g_wid (Nat.le_of_ble_eq_true rfl) (Nat.le_of_ble_eq_true rfl) (g_zret C E rfl (pc := 246) dL_refusesAny_246 ⟨zQ_237, kf_237, hk_237, rfl, List.append_nil _⟩)
set_option maxRecDepth 100000 in
def jL_refusesAny_213 (p1 : Int32) (y_191 : Int32 × CS) (u213_0 : Int32) : Option (Int32 × CS) :=
  bd (oC_step y_191.2 (7 : Int32) (1 : Int32) (0 : Int32) u213_0 (0 : Int32)) fun y_214 : Int32 × CS => if y_214.1 = (-2 : Int32) then if p1 = 0 then jL_refusesAny_236 p1 y_214 (1 : Int32) else jL_refusesAny_236 p1 y_214 (2 : Int32) else some ((0 : Int32), y_214.2)
set_option maxRecDepth 100000 in
set_option maxHeartbeats 4000000 in
theorem tL_refusesAny_213 (x : GX) (C : GC x cL_refusesAny RL rmL_refusesAny) (N : xn x = 3) (ta : TA) (kf : Nat → Option Nat) (sf : Nat → Option Nat) (zQ : Nat → Nat → Nat) (zS : Nat → Nat → Nat) (p1 : Int32) (y_191 : Int32 × CS) (u213_0 : Int32) (o : Int32 × CS) (hk : HK kf zQ) (hs : HS sf zS) (E : GE x (some .boolean) 0 0 (PO (xy x) ta sf zS (.int o.1) o.2)) (hf : jL_refusesAny_213 p1 y_191 u213_0 = some o)  : GW x 0 0 (tkw (xy x) ta kf sf zQ zS y_191.2 ++ []) [(0, .ref ta.1), (1, .int p1)] 213 [.int u213_0, .int (0 : Int32), .int (1 : Int32), .int (7 : Int32), .ref ta.1] := by
  unfold jL_refusesAny_213 at hf
  refine g_iconst C (pc := 213) dL_refusesAny_213 ck_iconst_0 ?_
  obtain ⟨y_214, h_214, hf⟩ := k_bd hf
  refine g_callO C (pc := 214) (As := [.int (7 : Int32), .int (1 : Int32), .int (0 : Int32), .int u213_0, .int (0 : Int32)]) (rest := []) (v1 := .int y_214.1) (c' := y_214.2) (st' := [.int y_214.1]) lkX10_step lVL_35 (kC_step (xl x) (xD x) (xy x) ta kf sf zQ zS y_191.2 (7 : Int32) (1 : Int32) (0 : Int32) u213_0 (0 : Int32) y_214 hk hs h_214) rfl ⟨⟨Nat.le_of_ble_eq_true rfl, Nat.le_of_ble_eq_true rfl⟩, ⟨rfl, rfl⟩, ⟨Nat.le_of_ble_eq_true rfl, Nat.le_of_ble_eq_true rfl⟩⟩ rfl rfl (Nat.le_of_ble_eq_true rfl) rfl dL_refusesAny_214 (fun kf_214 zQ_214 hk_214 => ?_)
  refine g_bipush C (pc := 217) dL_refusesAny_217 ck_bipush_m2 ?_
  refine g_icmp_ne C (pc := 219) 245 dL_refusesAny_219 (by decide) (fun c_219 => ?_) (fun c_219 => ?_)
  · replace hf := (k_if hf).2 c_219
    refine g_iconst C (pc := 245) dL_refusesAny_245 ck_iconst_0 ?_
    cases hf
    exact g_wid (Nat.le_of_ble_eq_true rfl) (Nat.le_of_ble_eq_true rfl) (g_zret C E rfl (pc := 246) dL_refusesAny_246 ⟨zQ_214, kf_214, hk_214, rfl, List.append_nil _⟩)
  · replace hf := (k_if hf).1 c_219
    refine g_aload_n C (pc := 222) 0 dL_refusesAny_222 rfl rfl ?_
    refine g_bipush C (pc := 223) dL_refusesAny_223 ck_bipush_7 ?_
    refine g_iconst C (pc := 225) dL_refusesAny_225 ck_iconst_2 ?_
    refine g_iconst C (pc := 226) dL_refusesAny_226 ck_iconst_1 ?_
    refine g_iload_n C (pc := 227) 1 dL_refusesAny_227 rfl rfl ?_
    refine g_if_ne C (pc := 228) 235 dL_refusesAny_228 (by decide) (fun c_228 => ?_) (fun c_228 => ?_)
    · replace hf := (k_if hf).2 c_228
      refine g_iconst C (pc := 235) dL_refusesAny_235 ck_iconst_2 ?_
      exact tL_refusesAny_236 x C N ta kf_214 sf zQ_214 zS p1 y_214 (2 : Int32) o hk_214 hs E hf
    · replace hf := (k_if hf).1 c_228
      refine g_iconst C (pc := 231) dL_refusesAny_231 ck_iconst_1 ?_
      refine g_goto C (pc := 232) (tgt := 236) dL_refusesAny_232 (by decide) ?_
      exact tL_refusesAny_236 x C N ta kf_214 sf zQ_214 zS p1 y_214 (1 : Int32) o hk_214 hs E hf
set_option maxRecDepth 100000 in
def jL_refusesAny_191 (p1 : Int32) (y_166 : Int32 × CS) (u191_0 : Int32) : Option (Int32 × CS) :=
  bd (oC_step y_166.2 (7 : Int32) (1 : Int32) (0 : Int32) (1 : Int32) u191_0) fun y_191 : Int32 × CS => if y_191.1 = (-2 : Int32) then if p1 = 0 then jL_refusesAny_213 p1 y_191 (-1 : Int32) else jL_refusesAny_213 p1 y_191 (3 : Int32) else some ((0 : Int32), y_191.2)
set_option maxRecDepth 100000 in
set_option maxHeartbeats 4000000 in
theorem tL_refusesAny_191 (x : GX) (C : GC x cL_refusesAny RL rmL_refusesAny) (N : xn x = 3) (ta : TA) (kf : Nat → Option Nat) (sf : Nat → Option Nat) (zQ : Nat → Nat → Nat) (zS : Nat → Nat → Nat) (p1 : Int32) (y_166 : Int32 × CS) (u191_0 : Int32) (o : Int32 × CS) (hk : HK kf zQ) (hs : HS sf zS) (E : GE x (some .boolean) 0 0 (PO (xy x) ta sf zS (.int o.1) o.2)) (hf : jL_refusesAny_191 p1 y_166 u191_0 = some o)  : GW x 0 0 (tkw (xy x) ta kf sf zQ zS y_166.2 ++ []) [(0, .ref ta.1), (1, .int p1)] 191 [.int u191_0, .int (1 : Int32), .int (0 : Int32), .int (1 : Int32), .int (7 : Int32), .ref ta.1] := by
  unfold jL_refusesAny_191 at hf
  obtain ⟨y_191, h_191, hf⟩ := k_bd hf
  refine g_callO C (pc := 191) (As := [.int (7 : Int32), .int (1 : Int32), .int (0 : Int32), .int (1 : Int32), .int u191_0]) (rest := []) (v1 := .int y_191.1) (c' := y_191.2) (st' := [.int y_191.1]) lkX10_step lVL_35 (kC_step (xl x) (xD x) (xy x) ta kf sf zQ zS y_166.2 (7 : Int32) (1 : Int32) (0 : Int32) (1 : Int32) u191_0 y_191 hk hs h_191) rfl ⟨⟨Nat.le_of_ble_eq_true rfl, Nat.le_of_ble_eq_true rfl⟩, ⟨rfl, rfl⟩, ⟨Nat.le_of_ble_eq_true rfl, Nat.le_of_ble_eq_true rfl⟩⟩ rfl rfl (Nat.le_of_ble_eq_true rfl) rfl dL_refusesAny_191 (fun kf_191 zQ_191 hk_191 => ?_)
  refine g_bipush C (pc := 194) dL_refusesAny_194 ck_bipush_m2 ?_
  refine g_icmp_ne C (pc := 196) 245 dL_refusesAny_196 (by decide) (fun c_196 => ?_) (fun c_196 => ?_)
  · replace hf := (k_if hf).2 c_196
    refine g_iconst C (pc := 245) dL_refusesAny_245 ck_iconst_0 ?_
    cases hf
    exact g_wid (Nat.le_of_ble_eq_true rfl) (Nat.le_of_ble_eq_true rfl) (g_zret C E rfl (pc := 246) dL_refusesAny_246 ⟨zQ_191, kf_191, hk_191, rfl, List.append_nil _⟩)
  · replace hf := (k_if hf).1 c_196
    refine g_aload_n C (pc := 199) 0 dL_refusesAny_199 rfl rfl ?_
    refine g_bipush C (pc := 200) dL_refusesAny_200 ck_bipush_7 ?_
    refine g_iconst C (pc := 202) dL_refusesAny_202 ck_iconst_1 ?_
    refine g_iconst C (pc := 203) dL_refusesAny_203 ck_iconst_0 ?_
    refine g_iload_n C (pc := 204) 1 dL_refusesAny_204 rfl rfl ?_
    refine g_if_ne C (pc := 205) 212 dL_refusesAny_205 (by decide) (fun c_205 => ?_) (fun c_205 => ?_)
    · replace hf := (k_if hf).2 c_205
      refine g_iconst C (pc := 212) dL_refusesAny_212 ck_iconst_3 ?_
      exact tL_refusesAny_213 x C N ta kf_191 sf zQ_191 zS p1 y_191 (3 : Int32) o hk_191 hs E hf
    · replace hf := (k_if hf).1 c_205
      refine g_iconst C (pc := 208) dL_refusesAny_208 ck_iconst_m1 ?_
      refine g_goto C (pc := 209) (tgt := 213) dL_refusesAny_209 (by decide) ?_
      exact tL_refusesAny_213 x C N ta kf_191 sf zQ_191 zS p1 y_191 (-1 : Int32) o hk_191 hs E hf
set_option maxRecDepth 100000 in
def jL_refusesAny_150 (p1 : Int32) (u10_0 : Int32) (y_128 : Int32 × CS) (u150_0 : Int32) : Option (Int32 × CS) :=
  bd (oC_step y_128.2 (7 : Int32) (0 : Int32) (0 : Int32) u150_0 (0 : Int32)) fun y_151 : Int32 × CS => if y_151.1 = (-2 : Int32) then bd (oC_step y_151.2 (7 : Int32) (0 : Int32) (0 : Int32) (0 : Int32) u10_0) fun y_166 : Int32 × CS => if y_166.1 = (-2 : Int32) then if p1 = 0 then jL_refusesAny_191 p1 y_166 (-8 : Int32) else jL_refusesAny_191 p1 y_166 (8 : Int32) else some ((0 : Int32), y_166.2) else some ((0 : Int32), y_151.2)
set_option maxRecDepth 100000 in
set_option maxHeartbeats 4000000 in
theorem tL_refusesAny_150 (x : GX) (C : GC x cL_refusesAny RL rmL_refusesAny) (N : xn x = 3) (ta : TA) (kf : Nat → Option Nat) (sf : Nat → Option Nat) (zQ : Nat → Nat → Nat) (zS : Nat → Nat → Nat) (p1 : Int32) (u10_0 : Int32) (y_128 : Int32 × CS) (u150_0 : Int32) (o : Int32 × CS) (hk : HK kf zQ) (hs : HS sf zS) (E : GE x (some .boolean) 0 0 (PO (xy x) ta sf zS (.int o.1) o.2)) (hf : jL_refusesAny_150 p1 u10_0 y_128 u150_0 = some o)  : GW x 0 0 (tkw (xy x) ta kf sf zQ zS y_128.2 ++ []) [(0, .ref ta.1), (1, .int p1), (2, .int u10_0)] 150 [.int u150_0, .int (0 : Int32), .int (0 : Int32), .int (7 : Int32), .ref ta.1] := by
  unfold jL_refusesAny_150 at hf
  refine g_iconst C (pc := 150) dL_refusesAny_150 ck_iconst_0 ?_
  obtain ⟨y_151, h_151, hf⟩ := k_bd hf
  refine g_callO C (pc := 151) (As := [.int (7 : Int32), .int (0 : Int32), .int (0 : Int32), .int u150_0, .int (0 : Int32)]) (rest := []) (v1 := .int y_151.1) (c' := y_151.2) (st' := [.int y_151.1]) lkX10_step lVL_35 (kC_step (xl x) (xD x) (xy x) ta kf sf zQ zS y_128.2 (7 : Int32) (0 : Int32) (0 : Int32) u150_0 (0 : Int32) y_151 hk hs h_151) rfl ⟨⟨Nat.le_of_ble_eq_true rfl, Nat.le_of_ble_eq_true rfl⟩, ⟨rfl, rfl⟩, ⟨Nat.le_of_ble_eq_true rfl, Nat.le_of_ble_eq_true rfl⟩⟩ rfl rfl (Nat.le_of_ble_eq_true rfl) rfl dL_refusesAny_151 (fun kf_151 zQ_151 hk_151 => ?_)
  refine g_bipush C (pc := 154) dL_refusesAny_154 ck_bipush_m2 ?_
  refine g_icmp_ne C (pc := 156) 245 dL_refusesAny_156 (by decide) (fun c_156 => ?_) (fun c_156 => ?_)
  · replace hf := (k_if hf).2 c_156
    refine g_iconst C (pc := 245) dL_refusesAny_245 ck_iconst_0 ?_
    cases hf
    exact g_wid (Nat.le_of_ble_eq_true rfl) (Nat.le_of_ble_eq_true rfl) (g_zret C E rfl (pc := 246) dL_refusesAny_246 ⟨zQ_151, kf_151, hk_151, rfl, List.append_nil _⟩)
  · replace hf := (k_if hf).1 c_156
    refine g_aload_n C (pc := 159) 0 dL_refusesAny_159 rfl rfl ?_
    refine g_bipush C (pc := 160) dL_refusesAny_160 ck_bipush_7 ?_
    refine g_iconst C (pc := 162) dL_refusesAny_162 ck_iconst_0 ?_
    refine g_iconst C (pc := 163) dL_refusesAny_163 ck_iconst_0 ?_
    refine g_iconst C (pc := 164) dL_refusesAny_164 ck_iconst_0 ?_
    refine g_iload_n C (pc := 165) 2 dL_refusesAny_165 rfl rfl ?_
    obtain ⟨y_166, h_166, hf⟩ := k_bd hf
    refine g_callO C (pc := 166) (As := [.int (7 : Int32), .int (0 : Int32), .int (0 : Int32), .int (0 : Int32), .int u10_0]) (rest := []) (v1 := .int y_166.1) (c' := y_166.2) (st' := [.int y_166.1]) lkX10_step lVL_35 (kC_step (xl x) (xD x) (xy x) ta kf_151 sf zQ_151 zS y_151.2 (7 : Int32) (0 : Int32) (0 : Int32) (0 : Int32) u10_0 y_166 hk_151 hs h_166) rfl ⟨⟨Nat.le_of_ble_eq_true rfl, Nat.le_of_ble_eq_true rfl⟩, ⟨rfl, rfl⟩, ⟨Nat.le_of_ble_eq_true rfl, Nat.le_of_ble_eq_true rfl⟩⟩ rfl rfl (Nat.le_of_ble_eq_true rfl) rfl dL_refusesAny_166 (fun kf_166 zQ_166 hk_166 => ?_)
    refine g_bipush C (pc := 169) dL_refusesAny_169 ck_bipush_m2 ?_
    refine g_icmp_ne C (pc := 171) 245 dL_refusesAny_171 (by decide) (fun c_171 => ?_) (fun c_171 => ?_)
    · replace hf := (k_if hf).2 c_171
      refine g_iconst C (pc := 245) dL_refusesAny_245 ck_iconst_0 ?_
      cases hf
      exact g_wid (Nat.le_of_ble_eq_true rfl) (Nat.le_of_ble_eq_true rfl) (g_zret C E rfl (pc := 246) dL_refusesAny_246 ⟨zQ_166, kf_166, hk_166, rfl, List.append_nil _⟩)
    · replace hf := (k_if hf).1 c_171
      refine g_aload_n C (pc := 174) 0 dL_refusesAny_174 rfl rfl ?_
      refine g_bipush C (pc := 175) dL_refusesAny_175 ck_bipush_7 ?_
      refine g_iconst C (pc := 177) dL_refusesAny_177 ck_iconst_1 ?_
      refine g_iconst C (pc := 178) dL_refusesAny_178 ck_iconst_0 ?_
      refine g_iconst C (pc := 179) dL_refusesAny_179 ck_iconst_1 ?_
      refine g_iload_n C (pc := 180) 1 dL_refusesAny_180 rfl rfl ?_
      refine g_if_ne C (pc := 181) 189 dL_refusesAny_181 (by decide) (fun c_181 => ?_) (fun c_181 => ?_)
      · replace hf := (k_if hf).2 c_181
        refine g_bipush C (pc := 189) dL_refusesAny_189 ck_bipush_8 ?_
        exact g_lo [0, 1] rfl (tL_refusesAny_191 x C N ta kf_166 sf zQ_166 zS p1 y_166 (8 : Int32) o hk_166 hs E hf)
      · replace hf := (k_if hf).1 c_181
        refine g_bipush C (pc := 184) dL_refusesAny_184 ck_bipush_m8 ?_
        refine g_goto C (pc := 186) (tgt := 191) dL_refusesAny_186 (by decide) ?_
        exact g_lo [0, 1] rfl (tL_refusesAny_191 x C N ta kf_166 sf zQ_166 zS p1 y_166 (-8 : Int32) o hk_166 hs E hf)
set_option maxRecDepth 100000 in
def jL_refusesAny_126 (p1 : Int32) (u10_0 : Int32) (y_105 : Int32 × CS) (u126_0 : Int32) : Option (Int32 × CS) :=
  bd (oC_step y_105.2 (7 : Int32) (0 : Int32) u126_0 (0 : Int32) (0 : Int32)) fun y_128 : Int32 × CS => if y_128.1 = (-2 : Int32) then if p1 = 0 then jL_refusesAny_150 p1 u10_0 y_128 (1 : Int32) else jL_refusesAny_150 p1 u10_0 y_128 (-1 : Int32) else some ((0 : Int32), y_128.2)
set_option maxRecDepth 100000 in
set_option maxHeartbeats 4000000 in
theorem tL_refusesAny_126 (x : GX) (C : GC x cL_refusesAny RL rmL_refusesAny) (N : xn x = 3) (ta : TA) (kf : Nat → Option Nat) (sf : Nat → Option Nat) (zQ : Nat → Nat → Nat) (zS : Nat → Nat → Nat) (p1 : Int32) (u10_0 : Int32) (y_105 : Int32 × CS) (u126_0 : Int32) (o : Int32 × CS) (hk : HK kf zQ) (hs : HS sf zS) (E : GE x (some .boolean) 0 0 (PO (xy x) ta sf zS (.int o.1) o.2)) (hf : jL_refusesAny_126 p1 u10_0 y_105 u126_0 = some o)  : GW x 0 0 (tkw (xy x) ta kf sf zQ zS y_105.2 ++ []) [(0, .ref ta.1), (1, .int p1), (2, .int u10_0)] 126 [.int u126_0, .int (0 : Int32), .int (7 : Int32), .ref ta.1] := by
  unfold jL_refusesAny_126 at hf
  refine g_iconst C (pc := 126) dL_refusesAny_126 ck_iconst_0 ?_
  refine g_iconst C (pc := 127) dL_refusesAny_127 ck_iconst_0 ?_
  obtain ⟨y_128, h_128, hf⟩ := k_bd hf
  refine g_callO C (pc := 128) (As := [.int (7 : Int32), .int (0 : Int32), .int u126_0, .int (0 : Int32), .int (0 : Int32)]) (rest := []) (v1 := .int y_128.1) (c' := y_128.2) (st' := [.int y_128.1]) lkX10_step lVL_35 (kC_step (xl x) (xD x) (xy x) ta kf sf zQ zS y_105.2 (7 : Int32) (0 : Int32) u126_0 (0 : Int32) (0 : Int32) y_128 hk hs h_128) rfl ⟨⟨Nat.le_of_ble_eq_true rfl, Nat.le_of_ble_eq_true rfl⟩, ⟨rfl, rfl⟩, ⟨Nat.le_of_ble_eq_true rfl, Nat.le_of_ble_eq_true rfl⟩⟩ rfl rfl (Nat.le_of_ble_eq_true rfl) rfl dL_refusesAny_128 (fun kf_128 zQ_128 hk_128 => ?_)
  refine g_bipush C (pc := 131) dL_refusesAny_131 ck_bipush_m2 ?_
  refine g_icmp_ne C (pc := 133) 245 dL_refusesAny_133 (by decide) (fun c_133 => ?_) (fun c_133 => ?_)
  · replace hf := (k_if hf).2 c_133
    refine g_iconst C (pc := 245) dL_refusesAny_245 ck_iconst_0 ?_
    cases hf
    exact g_wid (Nat.le_of_ble_eq_true rfl) (Nat.le_of_ble_eq_true rfl) (g_zret C E rfl (pc := 246) dL_refusesAny_246 ⟨zQ_128, kf_128, hk_128, rfl, List.append_nil _⟩)
  · replace hf := (k_if hf).1 c_133
    refine g_aload_n C (pc := 136) 0 dL_refusesAny_136 rfl rfl ?_
    refine g_bipush C (pc := 137) dL_refusesAny_137 ck_bipush_7 ?_
    refine g_iconst C (pc := 139) dL_refusesAny_139 ck_iconst_0 ?_
    refine g_iconst C (pc := 140) dL_refusesAny_140 ck_iconst_0 ?_
    refine g_iload_n C (pc := 141) 1 dL_refusesAny_141 rfl rfl ?_
    refine g_if_ne C (pc := 142) 149 dL_refusesAny_142 (by decide) (fun c_142 => ?_) (fun c_142 => ?_)
    · replace hf := (k_if hf).2 c_142
      refine g_iconst C (pc := 149) dL_refusesAny_149 ck_iconst_m1 ?_
      exact tL_refusesAny_150 x C N ta kf_128 sf zQ_128 zS p1 u10_0 y_128 (-1 : Int32) o hk_128 hs E hf
    · replace hf := (k_if hf).1 c_142
      refine g_iconst C (pc := 145) dL_refusesAny_145 ck_iconst_1 ?_
      refine g_goto C (pc := 146) (tgt := 150) dL_refusesAny_146 (by decide) ?_
      exact tL_refusesAny_150 x C N ta kf_128 sf zQ_128 zS p1 u10_0 y_128 (1 : Int32) o hk_128 hs E hf
set_option maxRecDepth 100000 in
def jL_refusesAny_102 (p1 : Int32) (u10_0 : Int32) (y_82 : Int32 × CS) (u102_0 : Int32) : Option (Int32 × CS) :=
  bd (oC_step y_82.2 (7 : Int32) u102_0 (0 : Int32) (0 : Int32) (0 : Int32)) fun y_105 : Int32 × CS => if y_105.1 = (-2 : Int32) then if p1 = 0 then jL_refusesAny_126 p1 u10_0 y_105 (-1 : Int32) else jL_refusesAny_126 p1 u10_0 y_105 (3 : Int32) else some ((0 : Int32), y_105.2)
set_option maxRecDepth 100000 in
set_option maxHeartbeats 4000000 in
theorem tL_refusesAny_102 (x : GX) (C : GC x cL_refusesAny RL rmL_refusesAny) (N : xn x = 3) (ta : TA) (kf : Nat → Option Nat) (sf : Nat → Option Nat) (zQ : Nat → Nat → Nat) (zS : Nat → Nat → Nat) (p1 : Int32) (u10_0 : Int32) (y_82 : Int32 × CS) (u102_0 : Int32) (o : Int32 × CS) (hk : HK kf zQ) (hs : HS sf zS) (E : GE x (some .boolean) 0 0 (PO (xy x) ta sf zS (.int o.1) o.2)) (hf : jL_refusesAny_102 p1 u10_0 y_82 u102_0 = some o)  : GW x 0 0 (tkw (xy x) ta kf sf zQ zS y_82.2 ++ []) [(0, .ref ta.1), (1, .int p1), (2, .int u10_0)] 102 [.int u102_0, .int (7 : Int32), .ref ta.1] := by
  unfold jL_refusesAny_102 at hf
  refine g_iconst C (pc := 102) dL_refusesAny_102 ck_iconst_0 ?_
  refine g_iconst C (pc := 103) dL_refusesAny_103 ck_iconst_0 ?_
  refine g_iconst C (pc := 104) dL_refusesAny_104 ck_iconst_0 ?_
  obtain ⟨y_105, h_105, hf⟩ := k_bd hf
  refine g_callO C (pc := 105) (As := [.int (7 : Int32), .int u102_0, .int (0 : Int32), .int (0 : Int32), .int (0 : Int32)]) (rest := []) (v1 := .int y_105.1) (c' := y_105.2) (st' := [.int y_105.1]) lkX10_step lVL_35 (kC_step (xl x) (xD x) (xy x) ta kf sf zQ zS y_82.2 (7 : Int32) u102_0 (0 : Int32) (0 : Int32) (0 : Int32) y_105 hk hs h_105) rfl ⟨⟨Nat.le_of_ble_eq_true rfl, Nat.le_of_ble_eq_true rfl⟩, ⟨rfl, rfl⟩, ⟨Nat.le_of_ble_eq_true rfl, Nat.le_of_ble_eq_true rfl⟩⟩ rfl rfl (Nat.le_of_ble_eq_true rfl) rfl dL_refusesAny_105 (fun kf_105 zQ_105 hk_105 => ?_)
  refine g_bipush C (pc := 108) dL_refusesAny_108 ck_bipush_m2 ?_
  refine g_icmp_ne C (pc := 110) 245 dL_refusesAny_110 (by decide) (fun c_110 => ?_) (fun c_110 => ?_)
  · replace hf := (k_if hf).2 c_110
    refine g_iconst C (pc := 245) dL_refusesAny_245 ck_iconst_0 ?_
    cases hf
    exact g_wid (Nat.le_of_ble_eq_true rfl) (Nat.le_of_ble_eq_true rfl) (g_zret C E rfl (pc := 246) dL_refusesAny_246 ⟨zQ_105, kf_105, hk_105, rfl, List.append_nil _⟩)
  · replace hf := (k_if hf).1 c_110
    refine g_aload_n C (pc := 113) 0 dL_refusesAny_113 rfl rfl ?_
    refine g_bipush C (pc := 114) dL_refusesAny_114 ck_bipush_7 ?_
    refine g_iconst C (pc := 116) dL_refusesAny_116 ck_iconst_0 ?_
    refine g_iload_n C (pc := 117) 1 dL_refusesAny_117 rfl rfl ?_
    refine g_if_ne C (pc := 118) 125 dL_refusesAny_118 (by decide) (fun c_118 => ?_) (fun c_118 => ?_)
    · replace hf := (k_if hf).2 c_118
      refine g_iconst C (pc := 125) dL_refusesAny_125 ck_iconst_3 ?_
      exact tL_refusesAny_126 x C N ta kf_105 sf zQ_105 zS p1 u10_0 y_105 (3 : Int32) o hk_105 hs E hf
    · replace hf := (k_if hf).1 c_118
      refine g_iconst C (pc := 121) dL_refusesAny_121 ck_iconst_m1 ?_
      refine g_goto C (pc := 122) (tgt := 126) dL_refusesAny_122 (by decide) ?_
      exact tL_refusesAny_126 x C N ta kf_105 sf zQ_105 zS p1 u10_0 y_105 (-1 : Int32) o hk_105 hs E hf
set_option maxRecDepth 100000 in
def jL_refusesAny_78 (p1 : Int32) (u10_0 : Int32) (y_57 : Int32 × CS) (u78_0 : Int32) : Option (Int32 × CS) :=
  bd (oC_step y_57.2 u78_0 (0 : Int32) (0 : Int32) (0 : Int32) (0 : Int32)) fun y_82 : Int32 × CS => if y_82.1 = (-2 : Int32) then if p1 = 0 then jL_refusesAny_102 p1 u10_0 y_82 (-1 : Int32) else jL_refusesAny_102 p1 u10_0 y_82 (3 : Int32) else some ((0 : Int32), y_82.2)
set_option maxRecDepth 100000 in
set_option maxHeartbeats 4000000 in
theorem tL_refusesAny_78 (x : GX) (C : GC x cL_refusesAny RL rmL_refusesAny) (N : xn x = 3) (ta : TA) (kf : Nat → Option Nat) (sf : Nat → Option Nat) (zQ : Nat → Nat → Nat) (zS : Nat → Nat → Nat) (p1 : Int32) (u10_0 : Int32) (y_57 : Int32 × CS) (u78_0 : Int32) (o : Int32 × CS) (hk : HK kf zQ) (hs : HS sf zS) (E : GE x (some .boolean) 0 0 (PO (xy x) ta sf zS (.int o.1) o.2)) (hf : jL_refusesAny_78 p1 u10_0 y_57 u78_0 = some o)  : GW x 0 0 (tkw (xy x) ta kf sf zQ zS y_57.2 ++ []) [(0, .ref ta.1), (1, .int p1), (2, .int u10_0)] 78 [.int u78_0, .ref ta.1] := by
  unfold jL_refusesAny_78 at hf
  refine g_iconst C (pc := 78) dL_refusesAny_78 ck_iconst_0 ?_
  refine g_iconst C (pc := 79) dL_refusesAny_79 ck_iconst_0 ?_
  refine g_iconst C (pc := 80) dL_refusesAny_80 ck_iconst_0 ?_
  refine g_iconst C (pc := 81) dL_refusesAny_81 ck_iconst_0 ?_
  obtain ⟨y_82, h_82, hf⟩ := k_bd hf
  refine g_callO C (pc := 82) (As := [.int u78_0, .int (0 : Int32), .int (0 : Int32), .int (0 : Int32), .int (0 : Int32)]) (rest := []) (v1 := .int y_82.1) (c' := y_82.2) (st' := [.int y_82.1]) lkX10_step lVL_35 (kC_step (xl x) (xD x) (xy x) ta kf sf zQ zS y_57.2 u78_0 (0 : Int32) (0 : Int32) (0 : Int32) (0 : Int32) y_82 hk hs h_82) rfl ⟨⟨Nat.le_of_ble_eq_true rfl, Nat.le_of_ble_eq_true rfl⟩, ⟨rfl, rfl⟩, ⟨Nat.le_of_ble_eq_true rfl, Nat.le_of_ble_eq_true rfl⟩⟩ rfl rfl (Nat.le_of_ble_eq_true rfl) rfl dL_refusesAny_82 (fun kf_82 zQ_82 hk_82 => ?_)
  refine g_bipush C (pc := 85) dL_refusesAny_85 ck_bipush_m2 ?_
  refine g_icmp_ne C (pc := 87) 245 dL_refusesAny_87 (by decide) (fun c_87 => ?_) (fun c_87 => ?_)
  · replace hf := (k_if hf).2 c_87
    refine g_iconst C (pc := 245) dL_refusesAny_245 ck_iconst_0 ?_
    cases hf
    exact g_wid (Nat.le_of_ble_eq_true rfl) (Nat.le_of_ble_eq_true rfl) (g_zret C E rfl (pc := 246) dL_refusesAny_246 ⟨zQ_82, kf_82, hk_82, rfl, List.append_nil _⟩)
  · replace hf := (k_if hf).1 c_87
    refine g_aload_n C (pc := 90) 0 dL_refusesAny_90 rfl rfl ?_
    refine g_bipush C (pc := 91) dL_refusesAny_91 ck_bipush_7 ?_
    refine g_iload_n C (pc := 93) 1 dL_refusesAny_93 rfl rfl ?_
    refine g_if_ne C (pc := 94) 101 dL_refusesAny_94 (by decide) (fun c_94 => ?_) (fun c_94 => ?_)
    · replace hf := (k_if hf).2 c_94
      refine g_iconst C (pc := 101) dL_refusesAny_101 ck_iconst_3 ?_
      exact tL_refusesAny_102 x C N ta kf_82 sf zQ_82 zS p1 u10_0 y_82 (3 : Int32) o hk_82 hs E hf
    · replace hf := (k_if hf).1 c_94
      refine g_iconst C (pc := 97) dL_refusesAny_97 ck_iconst_m1 ?_
      refine g_goto C (pc := 98) (tgt := 102) dL_refusesAny_98 (by decide) ?_
      exact tL_refusesAny_102 x C N ta kf_82 sf zQ_82 zS p1 u10_0 y_82 (-1 : Int32) o hk_82 hs E hf
set_option maxRecDepth 100000 in
def jL_refusesAny_57 (p1 : Int32) (u10_0 : Int32) (y_39 : Int32 × CS) (u57_0 : Int32) : Option (Int32 × CS) :=
  bd (oC_wrap y_39.2 u57_0) fun y_57 : Int32 × CS => if y_57.1 = (-2 : Int32) then if p1 = 0 then jL_refusesAny_78 p1 u10_0 y_57 (6 : Int32) else jL_refusesAny_78 p1 u10_0 y_57 (1350 : Int32) else some ((0 : Int32), y_57.2)
set_option maxRecDepth 100000 in
set_option maxHeartbeats 4000000 in
theorem tL_refusesAny_57 (x : GX) (C : GC x cL_refusesAny RL rmL_refusesAny) (N : xn x = 3) (ta : TA) (kf : Nat → Option Nat) (sf : Nat → Option Nat) (zQ : Nat → Nat → Nat) (zS : Nat → Nat → Nat) (p1 : Int32) (u10_0 : Int32) (y_39 : Int32 × CS) (u57_0 : Int32) (o : Int32 × CS) (hk : HK kf zQ) (hs : HS sf zS) (E : GE x (some .boolean) 0 0 (PO (xy x) ta sf zS (.int o.1) o.2)) (hf : jL_refusesAny_57 p1 u10_0 y_39 u57_0 = some o)  : GW x 0 0 (tkw (xy x) ta kf sf zQ zS y_39.2 ++ []) [(0, .ref ta.1), (1, .int p1), (2, .int u10_0)] 57 [.int u57_0, .ref ta.1] := by
  unfold jL_refusesAny_57 at hf
  obtain ⟨y_57, h_57, hf⟩ := k_bd hf
  refine g_callO C (pc := 57) (As := [.int u57_0]) (rest := []) (v1 := .int y_57.1) (c' := y_57.2) (st' := [.int y_57.1]) lkX10_wrap lVL_32 (kC_wrap (xl x) (xD x) (xy x) ta kf sf zQ zS y_39.2 u57_0 y_57 hk hs h_57) rfl ⟨⟨Nat.le_of_ble_eq_true rfl, Nat.le_of_ble_eq_true rfl⟩, ⟨rfl, rfl⟩, ⟨Nat.le_of_ble_eq_true rfl, Nat.le_of_ble_eq_true rfl⟩⟩ rfl rfl (Nat.le_of_ble_eq_true rfl) rfl dL_refusesAny_57 (fun kf_57 zQ_57 hk_57 => ?_)
  refine g_bipush C (pc := 60) dL_refusesAny_60 ck_bipush_m2 ?_
  refine g_icmp_ne C (pc := 62) 245 dL_refusesAny_62 (by decide) (fun c_62 => ?_) (fun c_62 => ?_)
  · replace hf := (k_if hf).2 c_62
    refine g_iconst C (pc := 245) dL_refusesAny_245 ck_iconst_0 ?_
    cases hf
    exact g_wid (Nat.le_of_ble_eq_true rfl) (Nat.le_of_ble_eq_true rfl) (g_zret C E rfl (pc := 246) dL_refusesAny_246 ⟨zQ_57, kf_57, hk_57, rfl, List.append_nil _⟩)
  · replace hf := (k_if hf).1 c_62
    refine g_aload_n C (pc := 65) 0 dL_refusesAny_65 rfl rfl ?_
    refine g_iload_n C (pc := 66) 1 dL_refusesAny_66 rfl rfl ?_
    refine g_if_ne C (pc := 67) 75 dL_refusesAny_67 (by decide) (fun c_67 => ?_) (fun c_67 => ?_)
    · replace hf := (k_if hf).2 c_67
      refine g_sipush C (pc := 75) dL_refusesAny_75 ck_sipush_1350 ?_
      exact tL_refusesAny_78 x C N ta kf_57 sf zQ_57 zS p1 u10_0 y_57 (1350 : Int32) o hk_57 hs E hf
    · replace hf := (k_if hf).1 c_67
      refine g_bipush C (pc := 70) dL_refusesAny_70 ck_bipush_6 ?_
      refine g_goto C (pc := 72) (tgt := 78) dL_refusesAny_72 (by decide) ?_
      exact tL_refusesAny_78 x C N ta kf_57 sf zQ_57 zS p1 u10_0 y_57 (6 : Int32) o hk_57 hs E hf
set_option maxRecDepth 100000 in
def jL_refusesAny_10 (cs : CS) (p1 : Int32) (u10_0 : Int32) : Option (Int32 × CS) :=
  bd (oC_start cs u10_0 (0 : Int32) (0 : Int32)) fun y_15 : Int32 × CS => if y_15.1 = (-2 : Int32) then bd (oC_start y_15.2 (0 : Int32) u10_0 (0 : Int32)) fun y_27 : Int32 × CS => if y_27.1 = (-2 : Int32) then bd (oC_start y_27.2 (0 : Int32) (0 : Int32) u10_0) fun y_39 : Int32 × CS => if y_39.1 = (-2 : Int32) then if p1 = 0 then jL_refusesAny_57 p1 u10_0 y_39 (-1 : Int32) else jL_refusesAny_57 p1 u10_0 y_39 (2 : Int32) else some ((0 : Int32), y_39.2) else some ((0 : Int32), y_27.2) else some ((0 : Int32), y_15.2)
set_option maxRecDepth 100000 in
set_option maxHeartbeats 4000000 in
theorem tL_refusesAny_10 (x : GX) (C : GC x cL_refusesAny RL rmL_refusesAny) (N : xn x = 3) (ta : TA) (kf : Nat → Option Nat) (sf : Nat → Option Nat) (zQ : Nat → Nat → Nat) (zS : Nat → Nat → Nat) (cs : CS) (p1 : Int32) (u10_0 : Int32) (o : Int32 × CS) (hk : HK kf zQ) (hs : HS sf zS) (E : GE x (some .boolean) 0 0 (PO (xy x) ta sf zS (.int o.1) o.2)) (hf : jL_refusesAny_10 cs p1 u10_0 = some o)  : GW x 0 0 (tkw (xy x) ta kf sf zQ zS cs ++ []) [(0, .ref ta.1), (1, .int p1)] 10 [.int u10_0] := by
  unfold jL_refusesAny_10 at hf
  refine g_istore_n C (pc := 10) (lo' := [(2, .int u10_0), (0, .ref ta.1), (1, .int p1)]) dL_refusesAny_10 rfl N rfl rfl ?_
  refine g_aload_n C (pc := 11) 1 dL_refusesAny_11 rfl rfl ?_
  refine g_iload_n C (pc := 12) 0 dL_refusesAny_12 rfl rfl ?_
  refine g_iconst C (pc := 13) dL_refusesAny_13 ck_iconst_0 ?_
  refine g_iconst C (pc := 14) dL_refusesAny_14 ck_iconst_0 ?_
  obtain ⟨y_15, h_15, hf⟩ := k_bd hf
  refine g_callO C (pc := 15) (As := [.int u10_0, .int (0 : Int32), .int (0 : Int32)]) (rest := []) (v1 := .int y_15.1) (c' := y_15.2) (st' := [.int y_15.1]) lkX10_start lVL_26 (kC_start (xl x) (xD x) (xy x) ta kf sf zQ zS cs u10_0 (0 : Int32) (0 : Int32) y_15 hk hs h_15) rfl ⟨⟨Nat.le_of_ble_eq_true rfl, Nat.le_of_ble_eq_true rfl⟩, ⟨rfl, rfl⟩, ⟨Nat.le_of_ble_eq_true rfl, Nat.le_of_ble_eq_true rfl⟩⟩ rfl rfl (Nat.le_of_ble_eq_true rfl) rfl dL_refusesAny_15 (fun kf_15 zQ_15 hk_15 => ?_)
  refine g_bipush C (pc := 18) dL_refusesAny_18 ck_bipush_m2 ?_
  refine g_icmp_ne C (pc := 20) 245 dL_refusesAny_20 (by decide) (fun c_20 => ?_) (fun c_20 => ?_)
  · replace hf := (k_if hf).2 c_20
    refine g_iconst C (pc := 245) dL_refusesAny_245 ck_iconst_0 ?_
    cases hf
    exact g_wid (Nat.le_of_ble_eq_true rfl) (Nat.le_of_ble_eq_true rfl) (g_zret C E rfl (pc := 246) dL_refusesAny_246 ⟨zQ_15, kf_15, hk_15, rfl, List.append_nil _⟩)
  · replace hf := (k_if hf).1 c_20
    refine g_aload_n C (pc := 23) 1 dL_refusesAny_23 rfl rfl ?_
    refine g_iconst C (pc := 24) dL_refusesAny_24 ck_iconst_0 ?_
    refine g_iload_n C (pc := 25) 0 dL_refusesAny_25 rfl rfl ?_
    refine g_iconst C (pc := 26) dL_refusesAny_26 ck_iconst_0 ?_
    obtain ⟨y_27, h_27, hf⟩ := k_bd hf
    refine g_callO C (pc := 27) (As := [.int (0 : Int32), .int u10_0, .int (0 : Int32)]) (rest := []) (v1 := .int y_27.1) (c' := y_27.2) (st' := [.int y_27.1]) lkX10_start lVL_26 (kC_start (xl x) (xD x) (xy x) ta kf_15 sf zQ_15 zS y_15.2 (0 : Int32) u10_0 (0 : Int32) y_27 hk_15 hs h_27) rfl ⟨⟨Nat.le_of_ble_eq_true rfl, Nat.le_of_ble_eq_true rfl⟩, ⟨rfl, rfl⟩, ⟨Nat.le_of_ble_eq_true rfl, Nat.le_of_ble_eq_true rfl⟩⟩ rfl rfl (Nat.le_of_ble_eq_true rfl) rfl dL_refusesAny_27 (fun kf_27 zQ_27 hk_27 => ?_)
    refine g_bipush C (pc := 30) dL_refusesAny_30 ck_bipush_m2 ?_
    refine g_icmp_ne C (pc := 32) 245 dL_refusesAny_32 (by decide) (fun c_32 => ?_) (fun c_32 => ?_)
    · replace hf := (k_if hf).2 c_32
      refine g_iconst C (pc := 245) dL_refusesAny_245 ck_iconst_0 ?_
      cases hf
      exact g_wid (Nat.le_of_ble_eq_true rfl) (Nat.le_of_ble_eq_true rfl) (g_zret C E rfl (pc := 246) dL_refusesAny_246 ⟨zQ_27, kf_27, hk_27, rfl, List.append_nil _⟩)
    · replace hf := (k_if hf).1 c_32
      refine g_aload_n C (pc := 35) 1 dL_refusesAny_35 rfl rfl ?_
      refine g_iconst C (pc := 36) dL_refusesAny_36 ck_iconst_0 ?_
      refine g_iconst C (pc := 37) dL_refusesAny_37 ck_iconst_0 ?_
      refine g_iload_n C (pc := 38) 0 dL_refusesAny_38 rfl rfl ?_
      obtain ⟨y_39, h_39, hf⟩ := k_bd hf
      refine g_callO C (pc := 39) (As := [.int (0 : Int32), .int (0 : Int32), .int u10_0]) (rest := []) (v1 := .int y_39.1) (c' := y_39.2) (st' := [.int y_39.1]) lkX10_start lVL_26 (kC_start (xl x) (xD x) (xy x) ta kf_27 sf zQ_27 zS y_27.2 (0 : Int32) (0 : Int32) u10_0 y_39 hk_27 hs h_39) rfl ⟨⟨Nat.le_of_ble_eq_true rfl, Nat.le_of_ble_eq_true rfl⟩, ⟨rfl, rfl⟩, ⟨Nat.le_of_ble_eq_true rfl, Nat.le_of_ble_eq_true rfl⟩⟩ rfl rfl (Nat.le_of_ble_eq_true rfl) rfl dL_refusesAny_39 (fun kf_39 zQ_39 hk_39 => ?_)
      refine g_bipush C (pc := 42) dL_refusesAny_42 ck_bipush_m2 ?_
      refine g_icmp_ne C (pc := 44) 245 dL_refusesAny_44 (by decide) (fun c_44 => ?_) (fun c_44 => ?_)
      · replace hf := (k_if hf).2 c_44
        refine g_iconst C (pc := 245) dL_refusesAny_245 ck_iconst_0 ?_
        cases hf
        exact g_wid (Nat.le_of_ble_eq_true rfl) (Nat.le_of_ble_eq_true rfl) (g_zret C E rfl (pc := 246) dL_refusesAny_246 ⟨zQ_39, kf_39, hk_39, rfl, List.append_nil _⟩)
      · replace hf := (k_if hf).1 c_44
        refine g_aload_n C (pc := 47) 1 dL_refusesAny_47 rfl rfl ?_
        refine g_iload_n C (pc := 48) 2 dL_refusesAny_48 rfl rfl ?_
        refine g_if_ne C (pc := 49) 56 dL_refusesAny_49 (by decide) (fun c_49 => ?_) (fun c_49 => ?_)
        · replace hf := (k_if hf).2 c_49
          refine g_iconst C (pc := 56) dL_refusesAny_56 ck_iconst_2 ?_
          exact g_lo [1, 2, 0] rfl (tL_refusesAny_57 x C N ta kf_39 sf zQ_39 zS p1 u10_0 y_39 (2 : Int32) o hk_39 hs E hf)
        · replace hf := (k_if hf).1 c_49
          refine g_iconst C (pc := 52) dL_refusesAny_52 ck_iconst_m1 ?_
          refine g_goto C (pc := 53) (tgt := 57) dL_refusesAny_53 (by decide) ?_
          exact g_lo [1, 2, 0] rfl (tL_refusesAny_57 x C N ta kf_39 sf zQ_39 zS p1 u10_0 y_39 (-1 : Int32) o hk_39 hs E hf)
set_option maxRecDepth 100000 in
def fL_refusesAny (cs : CS) (p1 : Int32) : Option (Int32 × CS) :=
  if p1 = 0 then jL_refusesAny_10 cs p1 (-1 : Int32) else jL_refusesAny_10 cs p1 (8 : Int32)
set_option maxRecDepth 100000 in
set_option maxHeartbeats 4000000 in
theorem eL_refusesAny (x : GX) (C : GC x cL_refusesAny RL rmL_refusesAny) (N : xn x = 3) (ta : TA) (kf : Nat → Option Nat) (sf : Nat → Option Nat) (zQ : Nat → Nat → Nat) (zS : Nat → Nat → Nat) (cs : CS) (p1 : Int32) (o : Int32 × CS) (hk : HK kf zQ) (hs : HS sf zS) (E : GE x (some .boolean) 0 0 (PO (xy x) ta sf zS (.int o.1) o.2)) (hf : fL_refusesAny cs p1 = some o)  : GW x 0 0 (tkw (xy x) ta kf sf zQ zS cs ++ []) [(0, .ref ta.1), (1, .int p1)] 0 [] := by
  unfold fL_refusesAny at hf
  refine g_iload_n C (pc := 0) 1 dL_refusesAny_0 rfl rfl ?_
  refine g_if_ne C (pc := 1) 8 dL_refusesAny_1 (by decide) (fun c_1 => ?_) (fun c_1 => ?_)
  · replace hf := (k_if hf).2 c_1
    refine g_bipush C (pc := 8) dL_refusesAny_8 ck_bipush_8 ?_
    exact tL_refusesAny_10 x C N ta kf sf zQ zS cs p1 (8 : Int32) o hk hs E hf
  · replace hf := (k_if hf).1 c_1
    refine g_iconst C (pc := 4) dL_refusesAny_4 ck_iconst_m1 ?_
    refine g_goto C (pc := 5) (tgt := 10) dL_refusesAny_5 (by decide) ?_
    exact tL_refusesAny_10 x C N ta kf sf zQ zS cs p1 (-1 : Int32) o hk hs E hf
set_option maxRecDepth 100000 in
theorem cL_refusesAny_k (l : Launch) (D : va_G) (yy : Nat → ClassId) (ta : TA) (kf : Nat → Option Nat) (sf : Nat → Option Nat) (zQ : Nat → Nat → Nat) (zS : Nat → Nat → Nat) (cs : CS) (p1 : Int32) (o : Int32 × CS) (hk : HK kf zQ) (hs : HS sf zS) (hf : fL_refusesAny cs p1 = some o) : GMet l yL_refusesAny cL_refusesAny 3 (some .boolean) rmL_refusesAny 0 0 D yy [.ref ta.1, .int p1] (tkw yy ta kf sf zQ zS cs) (PO yy ta sf zS (.int o.1) o.2) :=
  g_met (by decide +kernel) (Nat.le_of_ble_eq_true rfl) (fun x hl hD hy hn C E _ => by subst hD; subst hy; exact g_nil (eL_refusesAny x C hn ta kf sf zQ zS cs p1 o hk hs E hf))
def rmL_refused : Room := { frames := 9, cells := 0, slots := 0, locals := 210 }
set_option maxRecDepth 100000 in
def fL_refused (cs : CS) : Option (Int32 × CS) :=
  bd (fL_seen cs) fun y_1 : Int64 × CS => bd (oC_count y_1.2 (12 : Int32)) fun y_8 : Int32 × CS => bd (oC_count y_8.2 (11 : Int32)) fun y_15 : Int32 × CS => bd (fL_refusesAny y_15.2 (0 : Int32)) fun y_22 : Int32 × CS => if y_22.1 = 0 then some ((0 : Int32), y_22.2) else bd (fL_refusesAny y_22.2 (1 : Int32)) fun y_30 : Int32 × CS => if y_30.1 = 0 then some ((0 : Int32), y_30.2) else bd (fL_seen y_30.2) fun y_37 : Int64 × CS => if (lg_cmp y_37.1 y_1.1) = 0 then bd (oC_count y_37.2 (12 : Int32)) fun y_48 : Int32 × CS => if y_48.1 = y_8.1 then bd (oC_count y_48.2 (11 : Int32)) fun y_58 : Int32 × CS => if y_58.1 = y_15.1 then some ((1 : Int32), y_58.2) else some ((0 : Int32), y_58.2) else some ((0 : Int32), y_48.2) else some ((0 : Int32), y_37.2)
set_option maxRecDepth 100000 in
set_option maxHeartbeats 4000000 in
theorem eL_refused (x : GX) (C : GC x cL_refused RL rmL_refused) (N : xn x = 5) (ta : TA) (kf : Nat → Option Nat) (sf : Nat → Option Nat) (zQ : Nat → Nat → Nat) (zS : Nat → Nat → Nat) (cs : CS) (o : Int32 × CS) (hk : HK kf zQ) (hs : HS sf zS) (E : GE x (some .boolean) 0 0 (PO (xy x) ta sf zS (.int o.1) o.2)) (hf : fL_refused cs = some o)  : GW x 0 0 (tkw (xy x) ta kf sf zQ zS cs ++ []) [(0, .ref ta.1)] 0 [] := by
  unfold fL_refused at hf
  refine g_aload_n C (pc := 0) 0 dL_refused_0 rfl rfl ?_
  obtain ⟨y_1, h_1, hf⟩ := k_bd hf
  refine g_callOS C (pc := 1) (As := [.ref ta.1]) (rest := []) (v1 := .long y_1.1) (c' := y_1.2) (st' := [.long y_1.1]) lkL_seen lSL_92 (cL_seen_k (xl x) (xD x) (xy x) ta kf sf zQ zS cs y_1 hk hs h_1) rfl ⟨⟨Nat.le_of_ble_eq_true rfl, Nat.le_of_ble_eq_true rfl⟩, ⟨rfl, rfl⟩, ⟨Nat.le_of_ble_eq_true rfl, Nat.le_of_ble_eq_true rfl⟩⟩ rfl (Nat.le_of_ble_eq_true rfl) rfl dL_refused_1 (fun kf_1 zQ_1 hk_1 => ?_)
  refine g_lstore_n C (pc := 4) (lo' := [(1, .long y_1.1), (0, .ref ta.1)]) dL_refused_4 rfl N rfl rfl ?_
  refine g_aload_n C (pc := 5) 1 dL_refused_5 rfl rfl ?_
  refine g_bipush C (pc := 6) dL_refused_6 ck_bipush_12 ?_
  obtain ⟨y_8, h_8, hf⟩ := k_bd hf
  refine g_callO C (pc := 8) (As := [.int (12 : Int32)]) (rest := []) (v1 := .int y_8.1) (c' := y_8.2) (st' := [.int y_8.1]) lkX10_count lVL_13 (kC_count (xl x) (xD x) (xy x) ta kf_1 sf zQ_1 zS y_1.2 (12 : Int32) y_8 hk_1 hs h_8) rfl ⟨⟨Nat.le_of_ble_eq_true rfl, Nat.le_of_ble_eq_true rfl⟩, ⟨rfl, rfl⟩, ⟨Nat.le_of_ble_eq_true rfl, Nat.le_of_ble_eq_true rfl⟩⟩ rfl rfl (Nat.le_of_ble_eq_true rfl) rfl dL_refused_8 (fun kf_8 zQ_8 hk_8 => ?_)
  refine g_istore_n C (pc := 11) (lo' := [(3, .int y_8.1), (1, .long y_1.1), (0, .ref ta.1)]) dL_refused_11 rfl N rfl rfl ?_
  refine g_aload_n C (pc := 12) 2 dL_refused_12 rfl rfl ?_
  refine g_bipush C (pc := 13) dL_refused_13 ck_bipush_11 ?_
  obtain ⟨y_15, h_15, hf⟩ := k_bd hf
  refine g_callO C (pc := 15) (As := [.int (11 : Int32)]) (rest := []) (v1 := .int y_15.1) (c' := y_15.2) (st' := [.int y_15.1]) lkX10_count lVL_13 (kC_count (xl x) (xD x) (xy x) ta kf_8 sf zQ_8 zS y_8.2 (11 : Int32) y_15 hk_8 hs h_15) rfl ⟨⟨Nat.le_of_ble_eq_true rfl, Nat.le_of_ble_eq_true rfl⟩, ⟨rfl, rfl⟩, ⟨Nat.le_of_ble_eq_true rfl, Nat.le_of_ble_eq_true rfl⟩⟩ rfl rfl (Nat.le_of_ble_eq_true rfl) rfl dL_refused_15 (fun kf_15 zQ_15 hk_15 => ?_)
  refine g_istore C (pc := 18) (lo' := [(4, .int y_15.1), (3, .int y_8.1), (1, .long y_1.1), (0, .ref ta.1)]) dL_refused_18 N rfl rfl ?_
  refine g_aload_n C (pc := 20) 3 dL_refused_20 rfl rfl ?_
  refine g_iconst C (pc := 21) dL_refused_21 ck_iconst_0 ?_
  obtain ⟨y_22, h_22, hf⟩ := k_bd hf
  refine g_callOS C (pc := 22) (As := [.ref ta.1, .int (0 : Int32)]) (rest := []) (v1 := .int y_22.1) (c' := y_22.2) (st' := [.int y_22.1]) lkL_refusesAny lSL_96 (cL_refusesAny_k (xl x) (xD x) (xy x) ta kf_15 sf zQ_15 zS y_15.2 (0 : Int32) y_22 hk_15 hs h_22) rfl ⟨⟨Nat.le_of_ble_eq_true rfl, Nat.le_of_ble_eq_true rfl⟩, ⟨rfl, rfl⟩, ⟨Nat.le_of_ble_eq_true rfl, Nat.le_of_ble_eq_true rfl⟩⟩ rfl (Nat.le_of_ble_eq_true rfl) rfl dL_refused_22 (fun kf_22 zQ_22 hk_22 => ?_)
  refine g_if_eq C (pc := 25) 70 dL_refused_25 (by decide) (fun c_25 => ?_) (fun c_25 => ?_)
  · replace hf := (k_if hf).1 c_25
    refine g_iconst C (pc := 70) dL_refused_70 ck_iconst_0 ?_
    cases hf
    exact g_wid (Nat.le_of_ble_eq_true rfl) (Nat.le_of_ble_eq_true rfl) (g_zret C E rfl (pc := 71) dL_refused_71 ⟨zQ_22, kf_22, hk_22, rfl, List.append_nil _⟩)
  · replace hf := (k_if hf).2 c_25
    refine g_aload_n C (pc := 28) 3 dL_refused_28 rfl rfl ?_
    refine g_iconst C (pc := 29) dL_refused_29 ck_iconst_1 ?_
    obtain ⟨y_30, h_30, hf⟩ := k_bd hf
    refine g_callOS C (pc := 30) (As := [.ref ta.1, .int (1 : Int32)]) (rest := []) (v1 := .int y_30.1) (c' := y_30.2) (st' := [.int y_30.1]) lkL_refusesAny lSL_96 (cL_refusesAny_k (xl x) (xD x) (xy x) ta kf_22 sf zQ_22 zS y_22.2 (1 : Int32) y_30 hk_22 hs h_30) rfl ⟨⟨Nat.le_of_ble_eq_true rfl, Nat.le_of_ble_eq_true rfl⟩, ⟨rfl, rfl⟩, ⟨Nat.le_of_ble_eq_true rfl, Nat.le_of_ble_eq_true rfl⟩⟩ rfl (Nat.le_of_ble_eq_true rfl) rfl dL_refused_30 (fun kf_30 zQ_30 hk_30 => ?_)
    refine g_if_eq C (pc := 33) 70 dL_refused_33 (by decide) (fun c_33 => ?_) (fun c_33 => ?_)
    · replace hf := (k_if hf).1 c_33
      refine g_iconst C (pc := 70) dL_refused_70 ck_iconst_0 ?_
      cases hf
      exact g_wid (Nat.le_of_ble_eq_true rfl) (Nat.le_of_ble_eq_true rfl) (g_zret C E rfl (pc := 71) dL_refused_71 ⟨zQ_30, kf_30, hk_30, rfl, List.append_nil _⟩)
    · replace hf := (k_if hf).2 c_33
      refine g_aload_n C (pc := 36) 3 dL_refused_36 rfl rfl ?_
      obtain ⟨y_37, h_37, hf⟩ := k_bd hf
      refine g_callOS C (pc := 37) (As := [.ref ta.1]) (rest := []) (v1 := .long y_37.1) (c' := y_37.2) (st' := [.long y_37.1]) lkL_seen lSL_92 (cL_seen_k (xl x) (xD x) (xy x) ta kf_30 sf zQ_30 zS y_30.2 y_37 hk_30 hs h_37) rfl ⟨⟨Nat.le_of_ble_eq_true rfl, Nat.le_of_ble_eq_true rfl⟩, ⟨rfl, rfl⟩, ⟨Nat.le_of_ble_eq_true rfl, Nat.le_of_ble_eq_true rfl⟩⟩ rfl (Nat.le_of_ble_eq_true rfl) rfl dL_refused_37 (fun kf_37 zQ_37 hk_37 => ?_)
      refine g_lload_n C (pc := 40) 2 dL_refused_40 rfl rfl ?_
      refine g_lcmp C (pc := 41) dL_refused_41 ?_
      refine g_if_ne C (pc := 42) 70 dL_refused_42 (by decide) (fun c_42 => ?_) (fun c_42 => ?_)
      · replace hf := (k_if hf).2 c_42
        refine g_iconst C (pc := 70) dL_refused_70 ck_iconst_0 ?_
        cases hf
        exact g_wid (Nat.le_of_ble_eq_true rfl) (Nat.le_of_ble_eq_true rfl) (g_zret C E rfl (pc := 71) dL_refused_71 ⟨zQ_37, kf_37, hk_37, rfl, List.append_nil _⟩)
      · replace hf := (k_if hf).1 c_42
        refine g_aload_n C (pc := 45) 3 dL_refused_45 rfl rfl ?_
        refine g_bipush C (pc := 46) dL_refused_46 ck_bipush_12 ?_
        obtain ⟨y_48, h_48, hf⟩ := k_bd hf
        refine g_callO C (pc := 48) (As := [.int (12 : Int32)]) (rest := []) (v1 := .int y_48.1) (c' := y_48.2) (st' := [.int y_48.1]) lkX10_count lVL_13 (kC_count (xl x) (xD x) (xy x) ta kf_37 sf zQ_37 zS y_37.2 (12 : Int32) y_48 hk_37 hs h_48) rfl ⟨⟨Nat.le_of_ble_eq_true rfl, Nat.le_of_ble_eq_true rfl⟩, ⟨rfl, rfl⟩, ⟨Nat.le_of_ble_eq_true rfl, Nat.le_of_ble_eq_true rfl⟩⟩ rfl rfl (Nat.le_of_ble_eq_true rfl) rfl dL_refused_48 (fun kf_48 zQ_48 hk_48 => ?_)
        refine g_iload_n C (pc := 51) 1 dL_refused_51 rfl rfl ?_
        refine g_icmp_ne C (pc := 52) 70 dL_refused_52 (by decide) (fun c_52 => ?_) (fun c_52 => ?_)
        · replace hf := (k_if hf).2 c_52
          refine g_iconst C (pc := 70) dL_refused_70 ck_iconst_0 ?_
          cases hf
          exact g_wid (Nat.le_of_ble_eq_true rfl) (Nat.le_of_ble_eq_true rfl) (g_zret C E rfl (pc := 71) dL_refused_71 ⟨zQ_48, kf_48, hk_48, rfl, List.append_nil _⟩)
        · replace hf := (k_if hf).1 c_52
          refine g_aload_n C (pc := 55) 3 dL_refused_55 rfl rfl ?_
          refine g_bipush C (pc := 56) dL_refused_56 ck_bipush_11 ?_
          obtain ⟨y_58, h_58, hf⟩ := k_bd hf
          refine g_callO C (pc := 58) (As := [.int (11 : Int32)]) (rest := []) (v1 := .int y_58.1) (c' := y_58.2) (st' := [.int y_58.1]) lkX10_count lVL_13 (kC_count (xl x) (xD x) (xy x) ta kf_48 sf zQ_48 zS y_48.2 (11 : Int32) y_58 hk_48 hs h_58) rfl ⟨⟨Nat.le_of_ble_eq_true rfl, Nat.le_of_ble_eq_true rfl⟩, ⟨rfl, rfl⟩, ⟨Nat.le_of_ble_eq_true rfl, Nat.le_of_ble_eq_true rfl⟩⟩ rfl rfl (Nat.le_of_ble_eq_true rfl) rfl dL_refused_58 (fun kf_58 zQ_58 hk_58 => ?_)
          refine g_iload C (pc := 61) 0 dL_refused_61 rfl ?_
          refine g_icmp_ne C (pc := 63) 70 dL_refused_63 (by decide) (fun c_63 => ?_) (fun c_63 => ?_)
          · replace hf := (k_if hf).2 c_63
            refine g_iconst C (pc := 70) dL_refused_70 ck_iconst_0 ?_
            cases hf
            exact g_wid (Nat.le_of_ble_eq_true rfl) (Nat.le_of_ble_eq_true rfl) (g_zret C E rfl (pc := 71) dL_refused_71 ⟨zQ_58, kf_58, hk_58, rfl, List.append_nil _⟩)
          · replace hf := (k_if hf).1 c_63
            refine g_iconst C (pc := 66) dL_refused_66 ck_iconst_1 ?_
            refine g_goto C (pc := 67) (tgt := 71) dL_refused_67 (by decide) ?_
            cases hf
            exact g_wid (Nat.le_of_ble_eq_true rfl) (Nat.le_of_ble_eq_true rfl) (g_zret C E rfl (pc := 71) dL_refused_71 ⟨zQ_58, kf_58, hk_58, rfl, List.append_nil _⟩)
set_option maxRecDepth 100000 in
theorem cL_refused_k (l : Launch) (D : va_G) (yy : Nat → ClassId) (ta : TA) (kf : Nat → Option Nat) (sf : Nat → Option Nat) (zQ : Nat → Nat → Nat) (zS : Nat → Nat → Nat) (cs : CS) (o : Int32 × CS) (hk : HK kf zQ) (hs : HS sf zS) (hf : fL_refused cs = some o) : GMet l yL_refused cL_refused 5 (some .boolean) rmL_refused 0 0 D yy [.ref ta.1] (tkw yy ta kf sf zQ zS cs) (PO yy ta sf zS (.int o.1) o.2) :=
  g_met (by decide +kernel) (Nat.le_of_ble_eq_true rfl) (fun x hl hD hy hn C E _ => by subst hD; subst hy; exact g_nil (eL_refused x C hn ta kf sf zQ zS cs o hk hs E hf))
