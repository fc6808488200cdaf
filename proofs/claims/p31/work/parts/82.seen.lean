def rmL_seen : Room := { frames := 7, cells := 0, slots := 0, locals := 160 }
def gL_seen_6  (a_6 : Int64 × Int32 × CS) : Option ((Int64 × Int32 × CS) ⊕ (Int64 × Int32 × CS)) :=
  if (11 : Int32) ≤ a_6.2.1 then some (.inr (a_6.1, a_6.2.1, a_6.2.2)) else bd (oC_count a_6.2.2 a_6.2.1) fun y_19 : Int32 × CS => some (.inl (((31 : Int64) * a_6.1) + y_19.1.toInt64, a_6.2.1 + 1, y_19.2))
set_option maxRecDepth 100000 in
set_option maxHeartbeats 4000000 in
theorem bL_seen_6 (x : GX) (C : GC x cL_seen RL rmL_seen) (N : xn x = 4) (ta : TA) (kf : Nat → Option Nat) (sf : Nat → Option Nat) (zQ : Nat → Nat → Nat) (zS : Nat → Nat → Nat) (a_6 : Int64 × Int32 × CS) (r : (Int64 × Int32 × CS) ⊕ (Int64 × Int32 × CS)) (hk : HK kf zQ) (hs : HS sf zS)  (hf : gL_seen_6 a_6 = some r) (kn : ∀ e : Int64 × Int32 × CS, r = .inl e → ∀ (kf : Nat → Option Nat) (zQ : Nat → Nat → Nat), HK kf zQ → GW x 0 0 (tkw (xy x) ta kf sf zQ zS e.2.2 ++ []) [(0, .ref ta.1), (1, .long e.1), (3, .int e.2.1)] 6 []) (kx : ∀ e : Int64 × Int32 × CS, r = .inr e → ∀ (kf : Nat → Option Nat) (zQ : Nat → Nat → Nat), HK kf zQ → GW x 0 0 (tkw (xy x) ta kf sf zQ zS e.2.2 ++ []) [(0, .ref ta.1), (1, .long e.1)] 31 []) : GW x 0 0 (tkw (xy x) ta kf sf zQ zS a_6.2.2 ++ []) [(0, .ref ta.1), (1, .long a_6.1), (3, .int a_6.2.1)] 6 [] := by
  unfold gL_seen_6 at hf
  refine g_iload_n C (pc := 6) 2 dL_seen_6 rfl rfl ?_
  refine g_bipush C (pc := 7) dL_seen_7 ck_bipush_11 ?_
  refine g_icmp_ge C (pc := 9) 31 dL_seen_9 (by decide) (fun c_9 => ?_) (fun c_9 => ?_)
  · replace hf := (k_if hf).1 c_9
    cases hf
    exact g_lo [0, 1] rfl (kx (a_6.1, a_6.2.1, a_6.2.2) rfl kf zQ hk)
  · replace hf := (k_if hf).2 c_9
    refine g_ldc2 C (pc := 12) lcL_11 dL_seen_12 ?_
    refine g_lload_n C (pc := 15) 1 dL_seen_15 rfl rfl ?_
    refine g_lmul C (pc := 16) dL_seen_16 ?_
    refine g_aload_n C (pc := 17) 0 dL_seen_17 rfl rfl ?_
    refine g_iload_n C (pc := 18) 2 dL_seen_18 rfl rfl ?_
    obtain ⟨y_19, h_19, hf⟩ := k_bd hf
    refine g_callO C (pc := 19) (As := [.int a_6.2.1]) (rest := [.long ((31 : Int64) * a_6.1)]) (v1 := .int y_19.1) (c' := y_19.2) (st' := [.int y_19.1, .long ((31 : Int64) * a_6.1)]) lkX10_count lVL_13 (kC_count (xl x) (xD x) (xy x) ta kf sf zQ zS a_6.2.2 a_6.2.1 y_19 hk hs h_19) rfl ⟨⟨Nat.le_of_ble_eq_true rfl, Nat.le_of_ble_eq_true rfl⟩, ⟨rfl, rfl⟩, ⟨Nat.le_of_ble_eq_true rfl, Nat.le_of_ble_eq_true rfl⟩⟩ rfl rfl (Nat.le_of_ble_eq_true rfl) rfl dL_seen_19 (fun kf_19 zQ_19 hk_19 => ?_)
    refine g_i2l C (pc := 22) dL_seen_22 ?_
    refine g_ladd C (pc := 23) dL_seen_23 ?_
    refine g_lstore_n C (pc := 24) (lo' := [(1, .long (((31 : Int64) * a_6.1) + y_19.1.toInt64)), (0, .ref ta.1), (3, .int a_6.2.1)]) dL_seen_24 rfl N rfl rfl ?_
    refine g_iinc C (pc := 25) (v := a_6.2.1 + 1) (lo' := [(3, .int (a_6.2.1 + 1)), (1, .long (((31 : Int64) * a_6.1) + y_19.1.toInt64)), (0, .ref ta.1)]) 2 dL_seen_25 rfl (congrArg (HAdd.hAdd _) ck_iinc_1) N rfl rfl ?_
    refine g_goto C (pc := 28) (tgt := 6) dL_seen_28 (by decide) ?_
    cases hf
    exact g_lo [2, 1, 0] rfl (kn (((31 : Int64) * a_6.1) + y_19.1.toInt64, a_6.2.1 + 1, y_19.2) rfl kf_19 zQ_19 hk_19)
def gL_seen_33  (a_33 : Int64 × Int32 × CS) : Option ((Int64 × Int32 × CS) ⊕ (Int64 × Int32 × CS)) :=
  if (40 : Int32) ≤ a_33.2.1 then some (.inr (a_33.1, a_33.2.1, a_33.2.2)) else bd (oC_ofStep a_33.2.2 (a_33.2.1 / (5 : Int32)) (a_33.2.1 - a_33.2.1 / (5 : Int32) * (5 : Int32))) fun y_51 : Int32 × CS => some (.inl (((31 : Int64) * a_33.1) + y_51.1.toInt64, a_33.2.1 + 1, y_51.2))
set_option maxRecDepth 100000 in
set_option maxHeartbeats 4000000 in
theorem bL_seen_33 (x : GX) (C : GC x cL_seen RL rmL_seen) (N : xn x = 4) (ta : TA) (kf : Nat → Option Nat) (sf : Nat → Option Nat) (zQ : Nat → Nat → Nat) (zS : Nat → Nat → Nat) (a_33 : Int64 × Int32 × CS) (r : (Int64 × Int32 × CS) ⊕ (Int64 × Int32 × CS)) (hk : HK kf zQ) (hs : HS sf zS)  (hf : gL_seen_33 a_33 = some r) (kn : ∀ e : Int64 × Int32 × CS, r = .inl e → ∀ (kf : Nat → Option Nat) (zQ : Nat → Nat → Nat), HK kf zQ → GW x 0 0 (tkw (xy x) ta kf sf zQ zS e.2.2 ++ []) [(0, .ref ta.1), (1, .long e.1), (3, .int e.2.1)] 33 []) (kx : ∀ e : Int64 × Int32 × CS, r = .inr e → ∀ (kf : Nat → Option Nat) (zQ : Nat → Nat → Nat), HK kf zQ → GW x 0 0 (tkw (xy x) ta kf sf zQ zS e.2.2 ++ []) [(0, .ref ta.1), (1, .long e.1)] 63 []) : GW x 0 0 (tkw (xy x) ta kf sf zQ zS a_33.2.2 ++ []) [(0, .ref ta.1), (1, .long a_33.1), (3, .int a_33.2.1)] 33 [] := by
  unfold gL_seen_33 at hf
  refine g_iload_n C (pc := 33) 2 dL_seen_33 rfl rfl ?_
  refine g_bipush C (pc := 34) dL_seen_34 ck_bipush_40 ?_
  refine g_icmp_ge C (pc := 36) 63 dL_seen_36 (by decide) (fun c_36 => ?_) (fun c_36 => ?_)
  · replace hf := (k_if hf).1 c_36
    cases hf
    exact g_lo [0, 1] rfl (kx (a_33.1, a_33.2.1, a_33.2.2) rfl kf zQ hk)
  · replace hf := (k_if hf).2 c_36
    refine g_ldc2 C (pc := 39) lcL_11 dL_seen_39 ?_
    refine g_lload_n C (pc := 42) 1 dL_seen_42 rfl rfl ?_
    refine g_lmul C (pc := 43) dL_seen_43 ?_
    refine g_aload_n C (pc := 44) 0 dL_seen_44 rfl rfl ?_
    refine g_iload_n C (pc := 45) 2 dL_seen_45 rfl rfl ?_
    refine g_iconst C (pc := 46) dL_seen_46 ck_iconst_5 ?_
    refine g_idiv C (pc := 47) dL_seen_47 (by decide) ?_
    refine g_iload_n C (pc := 48) 2 dL_seen_48 rfl rfl ?_
    refine g_iconst C (pc := 49) dL_seen_49 ck_iconst_5 ?_
    refine g_irem C (pc := 50) dL_seen_50 (by decide) ?_
    obtain ⟨y_51, h_51, hf⟩ := k_bd hf
    refine g_callO C (pc := 51) (As := [.int (a_33.2.1 / (5 : Int32)), .int (a_33.2.1 - a_33.2.1 / (5 : Int32) * (5 : Int32))]) (rest := [.long ((31 : Int64) * a_33.1)]) (v1 := .int y_51.1) (c' := y_51.2) (st' := [.int y_51.1, .long ((31 : Int64) * a_33.1)]) lkX10_ofStep lVL_19 (kC_ofStep (xl x) (xD x) (xy x) ta kf sf zQ zS a_33.2.2 (a_33.2.1 / (5 : Int32)) (a_33.2.1 - a_33.2.1 / (5 : Int32) * (5 : Int32)) y_51 hk hs h_51) rfl ⟨⟨Nat.le_of_ble_eq_true rfl, Nat.le_of_ble_eq_true rfl⟩, ⟨rfl, rfl⟩, ⟨Nat.le_of_ble_eq_true rfl, Nat.le_of_ble_eq_true rfl⟩⟩ rfl rfl (Nat.le_of_ble_eq_true rfl) rfl dL_seen_51 (fun kf_51 zQ_51 hk_51 => ?_)
    refine g_i2l C (pc := 54) dL_seen_54 ?_
    refine g_ladd C (pc := 55) dL_seen_55 ?_
    refine g_lstore_n C (pc := 56) (lo' := [(1, .long (((31 : Int64) * a_33.1) + y_51.1.toInt64)), (0, .ref ta.1), (3, .int a_33.2.1)]) dL_seen_56 rfl N rfl rfl ?_
    refine g_iinc C (pc := 57) (v := a_33.2.1 + 1) (lo' := [(3, .int (a_33.2.1 + 1)), (1, .long (((31 : Int64) * a_33.1) + y_51.1.toInt64)), (0, .ref ta.1)]) 2 dL_seen_57 rfl (congrArg (HAdd.hAdd _) ck_iinc_1) N rfl rfl ?_
    refine g_goto C (pc := 60) (tgt := 33) dL_seen_60 (by decide) ?_
    cases hf
    exact g_lo [2, 1, 0] rfl (kn (((31 : Int64) * a_33.1) + y_51.1.toInt64, a_33.2.1 + 1, y_51.2) rfl kf_51 zQ_51 hk_51)
def gL_seen_65  (a_65 : Int64 × Int32 × CS) : Option ((Int64 × Int32 × CS) ⊕ (Int64 × Int32 × CS)) :=
  bd (oC_count a_65.2.2 (1 : Int32)) fun y_69 : Int32 × CS => if ((5 : Int32) * y_69.1) ≤ a_65.2.1 then some (.inr (a_65.1, a_65.2.1, y_69.2)) else bd (oC_ofCandidate y_69.2 (a_65.2.1 / (5 : Int32)) (a_65.2.1 - a_65.2.1 / (5 : Int32) * (5 : Int32))) fun y_88 : Int32 × CS => some (.inl (((31 : Int64) * a_65.1) + y_88.1.toInt64, a_65.2.1 + 1, y_88.2))
set_option maxRecDepth 100000 in
set_option maxHeartbeats 4000000 in
theorem bL_seen_65 (x : GX) (C : GC x cL_seen RL rmL_seen) (N : xn x = 4) (ta : TA) (kf : Nat → Option Nat) (sf : Nat → Option Nat) (zQ : Nat → Nat → Nat) (zS : Nat → Nat → Nat) (a_65 : Int64 × Int32 × CS) (r : (Int64 × Int32 × CS) ⊕ (Int64 × Int32 × CS)) (hk : HK kf zQ) (hs : HS sf zS)  (hf : gL_seen_65 a_65 = some r) (kn : ∀ e : Int64 × Int32 × CS, r = .inl e → ∀ (kf : Nat → Option Nat) (zQ : Nat → Nat → Nat), HK kf zQ → GW x 0 0 (tkw (xy x) ta kf sf zQ zS e.2.2 ++ []) [(0, .ref ta.1), (1, .long e.1), (3, .int e.2.1)] 65 []) (kx : ∀ e : Int64 × Int32 × CS, r = .inr e → ∀ (kf : Nat → Option Nat) (zQ : Nat → Nat → Nat), HK kf zQ → GW x 0 0 (tkw (xy x) ta kf sf zQ zS e.2.2 ++ []) [(1, .long e.1)] 100 []) : GW x 0 0 (tkw (xy x) ta kf sf zQ zS a_65.2.2 ++ []) [(0, .ref ta.1), (1, .long a_65.1), (3, .int a_65.2.1)] 65 [] := by
  unfold gL_seen_65 at hf
  refine g_iload_n C (pc := 65) 2 dL_seen_65 rfl rfl ?_
  refine g_iconst C (pc := 66) dL_seen_66 ck_iconst_5 ?_
  refine g_aload_n C (pc := 67) 0 dL_seen_67 rfl rfl ?_
  refine g_iconst C (pc := 68) dL_seen_68 ck_iconst_1 ?_
  obtain ⟨y_69, h_69, hf⟩ := k_bd hf
  refine g_callO C (pc := 69) (As := [.int (1 : Int32)]) (rest := [.int (5 : Int32), .int a_65.2.1]) (v1 := .int y_69.1) (c' := y_69.2) (st' := [.int y_69.1, .int (5 : Int32), .int a_65.2.1]) lkX10_count lVL_13 (kC_count (xl x) (xD x) (xy x) ta kf sf zQ zS a_65.2.2 (1 : Int32) y_69 hk hs h_69) rfl ⟨⟨Nat.le_of_ble_eq_true rfl, Nat.le_of_ble_eq_true rfl⟩, ⟨rfl, rfl⟩, ⟨Nat.le_of_ble_eq_true rfl, Nat.le_of_ble_eq_true rfl⟩⟩ rfl rfl (Nat.le_of_ble_eq_true rfl) rfl dL_seen_69 (fun kf_69 zQ_69 hk_69 => ?_)
  refine g_imul C (pc := 72) dL_seen_72 ?_
  refine g_icmp_ge C (pc := 73) 100 dL_seen_73 (by decide) (fun c_73 => ?_) (fun c_73 => ?_)
  · replace hf := (k_if hf).1 c_73
    cases hf
    exact g_lo [1] rfl (kx (a_65.1, a_65.2.1, y_69.2) rfl kf_69 zQ_69 hk_69)
  · replace hf := (k_if hf).2 c_73
    refine g_ldc2 C (pc := 76) lcL_11 dL_seen_76 ?_
    refine g_lload_n C (pc := 79) 1 dL_seen_79 rfl rfl ?_
    refine g_lmul C (pc := 80) dL_seen_80 ?_
    refine g_aload_n C (pc := 81) 0 dL_seen_81 rfl rfl ?_
    refine g_iload_n C (pc := 82) 2 dL_seen_82 rfl rfl ?_
    refine g_iconst C (pc := 83) dL_seen_83 ck_iconst_5 ?_
    refine g_idiv C (pc := 84) dL_seen_84 (by decide) ?_
    refine g_iload_n C (pc := 85) 2 dL_seen_85 rfl rfl ?_
    refine g_iconst C (pc := 86) dL_seen_86 ck_iconst_5 ?_
    refine g_irem C (pc := 87) dL_seen_87 (by decide) ?_
    obtain ⟨y_88, h_88, hf⟩ := k_bd hf
    refine g_callO C (pc := 88) (As := [.int (a_65.2.1 / (5 : Int32)), .int (a_65.2.1 - a_65.2.1 / (5 : Int32) * (5 : Int32))]) (rest := [.long ((31 : Int64) * a_65.1)]) (v1 := .int y_88.1) (c' := y_88.2) (st' := [.int y_88.1, .long ((31 : Int64) * a_65.1)]) lkX10_ofCandidate lVL_23 (kC_ofCandidate (xl x) (xD x) (xy x) ta kf_69 sf zQ_69 zS y_69.2 (a_65.2.1 / (5 : Int32)) (a_65.2.1 - a_65.2.1 / (5 : Int32) * (5 : Int32)) y_88 hk_69 hs h_88) rfl ⟨⟨Nat.le_of_ble_eq_true rfl, Nat.le_of_ble_eq_true rfl⟩, ⟨rfl, rfl⟩, ⟨Nat.le_of_ble_eq_true rfl, Nat.le_of_ble_eq_true rfl⟩⟩ rfl rfl (Nat.le_of_ble_eq_true rfl) rfl dL_seen_88 (fun kf_88 zQ_88 hk_88 => ?_)
    refine g_i2l C (pc := 91) dL_seen_91 ?_
    refine g_ladd C (pc := 92) dL_seen_92 ?_
    refine g_lstore_n C (pc := 93) (lo' := [(1, .long (((31 : Int64) * a_65.1) + y_88.1.toInt64)), (0, .ref ta.1), (3, .int a_65.2.1)]) dL_seen_93 rfl N rfl rfl ?_
    refine g_iinc C (pc := 94) (v := a_65.2.1 + 1) (lo' := [(3, .int (a_65.2.1 + 1)), (1, .long (((31 : Int64) * a_65.1) + y_88.1.toInt64)), (0, .ref ta.1)]) 2 dL_seen_94 rfl (congrArg (HAdd.hAdd _) ck_iinc_1) N rfl rfl ?_
    refine g_goto C (pc := 97) (tgt := 65) dL_seen_97 (by decide) ?_
    cases hf
    exact g_lo [2, 1, 0] rfl (kn (((31 : Int64) * a_65.1) + y_88.1.toInt64, a_65.2.1 + 1, y_88.2) rfl kf_88 zQ_88 hk_88)
set_option maxRecDepth 100000 in
def fL_seen (cs : CS) : Option (Int64 × CS) :=
  bd (iter gL_seen_6 FU ((7 : Int64), (0 : Int32), cs)) fun b_6 : Int64 × Int32 × CS => bd (iter gL_seen_33 FU (b_6.1, (0 : Int32), b_6.2.2)) fun b_33 : Int64 × Int32 × CS => bd (iter gL_seen_65 FU (b_33.1, (0 : Int32), b_33.2.2)) fun b_65 : Int64 × Int32 × CS => some (b_65.1, b_65.2.2)
set_option maxRecDepth 100000 in
set_option maxHeartbeats 4000000 in
theorem eL_seen (x : GX) (C : GC x cL_seen RL rmL_seen) (N : xn x = 4) (ta : TA) (kf : Nat → Option Nat) (sf : Nat → Option Nat) (zQ : Nat → Nat → Nat) (zS : Nat → Nat → Nat) (cs : CS) (o : Int64 × CS) (hk : HK kf zQ) (hs : HS sf zS) (E : GE x (some .long) 0 0 (PO (xy x) ta sf zS (.long o.1) o.2)) (hf : fL_seen cs = some o)  : GW x 0 0 (tkw (xy x) ta kf sf zQ zS cs ++ []) [(0, .ref ta.1)] 0 [] := by
  unfold fL_seen at hf
  refine g_ldc2 C (pc := 0) lcL_9 dL_seen_0 ?_
  refine g_lstore_n C (pc := 3) (lo' := [(1, .long (7 : Int64)), (0, .ref ta.1)]) dL_seen_3 rfl N rfl rfl ?_
  refine g_iconst C (pc := 4) dL_seen_4 ck_iconst_0 ?_
  refine g_istore_n C (pc := 5) (lo' := [(3, .int (0 : Int32)), (1, .long (7 : Int64)), (0, .ref ta.1)]) dL_seen_5 rfl N rfl rfl ?_
  obtain ⟨b_6, hb_6, hf⟩ := k_bd hf
  refine g_lo [2, 1, 0] rfl ?_
  refine g_loopT (g := gL_seen_6) (fun (e : Int64 × Int32 × CS) (kf : Nat → Option Nat) (zQ : Nat → Nat → Nat) => (tkw (xy x) ta kf sf zQ zS e.2.2 ++ [])) (fun e : Int64 × Int32 × CS => [(0, .ref ta.1), (1, .long e.1), (3, .int e.2.1)]) 6 (fun e : Int64 × Int32 × CS => ∀ (kf : Nat → Option Nat) (zQ : Nat → Nat → Nat), HK kf zQ → GW x 0 0 (tkw (xy x) ta kf sf zQ zS e.2.2 ++ []) [(0, .ref ta.1), (1, .long e.1)] 31 []) (fun a r hg kn kx kf zQ hk => bL_seen_6 x C N ta kf sf zQ zS a r hk hs hg kn kx) FU _ b_6 hb_6 (fun kf_6 zQ_6 hk_6 => ?_) kf zQ hk
  refine g_iconst C (pc := 31) dL_seen_31 ck_iconst_0 ?_
  refine g_istore_n C (pc := 32) (lo' := [(3, .int (0 : Int32)), (0, .ref ta.1), (1, .long b_6.1)]) dL_seen_32 rfl N rfl rfl ?_
  obtain ⟨b_33, hb_33, hf⟩ := k_bd hf
  refine g_lo [1, 2, 0] rfl ?_
  refine g_loopT (g := gL_seen_33) (fun (e : Int64 × Int32 × CS) (kf : Nat → Option Nat) (zQ : Nat → Nat → Nat) => (tkw (xy x) ta kf sf zQ zS e.2.2 ++ [])) (fun e : Int64 × Int32 × CS => [(0, .ref ta.1), (1, .long e.1), (3, .int e.2.1)]) 33 (fun e : Int64 × Int32 × CS => ∀ (kf : Nat → Option Nat) (zQ : Nat → Nat → Nat), HK kf zQ → GW x 0 0 (tkw (xy x) ta kf sf zQ zS e.2.2 ++ []) [(0, .ref ta.1), (1, .long e.1)] 63 []) (fun a r hg kn kx kf zQ hk => bL_seen_33 x C N ta kf sf zQ zS a r hk hs hg kn kx) FU _ b_33 hb_33 (fun kf_33 zQ_33 hk_33 => ?_) kf_6 zQ_6 hk_6
  refine g_iconst C (pc := 63) dL_seen_63 ck_iconst_0 ?_
  refine g_istore_n C (pc := 64) (lo' := [(3, .int (0 : Int32)), (0, .ref ta.1), (1, .long b_33.1)]) dL_seen_64 rfl N rfl rfl ?_
  obtain ⟨b_65, hb_65, hf⟩ := k_bd hf
  refine g_lo [1, 2, 0] rfl ?_
  refine g_loopT (g := gL_seen_65) (fun (e : Int64 × Int32 × CS) (kf : Nat → Option Nat) (zQ : Nat → Nat → Nat) => (tkw (xy x) ta kf sf zQ zS e.2.2 ++ [])) (fun e : Int64 × Int32 × CS => [(0, .ref ta.1), (1, .long e.1), (3, .int e.2.1)]) 65 (fun e : Int64 × Int32 × CS => ∀ (kf : Nat → Option Nat) (zQ : Nat → Nat → Nat), HK kf zQ → GW x 0 0 (tkw (xy x) ta kf sf zQ zS e.2.2 ++ []) [(1, .long e.1)] 100 []) (fun a r hg kn kx kf zQ hk => bL_seen_65 x C N ta kf sf zQ zS a r hk hs hg kn kx) FU _ b_65 hb_65 (fun kf_65 zQ_65 hk_65 => ?_) kf_33 zQ_33 hk_33
  refine g_lload_n C (pc := 100) 0 dL_seen_100 rfl rfl ?_
  cases hf
  exact g_wid (Nat.le_of_ble_eq_true rfl) (Nat.le_of_ble_eq_true rfl) (g_lret C E (pc := 101) dL_seen_101 ⟨zQ_65, kf_65, hk_65, rfl, List.append_nil _⟩)
set_option maxRecDepth 100000 in
theorem cL_seen_k (l : Launch) (D : va_G) (yy : Nat → ClassId) (ta : TA) (kf : Nat → Option Nat) (sf : Nat → Option Nat) (zQ : Nat → Nat → Nat) (zS : Nat → Nat → Nat) (cs : CS) (o : Int64 × CS) (hk : HK kf zQ) (hs : HS sf zS) (hf : fL_seen cs = some o) : GMet l yL_seen cL_seen 4 (some .long) rmL_seen 0 0 D yy [.ref ta.1] (tkw yy ta kf sf zQ zS cs) (PO yy ta sf zS (.long o.1) o.2) :=
  g_met (by decide +kernel) (Nat.le_of_ble_eq_true rfl) (fun x hl hD hy hn C E _ => by subst hD; subst hy; exact g_nil (eL_seen x C hn ta kf sf zQ zS cs o hk hs E hf))
