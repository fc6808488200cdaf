def rmL_part : Room := { frames := 0, cells := 0, slots := 0, locals := 0 }
set_option maxRecDepth 100000 in
def fL_part (p0 : Int32) (p1 : Int32) : Option (Int32) :=
  gd (nzi p1) (some ((p0 &&& (2147483647 : Int32)) - (p0 &&& (2147483647 : Int32)) / p1 * p1))
set_option maxRecDepth 100000 in
set_option maxHeartbeats 4000000 in
theorem eL_part (x : GX) (C : GC x cL_part RL rmL_part) (N : xn x = 2) (p0 : Int32) (p1 : Int32) (o : Int32) (E : GE x (some .int) 0 0 (fun zv zw => zv = some ((.int o)) ∧ zw = [])) (hf : fL_part p0 p1 = some o)  : GW x 0 0 [] [(0, .int p0), (1, .int p1)] 0 [] := by
  unfold fL_part at hf
  refine g_iload_n C (pc := 0) 0 dL_part_0 rfl rfl ?_
  refine g_ldc C (pc := 1) lciL_7 dL_part_1 ?_
  refine g_iand C (pc := 3) dL_part_3 ?_
  refine g_iload_n C (pc := 4) 1 dL_part_4 rfl rfl ?_
  obtain ⟨z_5, hf⟩ := k_gd hf
  refine g_irem C (pc := 5) dL_part_5 (nzi_of z_5) ?_
  cases hf
  exact g_wid (Nat.le_of_ble_eq_true rfl) (Nat.le_of_ble_eq_true rfl) (g_iret C E (pc := 6) dL_part_6 ⟨rfl, rfl⟩)
set_option maxRecDepth 100000 in
theorem cL_part_k (l : Launch) (D : va_G) (yy : Nat → ClassId) (p0 : Int32) (p1 : Int32) (o : Int32) (hf : fL_part p0 p1 = some o) : GMet l yL_part cL_part 2 (some .int) rmL_part 0 0 D yy [.int p0, .int p1] ([]) (fun zv zw => zv = some ((.int o)) ∧ zw = []) :=
  g_met (by decide +kernel) (Nat.le_of_ble_eq_true rfl) (fun x hl hD hy hn C E _ => by subst hD; subst hy; exact (eL_part x C hn p0 p1 o E hf))
def rmL_drawn : Room := { frames := 0, cells := 0, slots := 0, locals := 0 }
set_option maxRecDepth 100000 in
def fL_drawn (L : Nat) (sv : Nat → Int32) (p1 : Int32) : Option (Int32) :=
  if (Int32.ofNat L) = 0 then some (((7919 : Int32) * p1) + (3 : Int32)) else gd (nzi (Int32.ofNat L)) (gd (gi (p1 - p1 / (Int32.ofNat L) * (Int32.ofNat L)) L) (gd (nzi (Int32.ofNat L)) (some ((((sv (ix (p1 - p1 / (Int32.ofNat L) * (Int32.ofNat L)))) >>> ((p1 - p1 / (7 : Int32) * (7 : Int32)) &&& 31)) ^^^ ((p1 / (Int32.ofNat L)) * (31 : Int32))) ^^^ (p1 * (2654435 : Int32))))))
set_option maxRecDepth 100000 in
set_option maxHeartbeats 4000000 in
theorem eL_drawn (x : GX) (C : GC x cL_drawn RL rmL_drawn) (N : xn x = 2) (b : Nat) (L : Nat) (sv : Nat → Int32) (p1 : Int32) (o : Int32) (hX : va_X b L sv (xs x) (xs x).heap) (hbl : b < (xs x).heap.size) (hbA : ¬ xA x b) (E : GE x (some .int) 0 0 (fun zv zw => zv = some ((.int o)) ∧ zw = [])) (hf : fL_drawn L sv p1 = some o)  : GW x 0 0 [] [(0, .ref b), (1, .int p1)] 0 [] := by
  unfold fL_drawn at hf
  refine g_aload_n C (pc := 0) 0 dL_drawn_0 rfl rfl ?_
  refine g_slen C (pc := 1) hX hbl hbA dL_drawn_1 ?_
  refine g_if_ne C (pc := 2) 15 dL_drawn_2 (by decide) (fun c_2 => ?_) (fun c_2 => ?_)
  · replace hf := (k_if hf).2 c_2
    refine g_aload_n C (pc := 15) 0 dL_drawn_15 rfl rfl ?_
    refine g_iload_n C (pc := 16) 1 dL_drawn_16 rfl rfl ?_
    refine g_aload_n C (pc := 17) 0 dL_drawn_17 rfl rfl ?_
    refine g_slen C (pc := 18) hX hbl hbA dL_drawn_18 ?_
    obtain ⟨z_19, hf⟩ := k_gd hf
    refine g_irem C (pc := 19) dL_drawn_19 (nzi_of z_19) ?_
    obtain ⟨i_20, hf⟩ := k_gd hf
    refine g_sld C (pc := 20) hX hbl hbA (gi_in i_20) dL_drawn_20 ?_
    refine g_iload_n C (pc := 21) 1 dL_drawn_21 rfl rfl ?_
    refine g_bipush C (pc := 22) dL_drawn_22 ck_bipush_7 ?_
    refine g_irem C (pc := 24) dL_drawn_24 (by decide) ?_
    refine g_ishr C (pc := 25) dL_drawn_25 ?_
    refine g_iload_n C (pc := 26) 1 dL_drawn_26 rfl rfl ?_
    refine g_aload_n C (pc := 27) 0 dL_drawn_27 rfl rfl ?_
    refine g_slen C (pc := 28) hX hbl hbA dL_drawn_28 ?_
    obtain ⟨z_29, hf⟩ := k_gd hf
    refine g_idiv C (pc := 29) dL_drawn_29 (nzi_of z_29) ?_
    refine g_bipush C (pc := 30) dL_drawn_30 ck_bipush_31 ?_
    refine g_imul C (pc := 32) dL_drawn_32 ?_
    refine g_ixor C (pc := 33) dL_drawn_33 ?_
    refine g_iload_n C (pc := 34) 1 dL_drawn_34 rfl rfl ?_
    refine g_ldc C (pc := 35) lciL_8 dL_drawn_35 ?_
    refine g_imul C (pc := 37) dL_drawn_37 ?_
    refine g_ixor C (pc := 38) dL_drawn_38 ?_
    cases hf
    exact g_wid (Nat.le_of_ble_eq_true rfl) (Nat.le_of_ble_eq_true rfl) (g_iret C E (pc := 39) dL_drawn_39 ⟨rfl, rfl⟩)
  · replace hf := (k_if hf).1 c_2
    refine g_sipush C (pc := 5) dL_drawn_5 ck_sipush_7919 ?_
    refine g_iload_n C (pc := 8) 1 dL_drawn_8 rfl rfl ?_
    refine g_imul C (pc := 9) dL_drawn_9 ?_
    refine g_iconst C (pc := 10) dL_drawn_10 ck_iconst_3 ?_
    refine g_iadd C (pc := 11) dL_drawn_11 ?_
    refine g_goto C (pc := 12) (tgt := 39) dL_drawn_12 (by decide) ?_
    cases hf
    exact g_wid (Nat.le_of_ble_eq_true rfl) (Nat.le_of_ble_eq_true rfl) (g_iret C E (pc := 39) dL_drawn_39 ⟨rfl, rfl⟩)
set_option maxRecDepth 100000 in
theorem cL_drawn_k (l : Launch) (D : va_G) (yy : Nat → ClassId) (b : Nat) (L : Nat) (sv : Nat → Int32) (p1 : Int32) (o : Int32) (hf : fL_drawn L sv p1 = some o) : GMetZ l yL_drawn cL_drawn 2 (some .int) rmL_drawn D yy [.ref b, .int p1] b L sv (fun zv zw => zv = some ((.int o)) ∧ zw = []) :=
  g_metZ (by decide +kernel) (Nat.le_of_ble_eq_true rfl) (fun x hl hD hy hn C E hX hbl hbA => by subst hD; subst hy; exact eL_drawn x C hn b L sv p1 o hX hbl hbA E hf)
def rmL_isCandidate : Room := { frames := 2, cells := 0, slots := 0, locals := 44 }
set_option maxRecDepth 100000 in
def fL_isCandidate (cs : CS) (p1 : Int32) (p2 : Int32) (p3 : Int32) (p4 : Int32) (p5 : Int32) : Option (Int32 × CS) :=
  bd (oC_ofCandidate cs p1 (1 : Int32)) fun y_3 : Int32 × CS => if y_3.1 = p2 then bd (oC_ofCandidate y_3.2 p1 (2 : Int32)) fun y_13 : Int32 × CS => if y_13.1 = p3 then bd (oC_ofCandidate y_13.2 p1 (3 : Int32)) fun y_23 : Int32 × CS => if y_23.1 = p4 then bd (oC_ofCandidate y_23.2 p1 (4 : Int32)) fun y_34 : Int32 × CS => if y_34.1 = p5 then some ((1 : Int32), y_34.2) else some ((0 : Int32), y_34.2) else some ((0 : Int32), y_23.2) else some ((0 : Int32), y_13.2) else some ((0 : Int32), y_3.2)
set_option maxRecDepth 100000 in
set_option maxHeartbeats 4000000 in
theorem eL_isCandidate (x : GX) (C : GC x cL_isCandidate RL rmL_isCandidate) (N : xn x = 6) (ta : TA) (kf : Nat → Option Nat) (sf : Nat → Option Nat) (zQ : Nat → Nat → Nat) (zS : Nat → Nat → Nat) (cs : CS) (p1 : Int32) (p2 : Int32) (p3 : Int32) (p4 : Int32) (p5 : Int32) (o : Int32 × CS) (hk : HK kf zQ) (hs : HS sf zS) (E : GE x (some .boolean) 0 0 (PO (xy x) ta sf zS (.int o.1) o.2)) (hf : fL_isCandidate cs p1 p2 p3 p4 p5 = some o)  : GW x 0 0 (tkw (xy x) ta kf sf zQ zS cs ++ []) [(0, .ref ta.1), (1, .int p1), (2, .int p2), (3, .int p3), (4, .int p4), (5, .int p5)] 0 [] := by
  unfold fL_isCandidate at hf
  refine g_aload_n C (pc := 0) 0 dL_isCandidate_0 rfl rfl ?_
  refine g_iload_n C (pc := 1) 1 dL_isCandidate_1 rfl rfl ?_
  refine g_iconst C (pc := 2) dL_isCandidate_2 ck_iconst_1 ?_
  obtain ⟨y_3, h_3, hf⟩ := k_bd hf
  refine g_callO C (pc := 3) (As := [.int p1, .int (1 : Int32)]) (rest := []) (v1 := .int y_3.1) (c' := y_3.2) (st' := [.int y_3.1]) lkX10_ofCandidate lVL_23 (kC_ofCandidate (xl x) (xD x) (xy x) ta kf sf zQ zS cs p1 (1 : Int32) y_3 hk hs h_3) rfl ⟨⟨Nat.le_of_ble_eq_true rfl, Nat.le_of_ble_eq_true rfl⟩, ⟨rfl, rfl⟩, ⟨Nat.le_of_ble_eq_true rfl, Nat.le_of_ble_eq_true rfl⟩⟩ rfl rfl (Nat.le_of_ble_eq_true rfl) rfl dL_isCandidate_3 (fun kf_3 zQ_3 hk_3 => ?_)
  refine g_iload_n C (pc := 6) 2 dL_isCandidate_6 rfl rfl ?_
  refine g_icmp_ne C (pc := 7) 46 dL_isCandidate_7 (by decide) (fun c_7 => ?_) (fun c_7 => ?_)
  · replace hf := (k_if hf).2 c_7
    refine g_iconst C (pc := 46) dL_isCandidate_46 ck_iconst_0 ?_
    cases hf
    exact g_wid (Nat.le_of_ble_eq_true rfl) (Nat.le_of_ble_eq_true rfl) (g_zret C E rfl (pc := 47) dL_isCandidate_47 ⟨zQ_3, kf_3, hk_3, rfl, List.append_nil _⟩)
  · replace hf := (k_if hf).1 c_7
    refine g_aload_n C (pc := 10) 0 dL_isCandidate_10 rfl rfl ?_
    refine g_iload_n C (pc := 11) 1 dL_isCandidate_11 rfl rfl ?_
    refine g_iconst C (pc := 12) dL_isCandidate_12 ck_iconst_2 ?_
    obtain ⟨y_13, h_13, hf⟩ := k_bd hf
    refine g_callO C (pc := 13) (As := [.int p1, .int (2 : Int32)]) (rest := []) (v1 := .int y_13.1) (c' := y_13.2) (st' := [.int y_13.1]) lkX10_ofCandidate lVL_23 (kC_ofCandidate (xl x) (xD x) (xy x) ta kf_3 sf zQ_3 zS y_3.2 p1 (2 : Int32) y_13 hk_3 hs h_13) rfl ⟨⟨Nat.le_of_ble_eq_true rfl, Nat.le_of_ble_eq_true rfl⟩, ⟨rfl, rfl⟩, ⟨Nat.le_of_ble_eq_true rfl, Nat.le_of_ble_eq_true rfl⟩⟩ rfl rfl (Nat.le_of_ble_eq_true rfl) rfl dL_isCandidate_13 (fun kf_13 zQ_13 hk_13 => ?_)
    refine g_iload_n C (pc := 16) 3 dL_isCandidate_16 rfl rfl ?_
    refine g_icmp_ne C (pc := 17) 46 dL_isCandidate_17 (by decide) (fun c_17 => ?_) (fun c_17 => ?_)
    · replace hf := (k_if hf).2 c_17
      refine g_iconst C (pc := 46) dL_isCandidate_46 ck_iconst_0 ?_
      cases hf
      exact g_wid (Nat.le_of_ble_eq_true rfl) (Nat.le_of_ble_eq_true rfl) (g_zret C E rfl (pc := 47) dL_isCandidate_47 ⟨zQ_13, kf_13, hk_13, rfl, List.append_nil _⟩)
    · replace hf := (k_if hf).1 c_17
      refine g_aload_n C (pc := 20) 0 dL_isCandidate_20 rfl rfl ?_
      refine g_iload_n C (pc := 21) 1 dL_isCandidate_21 rfl rfl ?_
      refine g_iconst C (pc := 22) dL_isCandidate_22 ck_iconst_3 ?_
      obtain ⟨y_23, h_23, hf⟩ := k_bd hf
      refine g_callO C (pc := 23) (As := [.int p1, .int (3 : Int32)]) (rest := []) (v1 := .int y_23.1) (c' := y_23.2) (st' := [.int y_23.1]) lkX10_ofCandidate lVL_23 (kC_ofCandidate (xl x) (xD x) (xy x) ta kf_13 sf zQ_13 zS y_13.2 p1 (3 : Int32) y_23 hk_13 hs h_23) rfl ⟨⟨Nat.le_of_ble_eq_true rfl, Nat.le_of_ble_eq_true rfl⟩, ⟨rfl, rfl⟩, ⟨Nat.le_of_ble_eq_true rfl, Nat.le_of_ble_eq_true rfl⟩⟩ rfl rfl (Nat.le_of_ble_eq_true rfl) rfl dL_isCandidate_23 (fun kf_23 zQ_23 hk_23 => ?_)
      refine g_iload C (pc := 26) 4 dL_isCandidate_26 rfl ?_
      refine g_icmp_ne C (pc := 28) 46 dL_isCandidate_28 (by decide) (fun c_28 => ?_) (fun c_28 => ?_)
      · replace hf := (k_if hf).2 c_28
        refine g_iconst C (pc := 46) dL_isCandidate_46 ck_iconst_0 ?_
        cases hf
        exact g_wid (Nat.le_of_ble_eq_true rfl) (Nat.le_of_ble_eq_true rfl) (g_zret C E rfl (pc := 47) dL_isCandidate_47 ⟨zQ_23, kf_23, hk_23, rfl, List.append_nil _⟩)
      · replace hf := (k_if hf).1 c_28
        refine g_aload_n C (pc := 31) 0 dL_isCandidate_31 rfl rfl ?_
        refine g_iload_n C (pc := 32) 1 dL_isCandidate_32 rfl rfl ?_
        refine g_iconst C (pc := 33) dL_isCandidate_33 ck_iconst_4 ?_
        obtain ⟨y_34, h_34, hf⟩ := k_bd hf
        refine g_callO C (pc := 34) (As := [.int p1, .int (4 : Int32)]) (rest := []) (v1 := .int y_34.1) (c' := y_34.2) (st' := [.int y_34.1]) lkX10_ofCandidate lVL_23 (kC_ofCandidate (xl x) (xD x) (xy x) ta kf_23 sf zQ_23 zS y_23.2 p1 (4 : Int32) y_34 hk_23 hs h_34) rfl ⟨⟨Nat.le_of_ble_eq_true rfl, Nat.le_of_ble_eq_true rfl⟩, ⟨rfl, rfl⟩, ⟨Nat.le_of_ble_eq_true rfl, Nat.le_of_ble_eq_true rfl⟩⟩ rfl rfl (Nat.le_of_ble_eq_true rfl) rfl dL_isCandidate_34 (fun kf_34 zQ_34 hk_34 => ?_)
        refine g_iload C (pc := 37) 5 dL_isCandidate_37 rfl ?_
        refine g_icmp_ne C (pc := 39) 46 dL_isCandidate_39 (by decide) (fun c_39 => ?_) (fun c_39 => ?_)
        · replace hf := (k_if hf).2 c_39
          refine g_iconst C (pc := 46) dL_isCandidate_46 ck_iconst_0 ?_
          cases hf
          exact g_wid (Nat.le_of_ble_eq_true rfl) (Nat.le_of_ble_eq_true rfl) (g_zret C E rfl (pc := 47) dL_isCandidate_47 ⟨zQ_34, kf_34, hk_34, rfl, List.append_nil _⟩)
        · replace hf := (k_if hf).1 c_39
          refine g_iconst C (pc := 42) dL_isCandidate_42 ck_iconst_1 ?_
          refine g_goto C (pc := 43) (tgt := 47) dL_isCandidate_43 (by decide) ?_
          cases hf
          exact g_wid (Nat.le_of_ble_eq_true rfl) (Nat.le_of_ble_eq_true rfl) (g_zret C E rfl (pc := 47) dL_isCandidate_47 ⟨zQ_34, kf_34, hk_34, rfl, List.append_nil _⟩)
set_option maxRecDepth 100000 in
theorem cL_isCandidate_k (l : Launch) (D : va_G) (yy : Nat → ClassId) (ta : TA) (kf : Nat → Option Nat) (sf : Nat → Option Nat) (zQ : Nat → Nat → Nat) (zS : Nat → Nat → Nat) (cs : CS) (p1 : Int32) (p2 : Int32) (p3 : Int32) (p4 : Int32) (p5 : Int32) (o : Int32 × CS) (hk : HK kf zQ) (hs : HS sf zS) (hf : fL_isCandidate cs p1 p2 p3 p4 p5 = some o) : GMet l yL_isCandidate cL_isCandidate 6 (some .boolean) rmL_isCandidate 0 0 D yy [.ref ta.1, .int p1, .int p2, .int p3, .int p4, .int p5] (tkw yy ta kf sf zQ zS cs) (PO yy ta sf zS (.int o.1) o.2) :=
  g_met (by decide +kernel) (Nat.le_of_ble_eq_true rfl) (fun x hl hD hy hn C E _ => by subst hD; subst hy; exact g_nil (eL_isCandidate x C hn ta kf sf zQ zS cs p1 p2 p3 p4 p5 o hk hs E hf))
def rmL_puts : Room := { frames := 2, cells := 0, slots := 0, locals := 49 }
set_option maxRecDepth 100000 in
def fL_puts (cs : CS) (p1 : Int64) : Option (Int32 × CS) :=
  if (lg_cmp p1 (0 : Int64)) = 0 then some ((1 : Int32), cs) else bd (oC_put cs p1) fun y_8 : Int32 × CS => if y_8.1 ≤ 0 then some ((0 : Int32), y_8.2) else some ((1 : Int32), y_8.2)
set_option maxRecDepth 100000 in
set_option maxHeartbeats 4000000 in
theorem eL_puts (x : GX) (C : GC x cL_puts RL rmL_puts) (N : xn x = 3) (ta : TA) (kf : Nat → Option Nat) (sf : Nat → Option Nat) (zQ : Nat → Nat → Nat) (zS : Nat → Nat → Nat) (cs : CS) (p1 : Int64) (o : Int32 × CS) (hk : HK kf zQ) (hs : HS sf zS) (E : GE x (some .boolean) 0 0 (PO (xy x) ta sf zS (.int o.1) o.2)) (hf : fL_puts cs p1 = some o)  : GW x 0 0 (tkw (xy x) ta kf sf zQ zS cs ++ []) [(0, .ref ta.1), (1, .long p1)] 0 [] := by
  unfold fL_puts at hf
  refine g_lload_n C (pc := 0) 1 dL_puts_0 rfl rfl ?_
  refine g_lconst C (pc := 1) (v := 0) dL_puts_1 rfl ?_
  refine g_lcmp C (pc := 2) dL_puts_2 ?_
  refine g_if_eq C (pc := 3) 14 dL_puts_3 (by decide) (fun c_3 => ?_) (fun c_3 => ?_)
  · replace hf := (k_if hf).1 c_3
    refine g_iconst C (pc := 14) dL_puts_14 ck_iconst_1 ?_
    refine g_goto C (pc := 15) (tgt := 19) dL_puts_15 (by decide) ?_
    cases hf
    exact g_wid (Nat.le_of_ble_eq_true rfl) (Nat.le_of_ble_eq_true rfl) (g_zret C E rfl (pc := 19) dL_puts_19 ⟨zQ, kf, hk, rfl, List.append_nil _⟩)
  · replace hf := (k_if hf).2 c_3
    refine g_aload_n C (pc := 6) 0 dL_puts_6 rfl rfl ?_
    refine g_lload_n C (pc := 7) 1 dL_puts_7 rfl rfl ?_
    obtain ⟨y_8, h_8, hf⟩ := k_bd hf
    refine g_callO C (pc := 8) (As := [.long p1]) (rest := []) (v1 := .int y_8.1) (c' := y_8.2) (st' := [.int y_8.1]) lkX10_put lVL_78 (kC_put (xl x) (xD x) (xy x) ta kf sf zQ zS cs p1 y_8 hk hs h_8) rfl ⟨⟨Nat.le_of_ble_eq_true rfl, Nat.le_of_ble_eq_true rfl⟩, ⟨rfl, rfl⟩, ⟨Nat.le_of_ble_eq_true rfl, Nat.le_of_ble_eq_true rfl⟩⟩ rfl rfl (Nat.le_of_ble_eq_true rfl) rfl dL_puts_8 (fun kf_8 zQ_8 hk_8 => ?_)
    refine g_if_le C (pc := 11) 18 dL_puts_11 (by decide) (fun c_11 => ?_) (fun c_11 => ?_)
    · replace hf := (k_if hf).1 c_11
      refine g_iconst C (pc := 18) dL_puts_18 ck_iconst_0 ?_
      cases hf
      exact g_wid (Nat.le_of_ble_eq_true rfl) (Nat.le_of_ble_eq_true rfl) (g_zret C E rfl (pc := 19) dL_puts_19 ⟨zQ_8, kf_8, hk_8, rfl, List.append_nil _⟩)
    · replace hf := (k_if hf).2 c_11
      refine g_iconst C (pc := 14) dL_puts_14 ck_iconst_1 ?_
      refine g_goto C (pc := 15) (tgt := 19) dL_puts_15 (by decide) ?_
      cases hf
      exact g_wid (Nat.le_of_ble_eq_true rfl) (Nat.le_of_ble_eq_true rfl) (g_zret C E rfl (pc := 19) dL_puts_19 ⟨zQ_8, kf_8, hk_8, rfl, List.append_nil _⟩)
set_option maxRecDepth 100000 in
theorem cL_puts_k (l : Launch) (D : va_G) (yy : Nat → ClassId) (ta : TA) (kf : Nat → Option Nat) (sf : Nat → Option Nat) (zQ : Nat → Nat → Nat) (zS : Nat → Nat → Nat) (cs : CS) (p1 : Int64) (o : Int32 × CS) (hk : HK kf zQ) (hs : HS sf zS) (hf : fL_puts cs p1 = some o) : GMet l yL_puts cL_puts 3 (some .boolean) rmL_puts 0 0 D yy [.ref ta.1, .long p1] (tkw yy ta kf sf zQ zS cs) (PO yy ta sf zS (.int o.1) o.2) :=
  g_met (by decide +kernel) (Nat.le_of_ble_eq_true rfl) (fun x hl hD hy hn C E _ => by subst hD; subst hy; exact g_nil (eL_puts x C hn ta kf sf zQ zS cs p1 o hk hs E hf))
def rmL_faultOf : Room := { frames := 8, cells := 187, slots := 8998, locals := 173 }
set_option maxRecDepth 100000 in
def fL_faultOf (p0 : Int64) (p1 : Int64) : Option (Int32) :=
  bd newC fun y_4 : CS => bd (fL_puts y_4 p0) fun y_12 : Int32 × CS => if y_12.1 = 0 then some (-99 : Int32) else bd (fL_puts y_12.2 p1) fun y_21 : Int32 × CS => if y_21.1 = 0 then some (-99 : Int32) else bd (oC_fault y_21.2) fun y_29 : Int32 × CS => some y_29.1
set_option maxRecDepth 100000 in
set_option maxHeartbeats 4000000 in
theorem eL_faultOf (x : GX) (C : GC x cL_faultOf RL rmL_faultOf) (N : xn x = 5) (p0 : Int64) (p1 : Int64) (o : Int32) (E : GE x (some .int) 187 8998 (fun zv _ => zv = some ((.int o)))) (hf : fL_faultOf p0 p1 = some o)  : GW x 0 0 [] [(0, .long p0), (2, .long p1)] 0 [] := by
  unfold fL_faultOf at hf
  obtain ⟨y_4, h_4, hf⟩ := k_bd hf
  obtain ⟨ob, h0, h1⟩ := k_bd h_4
  cases h1
  refine g_new C (pc := 0) lWL_14 [.null, .null, .null, .null, .null, .null, .null] (fun j hj => by rcases (show j = 0 ∨ j = 1 ∨ j = 2 ∨ j = 3 ∨ j = 4 ∨ j = 5 ∨ j = 6 by omega) with rfl | rfl | rfl | rfl | rfl | rfl | rfl <;> rfl) ⟨Nat.le_of_ble_eq_true rfl, Nat.le_of_ble_eq_true rfl⟩ dL_faultOf_0 (fun qk => ?_)
  refine g_dup C (pc := 3) dL_faultOf_3 rfl ?_
  refine g_callJ C (pc := 4) (b := qk) (As := []) (rest := [.ref qk]) (wr := []) (wc := [newT qk]) lkX10_init lIL_100 (cX10_init_k (xl x) (xD x) (xy x) qk ob h0) rfl ⟨⟨Nat.le_of_ble_eq_true rfl, Nat.le_of_ble_eq_true rfl⟩, ⟨rfl, rfl⟩, ⟨Nat.le_of_ble_eq_true rfl, Nat.le_of_ble_eq_true rfl⟩⟩ rfl (Nat.le_of_ble_eq_true rfl) dL_faultOf_4 rfl (fun zv zw hw => ?_)
  obtain ⟨rfl, ta, kf, sf, zQ, zS, rfl, hk, hs, hw⟩ := hw
  refine g_perm (ws' := tkw (xy x) ta kf sf zQ zS (C0 ob)) hw ?_
  refine g_nil ?_
  show GW x 187 8998 (tkw (xy x) ta kf sf zQ zS (C0 ob) ++ []) _ 7 [.ref ta.1]
  refine g_astore C (pc := 7) (lo' := [(4, .ref ta.1), (0, .long p0), (2, .long p1)]) dL_faultOf_7 N rfl rfl ?_
  refine g_aload C (pc := 9) 0 dL_faultOf_9 rfl ?_
  refine g_lload_n C (pc := 11) 1 dL_faultOf_11 rfl rfl ?_
  obtain ⟨y_12, h_12, hf⟩ := k_bd hf
  refine g_callOS C (pc := 12) (As := [.ref ta.1, .long p0]) (rest := []) (v1 := .int y_12.1) (c' := y_12.2) (st' := [.int y_12.1]) lkL_puts lSL_135 (cL_puts_k (xl x) (xD x) (xy x) ta kf sf zQ zS (C0 ob) p0 y_12 hk hs h_12) rfl ⟨⟨Nat.le_of_ble_eq_true rfl, Nat.le_of_ble_eq_true rfl⟩, ⟨rfl, rfl⟩, ⟨Nat.le_of_ble_eq_true rfl, Nat.le_of_ble_eq_true rfl⟩⟩ rfl (Nat.le_of_ble_eq_true rfl) rfl dL_faultOf_12 (fun kf_12 zQ_12 hk_12 => ?_)
  refine g_if_eq C (pc := 15) 35 dL_faultOf_15 (by decide) (fun c_15 => ?_) (fun c_15 => ?_)
  · replace hf := (k_if hf).1 c_15
    refine g_bipush C (pc := 35) dL_faultOf_35 ck_bipush_m99 ?_
    cases hf
    exact g_wid (Nat.le_of_ble_eq_true rfl) (Nat.le_of_ble_eq_true rfl) (g_iret C E (pc := 37) dL_faultOf_37 rfl)
  · replace hf := (k_if hf).2 c_15
    refine g_aload C (pc := 18) 0 dL_faultOf_18 rfl ?_
    refine g_lload_n C (pc := 20) 2 dL_faultOf_20 rfl rfl ?_
    obtain ⟨y_21, h_21, hf⟩ := k_bd hf
    refine g_callOS C (pc := 21) (As := [.ref ta.1, .long p1]) (rest := []) (v1 := .int y_21.1) (c' := y_21.2) (st' := [.int y_21.1]) lkL_puts lSL_135 (cL_puts_k (xl x) (xD x) (xy x) ta kf_12 sf zQ_12 zS y_12.2 p1 y_21 hk_12 hs h_21) rfl ⟨⟨Nat.le_of_ble_eq_true rfl, Nat.le_of_ble_eq_true rfl⟩, ⟨rfl, rfl⟩, ⟨Nat.le_of_ble_eq_true rfl, Nat.le_of_ble_eq_true rfl⟩⟩ rfl (Nat.le_of_ble_eq_true rfl) rfl dL_faultOf_21 (fun kf_21 zQ_21 hk_21 => ?_)
    refine g_if_eq C (pc := 24) 35 dL_faultOf_24 (by decide) (fun c_24 => ?_) (fun c_24 => ?_)
    · replace hf := (k_if hf).1 c_24
      refine g_bipush C (pc := 35) dL_faultOf_35 ck_bipush_m99 ?_
      cases hf
      exact g_wid (Nat.le_of_ble_eq_true rfl) (Nat.le_of_ble_eq_true rfl) (g_iret C E (pc := 37) dL_faultOf_37 rfl)
    · replace hf := (k_if hf).2 c_24
      refine g_aload C (pc := 27) 0 dL_faultOf_27 rfl ?_
      obtain ⟨y_29, h_29, hf⟩ := k_bd hf
      refine g_callO C (pc := 29) (As := []) (rest := []) (v1 := .int y_29.1) (c' := y_29.2) (st' := [.int y_29.1]) lkX10_fault lVL_139 (kC_fault (xl x) (xD x) (xy x) ta kf_21 sf zQ_21 zS y_21.2  y_29 hk_21 hs h_29) rfl ⟨⟨Nat.le_of_ble_eq_true rfl, Nat.le_of_ble_eq_true rfl⟩, ⟨rfl, rfl⟩, ⟨Nat.le_of_ble_eq_true rfl, Nat.le_of_ble_eq_true rfl⟩⟩ rfl rfl (Nat.le_of_ble_eq_true rfl) rfl dL_faultOf_29 (fun kf_29 zQ_29 hk_29 => ?_)
      refine g_goto C (pc := 32) (tgt := 37) dL_faultOf_32 (by decide) ?_
      cases hf
      exact g_wid (Nat.le_of_ble_eq_true rfl) (Nat.le_of_ble_eq_true rfl) (g_iret C E (pc := 37) dL_faultOf_37 rfl)
set_option maxRecDepth 100000 in
theorem cL_faultOf_k (l : Launch) (D : va_G) (yy : Nat → ClassId) (p0 : Int64) (p1 : Int64) (o : Int32) (hf : fL_faultOf p0 p1 = some o) : GMet l yL_faultOf cL_faultOf 5 (some .int) rmL_faultOf 187 8998 D yy [.long p0, .long p1] ([]) (fun zv _ => zv = some ((.int o))) :=
  g_met (by decide +kernel) (Nat.le_of_ble_eq_true rfl) (fun x hl hD hy hn C E _ => by subst hD; subst hy; exact (eL_faultOf x C hn p0 p1 o E hf))
