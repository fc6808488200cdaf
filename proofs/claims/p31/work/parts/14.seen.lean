def rmX6_stateAt : Room := { frames := 0, cells := 0, slots := 0, locals := 0 }
def fX6_stateAt (e_o : Nat → Int32) (p0 : Int32) : Option (Int32) :=
  gd (gi p0 512) (some ((e_o (ix p0)) - (e_o (ix p0)) / (512 : Int32) * (512 : Int32)))
set_option maxRecDepth 100000 in
set_option maxHeartbeats 4000000 in
theorem eX6_stateAt (x : GX) (C : GC x cX6_stateAt RX6 rmX6_stateAt) (N : xn x = 2) (qe : Nat) (e_n : Int32) (qe1 : Nat) (e_o : Nat → Int32) (qwe : Nat) (qwe1 : Nat) (we : Nat → Int64) (p0 : Int32) (o : Int32) (E : GE x (some .int) 0 0 (fun zv zw => zv = some (.int o) ∧ zw = [(qe, .inr (5, [.int e_n, .ref qe1, .ref qwe])), (qe1, .inl ((xy x) 0, 512, .inl e_o)), (qwe, .inr (6, [.ref qwe1])), (qwe1, .inl ((xy x) 1, 8, .inr (.inl we)))])) (hf : fX6_stateAt e_o p0 = some o)  : GW x 0 0 [(qe, .inr (5, [.int e_n, .ref qe1, .ref qwe])), (qe1, .inl ((xy x) 0, 512, .inl e_o)), (qwe, .inr (6, [.ref qwe1])), (qwe1, .inl ((xy x) 1, 8, .inr (.inl we)))] [(0, .ref qe), (1, .int p0)] 0 [] := by
  unfold fX6_stateAt at hf
  refine g_aload_n C (pc := 0) 0 dX6_stateAt_0 rfl rfl ?_
  refine g_get C (pc := 1) lfX6_9 0 rfl rfl dX6_stateAt_1 ?_
  refine g_iload_n C (pc := 4) 1 dX6_stateAt_4 rfl rfl ?_
  obtain ⟨i_5, hf⟩ := k_gd hf
  refine g_iald C (pc := 5) 1 rfl i_5 dX6_stateAt_5 ?_
  refine g_sipush C (pc := 6) dX6_stateAt_6 ck_sipush_512 ?_
  refine g_irem C (pc := 9) dX6_stateAt_9 (by decide) ?_
  cases hf
  exact g_iret C E (pc := 10) dX6_stateAt_10 ⟨rfl, rfl⟩
set_option maxRecDepth 100000 in
theorem cX6_stateAt_k (l : Launch) (D : va_G) (yy : Nat → ClassId) (qe : Nat) (e_n : Int32) (qe1 : Nat) (e_o : Nat → Int32) (qwe : Nat) (qwe1 : Nat) (we : Nat → Int64) (p0 : Int32) (o : Int32) (hf : fX6_stateAt e_o p0 = some o) : GMet l yX6_stateAt cX6_stateAt 2 (some .int) rmX6_stateAt 0 0 D yy [.ref qe, .int p0] [(qe, .inr (5, [.int e_n, .ref qe1, .ref qwe])), (qe1, .inl (yy 0, 512, .inl e_o)), (qwe, .inr (6, [.ref qwe1])), (qwe1, .inl (yy 1, 8, .inr (.inl we)))] (fun zv zw => zv = some (.int o) ∧ zw = [(qe, .inr (5, [.int e_n, .ref qe1, .ref qwe])), (qe1, .inl (yy 0, 512, .inl e_o)), (qwe, .inr (6, [.ref qwe1])), (qwe1, .inl (yy 1, 8, .inr (.inl we)))]) :=
  g_met (by decide +kernel) (Nat.le_of_ble_eq_true rfl) (fun x hl hD hy hn C E _ => by subst hD; subst hy; exact eX6_stateAt x C hn qe e_n qe1 e_o qwe qwe1 we p0 o E hf)
def rmX6_runAt : Room := { frames := 0, cells := 0, slots := 0, locals := 0 }
def fX6_runAt (e_o : Nat → Int32) (p0 : Int32) : Option (Int32) :=
  gd (gi p0 512) (some ((e_o (ix p0)) / (512 : Int32)))
set_option maxRecDepth 100000 in
set_option maxHeartbeats 4000000 in
theorem eX6_runAt (x : GX) (C : GC x cX6_runAt RX6 rmX6_runAt) (N : xn x = 2) (qe : Nat) (e_n : Int32) (qe1 : Nat) (e_o : Nat → Int32) (qwe : Nat) (qwe1 : Nat) (we : Nat → Int64) (p0 : Int32) (o : Int32) (E : GE x (some .int) 0 0 (fun zv zw => zv = some (.int o) ∧ zw = [(qe, .inr (5, [.int e_n, .ref qe1, .ref qwe])), (qe1, .inl ((xy x) 0, 512, .inl e_o)), (qwe, .inr (6, [.ref qwe1])), (qwe1, .inl ((xy x) 1, 8, .inr (.inl we)))])) (hf : fX6_runAt e_o p0 = some o)  : GW x 0 0 [(qe, .inr (5, [.int e_n, .ref qe1, .ref qwe])), (qe1, .inl ((xy x) 0, 512, .inl e_o)), (qwe, .inr (6, [.ref qwe1])), (qwe1, .inl ((xy x) 1, 8, .inr (.inl we)))] [(0, .ref qe), (1, .int p0)] 0 [] := by
  unfold fX6_runAt at hf
  refine g_aload_n C (pc := 0) 0 dX6_runAt_0 rfl rfl ?_
  refine g_get C (pc := 1) lfX6_9 0 rfl rfl dX6_runAt_1 ?_
  refine g_iload_n C (pc := 4) 1 dX6_runAt_4 rfl rfl ?_
  obtain ⟨i_5, hf⟩ := k_gd hf
  refine g_iald C (pc := 5) 1 rfl i_5 dX6_runAt_5 ?_
  refine g_sipush C (pc := 6) dX6_runAt_6 ck_sipush_512 ?_
  refine g_idiv C (pc := 9) dX6_runAt_9 (by decide) ?_
  cases hf
  exact g_iret C E (pc := 10) dX6_runAt_10 ⟨rfl, rfl⟩
set_option maxRecDepth 100000 in
theorem cX6_runAt_k (l : Launch) (D : va_G) (yy : Nat → ClassId) (qe : Nat) (e_n : Int32) (qe1 : Nat) (e_o : Nat → Int32) (qwe : Nat) (qwe1 : Nat) (we : Nat → Int64) (p0 : Int32) (o : Int32) (hf : fX6_runAt e_o p0 = some o) : GMet l yX6_runAt cX6_runAt 2 (some .int) rmX6_runAt 0 0 D yy [.ref qe, .int p0] [(qe, .inr (5, [.int e_n, .ref qe1, .ref qwe])), (qe1, .inl (yy 0, 512, .inl e_o)), (qwe, .inr (6, [.ref qwe1])), (qwe1, .inl (yy 1, 8, .inr (.inl we)))] (fun zv zw => zv = some (.int o) ∧ zw = [(qe, .inr (5, [.int e_n, .ref qe1, .ref qwe])), (qe1, .inl (yy 0, 512, .inl e_o)), (qwe, .inr (6, [.ref qwe1])), (qwe1, .inl (yy 1, 8, .inr (.inl we)))]) :=
  g_met (by decide +kernel) (Nat.le_of_ble_eq_true rfl) (fun x hl hD hy hn C E _ => by subst hD; subst hy; exact eX6_runAt x C hn qe e_n qe1 e_o qwe qwe1 we p0 o E hf)
def rmX6_add : Room := { frames := 2, cells := 0, slots := 0, locals := 41 }
def fX6_add (e_n : Int32) (e_o : Nat → Int32) (we : Nat → Int64) (p0 : Int32) (p1 : Int32) : Option (Int32 × Int32 × (Nat → Int32) × (Nat → Int64)) :=
  bd (fX7_has we p0) fun y_5 : Int32 => if y_5 = 0 then if e_n < (512 : Int32) then gd (gi e_n 512) (bd (fX7_add we p0) fun y_54 : Nat → Int64 => some ((1 : Int32), e_n + (1 : Int32), upd e_o (ix e_n) (((512 : Int32) * p1) + p0), y_54)) else some ((0 : Int32), e_n, e_o, we) else some ((0 : Int32), e_n, e_o, we)
set_option maxRecDepth 100000 in
set_option maxHeartbeats 4000000 in
theorem eX6_add (x : GX) (C : GC x cX6_add RX6 rmX6_add) (N : xn x = 3) (qe : Nat) (e_n : Int32) (qe1 : Nat) (e_o : Nat → Int32) (qwe : Nat) (qwe1 : Nat) (we : Nat → Int64) (p0 : Int32) (p1 : Int32) (o : Int32 × Int32 × (Nat → Int32) × (Nat → Int64)) (E : GE x (some .boolean) 0 0 (fun zv zw => zv = some (.int o.1) ∧ zw = [(qe, .inr (5, [.int o.2.1, .ref qe1, .ref qwe])), (qe1, .inl ((xy x) 0, 512, .inl o.2.2.1)), (qwe, .inr (6, [.ref qwe1])), (qwe1, .inl ((xy x) 1, 8, .inr (.inl o.2.2.2)))])) (hf : fX6_add e_n e_o we p0 p1 = some o)  : GW x 0 0 [(qe, .inr (5, [.int e_n, .ref qe1, .ref qwe])), (qe1, .inl ((xy x) 0, 512, .inl e_o)), (qwe, .inr (6, [.ref qwe1])), (qwe1, .inl ((xy x) 1, 8, .inr (.inl we)))] [(0, .ref qe), (1, .int p0), (2, .int p1)] 0 [] := by
  unfold fX6_add at hf
  refine g_aload_n C (pc := 0) 0 dX6_add_0 rfl rfl ?_
  refine g_get C (pc := 1) lfX6_18 0 rfl rfl dX6_add_1 ?_
  refine g_iload_n C (pc := 4) 1 dX6_add_4 rfl rfl ?_
  obtain ⟨y_5, h_5, hf⟩ := k_bd hf
  refine g_callV C (pc := 5) (b := qwe) (As := [.int p0]) (rest := []) (v1 := (some (.int y_5))) (st' := [.int y_5]) (wc := [(qwe, .inr (6, [.ref qwe1])), (qwe1, .inl ((xy x) 1, 8, .inr (.inl we)))]) (w1 := [(qwe, .inr (6, [.ref qwe1])), (qwe1, .inl ((xy x) 1, 8, .inr (.inl we)))]) (wr := [(qe, .inr (5, [.int e_n, .ref qe1, .ref qwe])), (qe1, .inl ((xy x) 0, 512, .inl e_o))]) (ws' := [(qe, .inr (5, [.int e_n, .ref qe1, .ref qwe])), (qe1, .inl ((xy x) 0, 512, .inl e_o)), (qwe, .inr (6, [.ref qwe1])), (qwe1, .inl ((xy x) 1, 8, .inr (.inl we)))]) 0 [2, 3] [0, 1] [0, 1, 2, 3] lkX7_has lVX6_43 (cX7_has_k (xl x) (xD x) (xy x) qwe qwe1 we p0 y_5 h_5) rfl ⟨⟨Nat.le_of_ble_eq_true rfl, Nat.le_of_ble_eq_true rfl⟩, ⟨rfl, rfl⟩, ⟨Nat.le_of_ble_eq_true rfl, Nat.le_of_ble_eq_true rfl⟩⟩ rfl rfl rfl rfl rfl rfl rfl (Nat.le_of_ble_eq_true rfl) rfl dX6_add_5 ?_
  refine g_if_ne C (pc := 8) 21 dX6_add_8 (by decide) (fun c_8 => ?_) (fun c_8 => ?_)
  · replace hf := (k_if hf).2 c_8
    refine g_iconst C (pc := 21) dX6_add_21 ck_iconst_0 ?_
    cases hf
    exact g_zret C E rfl (pc := 22) dX6_add_22 ⟨rfl, rfl⟩
  · replace hf := (k_if hf).1 c_8
    refine g_aload_n C (pc := 11) 0 dX6_add_11 rfl rfl ?_
    refine g_get C (pc := 12) lfX6_22 0 rfl rfl dX6_add_12 ?_
    refine g_sipush C (pc := 15) dX6_add_15 ck_sipush_512 ?_
    refine g_icmp_lt C (pc := 18) 23 dX6_add_18 (by decide) (fun c_18 => ?_) (fun c_18 => ?_)
    · replace hf := (k_if hf).1 c_18
      refine g_aload_n C (pc := 23) 0 dX6_add_23 rfl rfl ?_
      refine g_get C (pc := 24) lfX6_9 0 rfl rfl dX6_add_24 ?_
      refine g_aload_n C (pc := 27) 0 dX6_add_27 rfl rfl ?_
      refine g_get C (pc := 28) lfX6_22 0 rfl rfl dX6_add_28 ?_
      refine g_sipush C (pc := 31) dX6_add_31 ck_sipush_512 ?_
      refine g_iload_n C (pc := 34) 2 dX6_add_34 rfl rfl ?_
      refine g_imul C (pc := 35) dX6_add_35 ?_
      refine g_iload_n C (pc := 36) 1 dX6_add_36 rfl rfl ?_
      refine g_iadd C (pc := 37) dX6_add_37 ?_
      obtain ⟨i_38, hf⟩ := k_gd hf
      refine g_iast C (pc := 38) (ws' := [(qe, .inr (5, [.int e_n, .ref qe1, .ref qwe])), (qe1, .inl ((xy x) 0, 512, .inl (upd e_o (ix e_n) (((512 : Int32) * p1) + p0)))), (qwe, .inr (6, [.ref qwe1])), (qwe1, .inl ((xy x) 1, 8, .inr (.inl we)))]) 1 rfl i_38 rfl dX6_add_38 ?_
      refine g_aload_n C (pc := 39) 0 dX6_add_39 rfl rfl ?_
      refine g_dup C (pc := 40) dX6_add_40 rfl ?_
      refine g_get C (pc := 41) lfX6_22 0 rfl rfl dX6_add_41 ?_
      refine g_iconst C (pc := 44) dX6_add_44 ck_iconst_1 ?_
      refine g_iadd C (pc := 45) dX6_add_45 ?_
      refine g_put C (pc := 46) (ws' := [(qe, .inr (5, [.int (e_n + (1 : Int32)), .ref qe1, .ref qwe])), (qe1, .inl ((xy x) 0, 512, .inl (upd e_o (ix e_n) (((512 : Int32) * p1) + p0)))), (qwe, .inr (6, [.ref qwe1])), (qwe1, .inl ((xy x) 1, 8, .inr (.inl we)))]) lpX6_22 0 rfl rfl rfl rfl (Nat.le_of_ble_eq_true rfl) rfl dX6_add_46 ?_
      refine g_aload_n C (pc := 49) 0 dX6_add_49 rfl rfl ?_
      refine g_get C (pc := 50) lfX6_18 0 rfl rfl dX6_add_50 ?_
      refine g_iload_n C (pc := 53) 1 dX6_add_53 rfl rfl ?_
      obtain ⟨y_54, h_54, hf⟩ := k_bd hf
      refine g_callV C (pc := 54) (b := qwe) (As := [.int p0]) (rest := []) (v1 := none) (st' := []) (wc := [(qwe, .inr (6, [.ref qwe1])), (qwe1, .inl ((xy x) 1, 8, .inr (.inl we)))]) (w1 := [(qwe, .inr (6, [.ref qwe1])), (qwe1, .inl ((xy x) 1, 8, .inr (.inl y_54)))]) (wr := [(qe, .inr (5, [.int (e_n + (1 : Int32)), .ref qe1, .ref qwe])), (qe1, .inl ((xy x) 0, 512, .inl (upd e_o (ix e_n) (((512 : Int32) * p1) + p0))))]) (ws' := [(qe, .inr (5, [.int (e_n + (1 : Int32)), .ref qe1, .ref qwe])), (qe1, .inl ((xy x) 0, 512, .inl (upd e_o (ix e_n) (((512 : Int32) * p1) + p0)))), (qwe, .inr (6, [.ref qwe1])), (qwe1, .inl ((xy x) 1, 8, .inr (.inl y_54)))]) 0 [2, 3] [0, 1] [0, 1, 2, 3] lkX7_add lVX6_47 (cX7_add_k (xl x) (xD x) (xy x) qwe qwe1 we p0 y_54 h_54) rfl ⟨⟨Nat.le_of_ble_eq_true rfl, Nat.le_of_ble_eq_true rfl⟩, ⟨rfl, rfl⟩, ⟨Nat.le_of_ble_eq_true rfl, Nat.le_of_ble_eq_true rfl⟩⟩ rfl rfl rfl rfl rfl rfl rfl (Nat.le_of_ble_eq_true rfl) rfl dX6_add_54 ?_
      refine g_iconst C (pc := 57) dX6_add_57 ck_iconst_1 ?_
      cases hf
      exact g_zret C E rfl (pc := 58) dX6_add_58 ⟨rfl, rfl⟩
    · replace hf := (k_if hf).2 c_18
      refine g_iconst C (pc := 21) dX6_add_21 ck_iconst_0 ?_
      cases hf
      exact g_zret C E rfl (pc := 22) dX6_add_22 ⟨rfl, rfl⟩
set_option maxRecDepth 100000 in
theorem cX6_add_k (l : Launch) (D : va_G) (yy : Nat → ClassId) (qe : Nat) (e_n : Int32) (qe1 : Nat) (e_o : Nat → Int32) (qwe : Nat) (qwe1 : Nat) (we : Nat → Int64) (p0 : Int32) (p1 : Int32) (o : Int32 × Int32 × (Nat → Int32) × (Nat → Int64)) (hf : fX6_add e_n e_o we p0 p1 = some o) : GMet l yX6_add cX6_add 3 (some .boolean) rmX6_add 0 0 D yy [.ref qe, .int p0, .int p1] [(qe, .inr (5, [.int e_n, .ref qe1, .ref qwe])), (qe1, .inl (yy 0, 512, .inl e_o)), (qwe, .inr (6, [.ref qwe1])), (qwe1, .inl (yy 1, 8, .inr (.inl we)))] (fun zv zw => zv = some (.int o.1) ∧ zw = [(qe, .inr (5, [.int o.2.1, .ref qe1, .ref qwe])), (qe1, .inl (yy 0, 512, .inl o.2.2.1)), (qwe, .inr (6, [.ref qwe1])), (qwe1, .inl (yy 1, 8, .inr (.inl o.2.2.2)))]) :=
  g_met (by decide +kernel) (Nat.le_of_ble_eq_true rfl) (fun x hl hD hy hn C E _ => by subst hD; subst hy; exact eX6_add x C hn qe e_n qe1 e_o qwe qwe1 we p0 p1 o E hf)
def rmX6_beginAt : Room := { frames := 3, cells := 0, slots := 0, locals := 63 }
def fX6_beginAt (e_o : Nat → Int32) (we : Nat → Int64) (p0 : Int32) : Option (Int32 × (Nat → Int32) × (Nat → Int64)) :=
  bd (fX7_clear we) fun y_9 : Nat → Int64 => bd (fX6_add (0 : Int32) e_o y_9 p0 (0 : Int32)) fun y_15 : Int32 × Int32 × (Nat → Int32) × (Nat → Int64) => some (y_15.2.1, y_15.2.2.1, y_15.2.2.2)
set_option maxRecDepth 100000 in
set_option maxHeartbeats 4000000 in
theorem eX6_beginAt (x : GX) (C : GC x cX6_beginAt RX6 rmX6_beginAt) (N : xn x = 2) (qe : Nat) (e_n : Int32) (qe1 : Nat) (e_o : Nat → Int32) (qwe : Nat) (qwe1 : Nat) (we : Nat → Int64) (p0 : Int32) (o : Int32 × (Nat → Int32) × (Nat → Int64)) (E : GE x none 0 0 (fun zv zw => zv = none ∧ zw = [(qe, .inr (5, [.int o.1, .ref qe1, .ref qwe])), (qe1, .inl ((xy x) 0, 512, .inl o.2.1)), (qwe, .inr (6, [.ref qwe1])), (qwe1, .inl ((xy x) 1, 8, .inr (.inl o.2.2)))])) (hf : fX6_beginAt e_o we p0 = some o)  : GW x 0 0 [(qe, .inr (5, [.int e_n, .ref qe1, .ref qwe])), (qe1, .inl ((xy x) 0, 512, .inl e_o)), (qwe, .inr (6, [.ref qwe1])), (qwe1, .inl ((xy x) 1, 8, .inr (.inl we)))] [(0, .ref qe), (1, .int p0)] 0 [] := by
  unfold fX6_beginAt at hf
  refine g_aload_n C (pc := 0) 0 dX6_beginAt_0 rfl rfl ?_
  refine g_iconst C (pc := 1) dX6_beginAt_1 ck_iconst_0 ?_
  refine g_put C (pc := 2) (ws' := [(qe, .inr (5, [.int (0 : Int32), .ref qe1, .ref qwe])), (qe1, .inl ((xy x) 0, 512, .inl e_o)), (qwe, .inr (6, [.ref qwe1])), (qwe1, .inl ((xy x) 1, 8, .inr (.inl we)))]) lpX6_22 0 rfl rfl rfl rfl (Nat.le_of_ble_eq_true rfl) rfl dX6_beginAt_2 ?_
  refine g_aload_n C (pc := 5) 0 dX6_beginAt_5 rfl rfl ?_
  refine g_get C (pc := 6) lfX6_18 0 rfl rfl dX6_beginAt_6 ?_
  obtain ⟨y_9, h_9, hf⟩ := k_bd hf
  refine g_callV C (pc := 9) (b := qwe) (As := []) (rest := []) (v1 := none) (st' := []) (wc := [(qwe, .inr (6, [.ref qwe1])), (qwe1, .inl ((xy x) 1, 8, .inr (.inl we)))]) (w1 := [(qwe, .inr (6, [.ref qwe1])), (qwe1, .inl ((xy x) 1, 8, .inr (.inl y_9)))]) (wr := [(qe, .inr (5, [.int (0 : Int32), .ref qe1, .ref qwe])), (qe1, .inl ((xy x) 0, 512, .inl e_o))]) (ws' := [(qe, .inr (5, [.int (0 : Int32), .ref qe1, .ref qwe])), (qe1, .inl ((xy x) 0, 512, .inl e_o)), (qwe, .inr (6, [.ref qwe1])), (qwe1, .inl ((xy x) 1, 8, .inr (.inl y_9)))]) 0 [2, 3] [0, 1] [0, 1, 2, 3] lkX7_clear lVX6_36 (cX7_clear_k (xl x) (xD x) (xy x) qwe qwe1 we y_9 h_9) rfl ⟨⟨Nat.le_of_ble_eq_true rfl, Nat.le_of_ble_eq_true rfl⟩, ⟨rfl, rfl⟩, ⟨Nat.le_of_ble_eq_true rfl, Nat.le_of_ble_eq_true rfl⟩⟩ rfl rfl rfl rfl rfl rfl rfl (Nat.le_of_ble_eq_true rfl) rfl dX6_beginAt_9 ?_
  refine g_aload_n C (pc := 12) 0 dX6_beginAt_12 rfl rfl ?_
  refine g_iload_n C (pc := 13) 1 dX6_beginAt_13 rfl rfl ?_
  refine g_iconst C (pc := 14) dX6_beginAt_14 ck_iconst_0 ?_
  obtain ⟨y_15, h_15, hf⟩ := k_bd hf
  refine g_callA C (pc := 15) (b := qe) (As := [.int p0, .int (0 : Int32)]) (rest := []) (v1 := (some (.int y_15.1))) (st' := [.int y_15.1]) (w1 := [(qe, .inr (5, [.int y_15.2.1, .ref qe1, .ref qwe])), (qe1, .inl ((xy x) 0, 512, .inl y_15.2.2.1)), (qwe, .inr (6, [.ref qwe1])), (qwe1, .inl ((xy x) 1, 8, .inr (.inl y_15.2.2.2)))]) 0 lkX6_add lVX6_39 (cX6_add_k (xl x) (xD x) (xy x) qe (0 : Int32) qe1 e_o qwe qwe1 y_9 p0 (0 : Int32) y_15 h_15) rfl ⟨⟨Nat.le_of_ble_eq_true rfl, Nat.le_of_ble_eq_true rfl⟩, ⟨rfl, rfl⟩, ⟨Nat.le_of_ble_eq_true rfl, Nat.le_of_ble_eq_true rfl⟩⟩ rfl rfl rfl (Nat.le_of_ble_eq_true rfl) rfl dX6_beginAt_15 ?_
  refine g_pop C (pc := 18) dX6_beginAt_18 rfl ?_
  cases hf
  exact g_vret C E (pc := 19) dX6_beginAt_19 ⟨rfl, rfl⟩
set_option maxRecDepth 100000 in
theorem cX6_beginAt_k (l : Launch) (D : va_G) (yy : Nat → ClassId) (qe : Nat) (e_n : Int32) (qe1 : Nat) (e_o : Nat → Int32) (qwe : Nat) (qwe1 : Nat) (we : Nat → Int64) (p0 : Int32) (o : Int32 × (Nat → Int32) × (Nat → Int64)) (hf : fX6_beginAt e_o we p0 = some o) : GMet l yX6_beginAt cX6_beginAt 2 none rmX6_beginAt 0 0 D yy [.ref qe, .int p0] [(qe, .inr (5, [.int e_n, .ref qe1, .ref qwe])), (qe1, .inl (yy 0, 512, .inl e_o)), (qwe, .inr (6, [.ref qwe1])), (qwe1, .inl (yy 1, 8, .inr (.inl we)))] (fun zv zw => zv = none ∧ zw = [(qe, .inr (5, [.int o.1, .ref qe1, .ref qwe])), (qe1, .inl (yy 0, 512, .inl o.2.1)), (qwe, .inr (6, [.ref qwe1])), (qwe1, .inl (yy 1, 8, .inr (.inl o.2.2)))]) :=
  g_met (by decide +kernel) (Nat.le_of_ble_eq_true rfl) (fun x hl hD hy hn C E _ => by subst hD; subst hy; exact eX6_beginAt x C hn qe e_n qe1 e_o qwe qwe1 we p0 o E hf)
def rmX6_firstMiss : Room := { frames := 2, cells := 0, slots := 0, locals := 46 }
def gX6_firstMiss_2 (e_n : Int32) (e_o : Nat → Int32) (p0 : Int32) (a_2 : Int32) : Option ((Int32) ⊕ ((Int32) ⊕ (Int32))) :=
  if e_n ≤ a_2 then some (.inr (.inl a_2)) else bd (fX6_stateAt e_o a_2) fun y_13 : Int32 => bd (fX1_isMetBy p0 y_13) fun y_16 : Int32 => if y_16 = 0 then some (.inr (.inr a_2)) else some (.inl (a_2 + 1))
set_option maxRecDepth 100000 in
set_option maxHeartbeats 4000000 in
theorem bX6_firstMiss_2 (x : GX) (C : GC x cX6_firstMiss RX6 rmX6_firstMiss) (N : xn x = 3) (qe : Nat) (e_n : Int32) (qe1 : Nat) (e_o : Nat → Int32) (qwe : Nat) (qwe1 : Nat) (we : Nat → Int64) (p0 : Int32) (a_2 : Int32) (o : Int32) (r : (Int32) ⊕ ((Int32) ⊕ (Int32))) (E : GE x (some .int) 0 0 (fun zv zw => zv = some (.int o) ∧ zw = [(qe, .inr (5, [.int e_n, .ref qe1, .ref qwe])), (qe1, .inl ((xy x) 0, 512, .inl e_o)), (qwe, .inr (6, [.ref qwe1])), (qwe1, .inl ((xy x) 1, 8, .inr (.inl we)))])) (hf : gX6_firstMiss_2 e_n e_o p0 a_2 = some r) (kn : ∀ e : Int32, r = .inl e → GW x 0 0 [(qe, .inr (5, [.int e_n, .ref qe1, .ref qwe])), (qe1, .inl ((xy x) 0, 512, .inl e_o)), (qwe, .inr (6, [.ref qwe1])), (qwe1, .inl ((xy x) 1, 8, .inr (.inl we)))] [(0, .ref qe), (1, .int p0), (2, .int e)] 2 []) (kx : ∀ e : Int32, r = .inr (.inl e) → GW x 0 0 [(qe, .inr (5, [.int e_n, .ref qe1, .ref qwe])), (qe1, .inl ((xy x) 0, 512, .inl e_o)), (qwe, .inr (6, [.ref qwe1])), (qwe1, .inl ((xy x) 1, 8, .inr (.inl we)))] [] 30 []) (kr : ∀ o' : Int32, r = .inr (.inr o') → o' = o) : GW x 0 0 [(qe, .inr (5, [.int e_n, .ref qe1, .ref qwe])), (qe1, .inl ((xy x) 0, 512, .inl e_o)), (qwe, .inr (6, [.ref qwe1])), (qwe1, .inl ((xy x) 1, 8, .inr (.inl we)))] [(0, .ref qe), (1, .int p0), (2, .int a_2)] 2 [] := by
  unfold gX6_firstMiss_2 at hf
  refine g_iload_n C (pc := 2) 2 dX6_firstMiss_2 rfl rfl ?_
  refine g_aload_n C (pc := 3) 0 dX6_firstMiss_3 rfl rfl ?_
  refine g_get C (pc := 4) lfX6_22 0 rfl rfl dX6_firstMiss_4 ?_
  refine g_icmp_ge C (pc := 7) 30 dX6_firstMiss_7 (by decide) (fun c_7 => ?_) (fun c_7 => ?_)
  · replace hf := (k_if hf).1 c_7
    cases hf
    exact g_lo [] rfl (kx a_2 rfl)
  · replace hf := (k_if hf).2 c_7
    refine g_iload_n C (pc := 10) 1 dX6_firstMiss_10 rfl rfl ?_
    refine g_aload_n C (pc := 11) 0 dX6_firstMiss_11 rfl rfl ?_
    refine g_iload_n C (pc := 12) 2 dX6_firstMiss_12 rfl rfl ?_
    obtain ⟨y_13, h_13, hf⟩ := k_bd hf
    refine g_callA C (pc := 13) (b := qe) (As := [.int a_2]) (rest := [.int p0]) (v1 := (some (.int y_13))) (st' := [.int y_13, .int p0]) (w1 := [(qe, .inr (5, [.int e_n, .ref qe1, .ref qwe])), (qe1, .inl ((xy x) 0, 512, .inl e_o)), (qwe, .inr (6, [.ref qwe1])), (qwe1, .inl ((xy x) 1, 8, .inr (.inl we)))]) 0 lkX6_stateAt lVX6_50 (cX6_stateAt_k (xl x) (xD x) (xy x) qe e_n qe1 e_o qwe qwe1 we a_2 y_13 h_13) rfl ⟨⟨Nat.le_of_ble_eq_true rfl, Nat.le_of_ble_eq_true rfl⟩, ⟨rfl, rfl⟩, ⟨Nat.le_of_ble_eq_true rfl, Nat.le_of_ble_eq_true rfl⟩⟩ rfl rfl rfl (Nat.le_of_ble_eq_true rfl) rfl dX6_firstMiss_13 ?_
    obtain ⟨y_16, h_16, hf⟩ := k_bd hf
    refine g_callS0 C (pc := 16) (As := [.int p0, .int y_13]) (rest := []) (v1 := (some (.int y_16))) (st' := [.int y_16]) lkX1_isMetBy lSX6_54 (cX1_isMetBy_k (xl x) (xD x) (xy x) p0 y_13 y_16 h_16) rfl ⟨⟨Nat.le_of_ble_eq_true rfl, Nat.le_of_ble_eq_true rfl⟩, ⟨rfl, rfl⟩, ⟨Nat.le_of_ble_eq_true rfl, Nat.le_of_ble_eq_true rfl⟩⟩ rfl (Nat.le_of_ble_eq_true rfl) rfl dX6_firstMiss_16 ?_
    refine g_if_ne C (pc := 19) 24 dX6_firstMiss_19 (by decide) (fun c_19 => ?_) (fun c_19 => ?_)
    · replace hf := (k_if hf).2 c_19
      refine g_iinc C (pc := 24) (v := a_2 + 1) (lo' := [(2, .int (a_2 + 1)), (0, .ref qe), (1, .int p0)]) 2 dX6_firstMiss_24 rfl (congrArg (HAdd.hAdd _) ck_iinc_1) N rfl rfl ?_
      refine g_goto C (pc := 27) (tgt := 2) dX6_firstMiss_27 (by decide) ?_
      cases hf
      exact g_lo [1, 2, 0] rfl (kn (a_2 + 1) rfl)
    · replace hf := (k_if hf).1 c_19
      refine g_iload_n C (pc := 22) 2 dX6_firstMiss_22 rfl rfl ?_
      cases hf
      have ho := kr _ rfl
      cases ho
      exact g_iret C E (pc := 23) dX6_firstMiss_23 ⟨rfl, rfl⟩
def fX6_firstMiss (e_n : Int32) (e_o : Nat → Int32) (p0 : Int32) : Option (Int32) :=
  bd (iter (gX6_firstMiss_2 e_n e_o p0) FU (0 : Int32)) fun b_2 : (Int32) ⊕ (Int32) => Sum.elim (fun e_2 : Int32 => some (-6 : Int32)) (fun o_2 : Int32 => some o_2) b_2
set_option maxRecDepth 100000 in
set_option maxHeartbeats 4000000 in
theorem eX6_firstMiss (x : GX) (C : GC x cX6_firstMiss RX6 rmX6_firstMiss) (N : xn x = 3) (qe : Nat) (e_n : Int32) (qe1 : Nat) (e_o : Nat → Int32) (qwe : Nat) (qwe1 : Nat) (we : Nat → Int64) (p0 : Int32) (o : Int32) (E : GE x (some .int) 0 0 (fun zv zw => zv = some (.int o) ∧ zw = [(qe, .inr (5, [.int e_n, .ref qe1, .ref qwe])), (qe1, .inl ((xy x) 0, 512, .inl e_o)), (qwe, .inr (6, [.ref qwe1])), (qwe1, .inl ((xy x) 1, 8, .inr (.inl we)))])) (hf : fX6_firstMiss e_n e_o p0 = some o)  : GW x 0 0 [(qe, .inr (5, [.int e_n, .ref qe1, .ref qwe])), (qe1, .inl ((xy x) 0, 512, .inl e_o)), (qwe, .inr (6, [.ref qwe1])), (qwe1, .inl ((xy x) 1, 8, .inr (.inl we)))] [(0, .ref qe), (1, .int p0)] 0 [] := by
  unfold fX6_firstMiss at hf
  refine g_iconst C (pc := 0) dX6_firstMiss_0 ck_iconst_0 ?_
  refine g_istore_n C (pc := 1) (lo' := [(2, .int (0 : Int32)), (0, .ref qe), (1, .int p0)]) dX6_firstMiss_1 rfl N rfl rfl ?_
  obtain ⟨b_2, hb_2, hf⟩ := k_bd hf
  refine g_lo [1, 2, 0] rfl ?_
  refine g_loop (g := (gX6_firstMiss_2 e_n e_o p0)) (fun e : Int32 => [(qe, .inr (5, [.int e_n, .ref qe1, .ref qwe])), (qe1, .inl ((xy x) 0, 512, .inl e_o)), (qwe, .inr (6, [.ref qwe1])), (qwe1, .inl ((xy x) 1, 8, .inr (.inl we)))]) (fun e : Int32 => [(0, .ref qe), (1, .int p0), (2, .int e)]) 2 (fun b : (Int32) ⊕ (Int32) => (∀ e : Int32, b = .inl e → GW x 0 0 [(qe, .inr (5, [.int e_n, .ref qe1, .ref qwe])), (qe1, .inl ((xy x) 0, 512, .inl e_o)), (qwe, .inr (6, [.ref qwe1])), (qwe1, .inl ((xy x) 1, 8, .inr (.inl we)))] [] 30 []) ∧ (∀ o' : Int32, b = .inr o' → o' = o)) (fun a r hg kn kx => bX6_firstMiss_2 x C N qe e_n qe1 e_o qwe qwe1 we p0 a o r E hg kn (fun e he => (kx _ he).1 e rfl) (fun z he => (kx _ he).2 z rfl)) FU _ b_2 hb_2 ?_
  refine ⟨fun e_2 he => ?_, fun o_2 he => ?_⟩ <;> subst he
  · replace hf := k_eliml hf
    refine g_bipush C (pc := 30) dX6_firstMiss_30 ck_bipush_m6 ?_
    cases hf
    exact g_iret C E (pc := 32) dX6_firstMiss_32 ⟨rfl, rfl⟩
  · replace hf := k_elimr hf
    exact k_some hf
set_option maxRecDepth 100000 in
theorem cX6_firstMiss_k (l : Launch) (D : va_G) (yy : Nat → ClassId) (qe : Nat) (e_n : Int32) (qe1 : Nat) (e_o : Nat → Int32) (qwe : Nat) (qwe1 : Nat) (we : Nat → Int64) (p0 : Int32) (o : Int32) (hf : fX6_firstMiss e_n e_o p0 = some o) : GMet l yX6_firstMiss cX6_firstMiss 3 (some .int) rmX6_firstMiss 0 0 D yy [.ref qe, .int p0] [(qe, .inr (5, [.int e_n, .ref qe1, .ref qwe])), (qe1, .inl (yy 0, 512, .inl e_o)), (qwe, .inr (6, [.ref qwe1])), (qwe1, .inl (yy 1, 8, .inr (.inl we)))] (fun zv zw => zv = some (.int o) ∧ zw = [(qe, .inr (5, [.int e_n, .ref qe1, .ref qwe])), (qe1, .inl (yy 0, 512, .inl e_o)), (qwe, .inr (6, [.ref qwe1])), (qwe1, .inl (yy 1, 8, .inr (.inl we)))]) :=
  g_met (by decide +kernel) (Nat.le_of_ble_eq_true rfl) (fun x hl hD hy hn C E _ => by subst hD; subst hy; exact eX6_firstMiss x C hn qe e_n qe1 e_o qwe qwe1 we p0 o E hf)
def rmX6_copyFrom : Room := { frames := 2, cells := 0, slots := 0, locals := 47 }
def fX6_copyFrom (e_o : Nat → Int32) (we : Nat → Int64) (oe_n : Int32) (oe_o : Nat → Int32) (owe : Nat → Int64) : Option (Int32 × (Nat → Int32) × (Nat → Int64)) :=
  gd (gcp (0 : Int32) (0 : Int32) oe_n 512 512) (bd (fX7_copyFrom we owe) fun y_33 : Nat → Int64 => some (oe_n, va_cpy oe_o e_o (ix (0 : Int32)) (ix (0 : Int32)) (ix oe_n), y_33))
set_option maxRecDepth 100000 in
set_option maxHeartbeats 4000000 in
theorem eX6_copyFrom (x : GX) (C : GC x cX6_copyFrom RX6 rmX6_copyFrom) (N : xn x = 2) (qe : Nat) (e_n : Int32) (qe1 : Nat) (e_o : Nat → Int32) (qwe : Nat) (qwe1 : Nat) (we : Nat → Int64) (oqe : Nat) (oe_n : Int32) (oqe1 : Nat) (oe_o : Nat → Int32) (oqwe : Nat) (oqwe1 : Nat) (owe : Nat → Int64) (o : Int32 × (Nat → Int32) × (Nat → Int64)) (E : GE x none 0 0 (fun zv zw => zv = none ∧ zw = [(qe, .inr (5, [.int o.1, .ref qe1, .ref qwe])), (qe1, .inl ((xy x) 0, 512, .inl o.2.1)), (qwe, .inr (6, [.ref qwe1])), (qwe1, .inl ((xy x) 1, 8, .inr (.inl o.2.2))), (oqe, .inr (5, [.int oe_n, .ref oqe1, .ref oqwe])), (oqe1, .inl ((xy x) 0, 512, .inl oe_o)), (oqwe, .inr (6, [.ref oqwe1])), (oqwe1, .inl ((xy x) 1, 8, .inr (.inl owe)))])) (hf : fX6_copyFrom e_o we oe_n oe_o owe = some o)  : GW x 0 0 [(qe, .inr (5, [.int e_n, .ref qe1, .ref qwe])), (qe1, .inl ((xy x) 0, 512, .inl e_o)), (qwe, .inr (6, [.ref qwe1])), (qwe1, .inl ((xy x) 1, 8, .inr (.inl we))), (oqe, .inr (5, [.int oe_n, .ref oqe1, .ref oqwe])), (oqe1, .inl ((xy x) 0, 512, .inl oe_o)), (oqwe, .inr (6, [.ref oqwe1])), (oqwe1, .inl ((xy x) 1, 8, .inr (.inl owe)))] [(0, .ref qe), (1, .ref oqe)] 0 [] := by
  unfold fX6_copyFrom at hf
  refine g_aload_n C (pc := 0) 0 dX6_copyFrom_0 rfl rfl ?_
  refine g_aload_n C (pc := 1) 1 dX6_copyFrom_1 rfl rfl ?_
  refine g_get C (pc := 2) lfX6_22 4 rfl rfl dX6_copyFrom_2 ?_
  refine g_put C (pc := 5) (ws' := [(qe, .inr (5, [.int oe_n, .ref qe1, .ref qwe])), (qe1, .inl ((xy x) 0, 512, .inl e_o)), (qwe, .inr (6, [.ref qwe1])), (qwe1, .inl ((xy x) 1, 8, .inr (.inl we))), (oqe, .inr (5, [.int oe_n, .ref oqe1, .ref oqwe])), (oqe1, .inl ((xy x) 0, 512, .inl oe_o)), (oqwe, .inr (6, [.ref oqwe1])), (oqwe1, .inl ((xy x) 1, 8, .inr (.inl owe)))]) lpX6_22 0 rfl rfl rfl rfl (Nat.le_of_ble_eq_true rfl) rfl dX6_copyFrom_5 ?_
  refine g_aload_n C (pc := 8) 1 dX6_copyFrom_8 rfl rfl ?_
  refine g_get C (pc := 9) lfX6_9 4 rfl rfl dX6_copyFrom_9 ?_
  refine g_iconst C (pc := 12) dX6_copyFrom_12 ck_iconst_0 ?_
  refine g_aload_n C (pc := 13) 0 dX6_copyFrom_13 rfl rfl ?_
  refine g_get C (pc := 14) lfX6_9 0 rfl rfl dX6_copyFrom_14 ?_
  refine g_iconst C (pc := 17) dX6_copyFrom_17 ck_iconst_0 ?_
  refine g_aload_n C (pc := 18) 1 dX6_copyFrom_18 rfl rfl ?_
  refine g_get C (pc := 19) lfX6_22 4 rfl rfl dX6_copyFrom_19 ?_
  obtain ⟨i_22, hf⟩ := k_gd hf
  refine g_cpyi C (pc := 22) (ws' := [(qe, .inr (5, [.int oe_n, .ref qe1, .ref qwe])), (qe1, .inl ((xy x) 0, 512, .inl (va_cpy oe_o e_o (ix (0 : Int32)) (ix (0 : Int32)) (ix oe_n)))), (qwe, .inr (6, [.ref qwe1])), (qwe1, .inl ((xy x) 1, 8, .inr (.inl we))), (oqe, .inr (5, [.int oe_n, .ref oqe1, .ref oqwe])), (oqe1, .inl ((xy x) 0, 512, .inl oe_o)), (oqwe, .inr (6, [.ref oqwe1])), (oqwe1, .inl ((xy x) 1, 8, .inr (.inl owe)))]) 5 1 lAX6_26 rfl rfl i_22 rfl (Nat.le_of_ble_eq_true rfl) (Nat.le_of_ble_eq_true rfl) dX6_copyFrom_22 ?_
  refine g_aload_n C (pc := 25) 0 dX6_copyFrom_25 rfl rfl ?_
  refine g_get C (pc := 26) lfX6_18 0 rfl rfl dX6_copyFrom_26 ?_
  refine g_aload_n C (pc := 29) 1 dX6_copyFrom_29 rfl rfl ?_
  refine g_get C (pc := 30) lfX6_18 4 rfl rfl dX6_copyFrom_30 ?_
  obtain ⟨y_33, h_33, hf⟩ := k_bd hf
  refine g_callV C (pc := 33) (b := qwe) (As := [.ref oqwe]) (rest := []) (v1 := none) (st' := []) (wc := [(qwe, .inr (6, [.ref qwe1])), (qwe1, .inl ((xy x) 1, 8, .inr (.inl we))), (oqwe, .inr (6, [.ref oqwe1])), (oqwe1, .inl ((xy x) 1, 8, .inr (.inl owe)))]) (w1 := [(qwe, .inr (6, [.ref qwe1])), (qwe1, .inl ((xy x) 1, 8, .inr (.inl y_33))), (oqwe, .inr (6, [.ref oqwe1])), (oqwe1, .inl ((xy x) 1, 8, .inr (.inl owe)))]) (wr := [(qe, .inr (5, [.int oe_n, .ref qe1, .ref qwe])), (qe1, .inl ((xy x) 0, 512, .inl (va_cpy oe_o e_o (ix (0 : Int32)) (ix (0 : Int32)) (ix oe_n)))), (oqe, .inr (5, [.int oe_n, .ref oqe1, .ref oqwe])), (oqe1, .inl ((xy x) 0, 512, .inl oe_o))]) (ws' := [(qe, .inr (5, [.int oe_n, .ref qe1, .ref qwe])), (qe1, .inl ((xy x) 0, 512, .inl (va_cpy oe_o e_o (ix (0 : Int32)) (ix (0 : Int32)) (ix oe_n)))), (qwe, .inr (6, [.ref qwe1])), (qwe1, .inl ((xy x) 1, 8, .inr (.inl y_33))), (oqe, .inr (5, [.int oe_n, .ref oqe1, .ref oqwe])), (oqe1, .inl ((xy x) 0, 512, .inl oe_o)), (oqwe, .inr (6, [.ref oqwe1])), (oqwe1, .inl ((xy x) 1, 8, .inr (.inl owe)))]) 0 [2, 3, 6, 7] [0, 1, 4, 5] [0, 1, 4, 5, 2, 3, 6, 7] lkX7_copyFrom lVX6_32 (cX7_copyFrom_k (xl x) (xD x) (xy x) qwe qwe1 we oqwe oqwe1 owe y_33 h_33) rfl ⟨⟨Nat.le_of_ble_eq_true rfl, Nat.le_of_ble_eq_true rfl⟩, ⟨rfl, rfl⟩, ⟨Nat.le_of_ble_eq_true rfl, Nat.le_of_ble_eq_true rfl⟩⟩ rfl rfl rfl rfl rfl rfl rfl (Nat.le_of_ble_eq_true rfl) rfl dX6_copyFrom_33 ?_
  cases hf
  exact g_vret C E (pc := 36) dX6_copyFrom_36 ⟨rfl, rfl⟩
set_option maxRecDepth 100000 in
theorem cX6_copyFrom_k (l : Launch) (D : va_G) (yy : Nat → ClassId) (qe : Nat) (e_n : Int32) (qe1 : Nat) (e_o : Nat → Int32) (qwe : Nat) (qwe1 : Nat) (we : Nat → Int64) (oqe : Nat) (oe_n : Int32) (oqe1 : Nat) (oe_o : Nat → Int32) (oqwe : Nat) (oqwe1 : Nat) (owe : Nat → Int64) (o : Int32 × (Nat → Int32) × (Nat → Int64)) (hf : fX6_copyFrom e_o we oe_n oe_o owe = some o) : GMet l yX6_copyFrom cX6_copyFrom 2 none rmX6_copyFrom 0 0 D yy [.ref qe, .ref oqe] [(qe, .inr (5, [.int e_n, .ref qe1, .ref qwe])), (qe1, .inl (yy 0, 512, .inl e_o)), (qwe, .inr (6, [.ref qwe1])), (qwe1, .inl (yy 1, 8, .inr (.inl we))), (oqe, .inr (5, [.int oe_n, .ref oqe1, .ref oqwe])), (oqe1, .inl (yy 0, 512, .inl oe_o)), (oqwe, .inr (6, [.ref oqwe1])), (oqwe1, .inl (yy 1, 8, .inr (.inl owe)))] (fun zv zw => zv = none ∧ zw = [(qe, .inr (5, [.int o.1, .ref qe1, .ref qwe])), (qe1, .inl (yy 0, 512, .inl o.2.1)), (qwe, .inr (6, [.ref qwe1])), (qwe1, .inl (yy 1, 8, .inr (.inl o.2.2))), (oqe, .inr (5, [.int oe_n, .ref oqe1, .ref oqwe])), (oqe1, .inl (yy 0, 512, .inl oe_o)), (oqwe, .inr (6, [.ref oqwe1])), (oqwe1, .inl (yy 1, 8, .inr (.inl owe)))]) :=
  g_met (by decide +kernel) (Nat.le_of_ble_eq_true rfl) (fun x hl hD hy hn C E _ => by subst hD; subst hy; exact eX6_copyFrom x C hn qe e_n qe1 e_o qwe qwe1 we oqe oe_n oqe1 oe_o oqwe oqwe1 owe o E hf)
