def rmX0_has : Room := { frames := 0, cells := 0, slots := 0, locals := 0 }
def fX0_has (c_n : Int32) (p0 : Int32) : Option (Int32) :=
  if p0 < 0 then some (0 : Int32) else if c_n ≤ p0 then some (0 : Int32) else some (1 : Int32)
set_option maxRecDepth 100000 in
set_option maxHeartbeats 4000000 in
theorem eX0_has (x : GX) (C : GC x cX0_has RX0 rmX0_has) (N : xn x = 2) (qc : Nat) (c_n : Int32) (qc1 : Nat) (c_c : Nat → Int32) (qc2 : Nat) (c_f : Nat → Int32) (qc3 : Nat) (c_s : Nat → Int32) (qc4 : Nat) (c_m : Nat → Int32) (qc5 : Nat) (c_r : Nat → Int32) (p0 : Int32) (o : Int32) (E : GE x (some .boolean) 0 0 (fun zv zw => zv = some (.int o) ∧ zw = [(qc, .inr (0, [.int c_n, .ref qc1, .ref qc2, .ref qc3, .ref qc4, .ref qc5])), (qc1, .inl ((xy x) 0, 40, .inl c_c)), (qc2, .inl ((xy x) 0, 40, .inl c_f)), (qc3, .inl ((xy x) 0, 40, .inl c_s)), (qc4, .inl ((xy x) 0, 40, .inl c_m)), (qc5, .inl ((xy x) 0, 40, .inl c_r))])) (hf : fX0_has c_n p0 = some o)  : GW x 0 0 [(qc, .inr (0, [.int c_n, .ref qc1, .ref qc2, .ref qc3, .ref qc4, .ref qc5])), (qc1, .inl ((xy x) 0, 40, .inl c_c)), (qc2, .inl ((xy x) 0, 40, .inl c_f)), (qc3, .inl ((xy x) 0, 40, .inl c_s)), (qc4, .inl ((xy x) 0, 40, .inl c_m)), (qc5, .inl ((xy x) 0, 40, .inl c_r))] [(0, .ref qc), (1, .int p0)] 0 [] := by
  unfold fX0_has at hf
  refine g_iload_n C (pc := 0) 1 dX0_has_0 rfl rfl ?_
  refine g_if_lt C (pc := 1) 16 dX0_has_1 (by decide) (fun c_1 => ?_) (fun c_1 => ?_)
  · replace hf := (k_if hf).1 c_1
    refine g_iconst C (pc := 16) dX0_has_16 ck_iconst_0 ?_
    cases hf
    exact g_zret C E rfl (pc := 17) dX0_has_17 ⟨rfl, rfl⟩
  · replace hf := (k_if hf).2 c_1
    refine g_iload_n C (pc := 4) 1 dX0_has_4 rfl rfl ?_
    refine g_aload_n C (pc := 5) 0 dX0_has_5 rfl rfl ?_
    refine g_get C (pc := 6) lfX0_27 0 rfl rfl dX0_has_6 ?_
    refine g_icmp_ge C (pc := 9) 16 dX0_has_9 (by decide) (fun c_9 => ?_) (fun c_9 => ?_)
    · replace hf := (k_if hf).1 c_9
      refine g_iconst C (pc := 16) dX0_has_16 ck_iconst_0 ?_
      cases hf
      exact g_zret C E rfl (pc := 17) dX0_has_17 ⟨rfl, rfl⟩
    · replace hf := (k_if hf).2 c_9
      refine g_iconst C (pc := 12) dX0_has_12 ck_iconst_1 ?_
      refine g_goto C (pc := 13) (tgt := 17) dX0_has_13 (by decide) ?_
      cases hf
      exact g_zret C E rfl (pc := 17) dX0_has_17 ⟨rfl, rfl⟩
set_option maxRecDepth 100000 in
theorem cX0_has_k (l : Launch) (D : va_G) (yy : Nat → ClassId) (qc : Nat) (c_n : Int32) (qc1 : Nat) (c_c : Nat → Int32) (qc2 : Nat) (c_f : Nat → Int32) (qc3 : Nat) (c_s : Nat → Int32) (qc4 : Nat) (c_m : Nat → Int32) (qc5 : Nat) (c_r : Nat → Int32) (p0 : Int32) (o : Int32) (hf : fX0_has c_n p0 = some o) : GMet l yX0_has cX0_has 2 (some .boolean) rmX0_has 0 0 D yy [.ref qc, .int p0] [(qc, .inr (0, [.int c_n, .ref qc1, .ref qc2, .ref qc3, .ref qc4, .ref qc5])), (qc1, .inl (yy 0, 40, .inl c_c)), (qc2, .inl (yy 0, 40, .inl c_f)), (qc3, .inl (yy 0, 40, .inl c_s)), (qc4, .inl (yy 0, 40, .inl c_m)), (qc5, .inl (yy 0, 40, .inl c_r))] (fun zv zw => zv = some (.int o) ∧ zw = [(qc, .inr (0, [.int c_n, .ref qc1, .ref qc2, .ref qc3, .ref qc4, .ref qc5])), (qc1, .inl (yy 0, 40, .inl c_c)), (qc2, .inl (yy 0, 40, .inl c_f)), (qc3, .inl (yy 0, 40, .inl c_s)), (qc4, .inl (yy 0, 40, .inl c_m)), (qc5, .inl (yy 0, 40, .inl c_r))]) :=
  g_met (by decide +kernel) (Nat.le_of_ble_eq_true rfl) (fun x hl hD hy hn C E _ => by subst hD; subst hy; exact eX0_has x C hn qc c_n qc1 c_c qc2 c_f qc3 c_s qc4 c_m qc5 c_r p0 o E hf)
def rmX0_hasCode : Room := { frames := 0, cells := 0, slots := 0, locals := 0 }
def gX0_hasCode_2 (c_n : Int32) (c_c : Nat → Int32) (p0 : Int32) (a_2 : Int32) : Option ((Int32) ⊕ ((Int32) ⊕ (Int32))) :=
  if c_n ≤ a_2 then some (.inr (.inl a_2)) else gd (gi a_2 40) (if (c_c (ix a_2)) = p0 then some (.inr (.inr (1 : Int32))) else some (.inl (a_2 + 1)))
set_option maxRecDepth 100000 in
set_option maxHeartbeats 4000000 in
theorem bX0_hasCode_2 (x : GX) (C : GC x cX0_hasCode RX0 rmX0_hasCode) (N : xn x = 3) (qc : Nat) (c_n : Int32) (qc1 : Nat) (c_c : Nat → Int32) (qc2 : Nat) (c_f : Nat → Int32) (qc3 : Nat) (c_s : Nat → Int32) (qc4 : Nat) (c_m : Nat → Int32) (qc5 : Nat) (c_r : Nat → Int32) (p0 : Int32) (a_2 : Int32) (o : Int32) (r : (Int32) ⊕ ((Int32) ⊕ (Int32))) (E : GE x (some .boolean) 0 0 (fun zv zw => zv = some (.int o) ∧ zw = [(qc, .inr (0, [.int c_n, .ref qc1, .ref qc2, .ref qc3, .ref qc4, .ref qc5])), (qc1, .inl ((xy x) 0, 40, .inl c_c)), (qc2, .inl ((xy x) 0, 40, .inl c_f)), (qc3, .inl ((xy x) 0, 40, .inl c_s)), (qc4, .inl ((xy x) 0, 40, .inl c_m)), (qc5, .inl ((xy x) 0, 40, .inl c_r))])) (hf : gX0_hasCode_2 c_n c_c p0 a_2 = some r) (kn : ∀ e : Int32, r = .inl e → GW x 0 0 [(qc, .inr (0, [.int c_n, .ref qc1, .ref qc2, .ref qc3, .ref qc4, .ref qc5])), (qc1, .inl ((xy x) 0, 40, .inl c_c)), (qc2, .inl ((xy x) 0, 40, .inl c_f)), (qc3, .inl ((xy x) 0, 40, .inl c_s)), (qc4, .inl ((xy x) 0, 40, .inl c_m)), (qc5, .inl ((xy x) 0, 40, .inl c_r))] [(0, .ref qc), (1, .int p0), (2, .int e)] 2 []) (kx : ∀ e : Int32, r = .inr (.inl e) → GW x 0 0 [(qc, .inr (0, [.int c_n, .ref qc1, .ref qc2, .ref qc3, .ref qc4, .ref qc5])), (qc1, .inl ((xy x) 0, 40, .inl c_c)), (qc2, .inl ((xy x) 0, 40, .inl c_f)), (qc3, .inl ((xy x) 0, 40, .inl c_s)), (qc4, .inl ((xy x) 0, 40, .inl c_m)), (qc5, .inl ((xy x) 0, 40, .inl c_r))] [] 28 []) (kr : ∀ o' : Int32, r = .inr (.inr o') → o' = o) : GW x 0 0 [(qc, .inr (0, [.int c_n, .ref qc1, .ref qc2, .ref qc3, .ref qc4, .ref qc5])), (qc1, .inl ((xy x) 0, 40, .inl c_c)), (qc2, .inl ((xy x) 0, 40, .inl c_f)), (qc3, .inl ((xy x) 0, 40, .inl c_s)), (qc4, .inl ((xy x) 0, 40, .inl c_m)), (qc5, .inl ((xy x) 0, 40, .inl c_r))] [(0, .ref qc), (1, .int p0), (2, .int a_2)] 2 [] := by
  unfold gX0_hasCode_2 at hf
  refine g_iload_n C (pc := 2) 2 dX0_hasCode_2 rfl rfl ?_
  refine g_aload_n C (pc := 3) 0 dX0_hasCode_3 rfl rfl ?_
  refine g_get C (pc := 4) lfX0_27 0 rfl rfl dX0_hasCode_4 ?_
  refine g_icmp_ge C (pc := 7) 28 dX0_hasCode_7 (by decide) (fun c_7 => ?_) (fun c_7 => ?_)
  · replace hf := (k_if hf).1 c_7
    cases hf
    exact g_lo [] rfl (kx a_2 rfl)
  · replace hf := (k_if hf).2 c_7
    refine g_aload_n C (pc := 10) 0 dX0_hasCode_10 rfl rfl ?_
    refine g_get C (pc := 11) lfX0_9 0 rfl rfl dX0_hasCode_11 ?_
    refine g_iload_n C (pc := 14) 2 dX0_hasCode_14 rfl rfl ?_
    obtain ⟨i_15, hf⟩ := k_gd hf
    refine g_iald C (pc := 15) 1 rfl i_15 dX0_hasCode_15 ?_
    refine g_iload_n C (pc := 16) 1 dX0_hasCode_16 rfl rfl ?_
    refine g_icmp_ne C (pc := 17) 22 dX0_hasCode_17 (by decide) (fun c_17 => ?_) (fun c_17 => ?_)
    · replace hf := (k_if hf).2 c_17
      refine g_iinc C (pc := 22) (v := a_2 + 1) (lo' := [(2, .int (a_2 + 1)), (0, .ref qc), (1, .int p0)]) 2 dX0_hasCode_22 rfl (congrArg (HAdd.hAdd _) ck_iinc_1) N rfl rfl ?_
      refine g_goto C (pc := 25) (tgt := 2) dX0_hasCode_25 (by decide) ?_
      cases hf
      exact g_lo [1, 2, 0] rfl (kn (a_2 + 1) rfl)
    · replace hf := (k_if hf).1 c_17
      refine g_iconst C (pc := 20) dX0_hasCode_20 ck_iconst_1 ?_
      cases hf
      have ho := kr _ rfl
      cases ho
      exact g_zret C E rfl (pc := 21) dX0_hasCode_21 ⟨rfl, rfl⟩
def fX0_hasCode (c_n : Int32) (c_c : Nat → Int32) (p0 : Int32) : Option (Int32) :=
  bd (iter (gX0_hasCode_2 c_n c_c p0) FU (0 : Int32)) fun b_2 : (Int32) ⊕ (Int32) => Sum.elim (fun e_2 : Int32 => some (0 : Int32)) (fun o_2 : Int32 => some o_2) b_2
set_option maxRecDepth 100000 in
set_option maxHeartbeats 4000000 in
theorem eX0_hasCode (x : GX) (C : GC x cX0_hasCode RX0 rmX0_hasCode) (N : xn x = 3) (qc : Nat) (c_n : Int32) (qc1 : Nat) (c_c : Nat → Int32) (qc2 : Nat) (c_f : Nat → Int32) (qc3 : Nat) (c_s : Nat → Int32) (qc4 : Nat) (c_m : Nat → Int32) (qc5 : Nat) (c_r : Nat → Int32) (p0 : Int32) (o : Int32) (E : GE x (some .boolean) 0 0 (fun zv zw => zv = some (.int o) ∧ zw = [(qc, .inr (0, [.int c_n, .ref qc1, .ref qc2, .ref qc3, .ref qc4, .ref qc5])), (qc1, .inl ((xy x) 0, 40, .inl c_c)), (qc2, .inl ((xy x) 0, 40, .inl c_f)), (qc3, .inl ((xy x) 0, 40, .inl c_s)), (qc4, .inl ((xy x) 0, 40, .inl c_m)), (qc5, .inl ((xy x) 0, 40, .inl c_r))])) (hf : fX0_hasCode c_n c_c p0 = some o)  : GW x 0 0 [(qc, .inr (0, [.int c_n, .ref qc1, .ref qc2, .ref qc3, .ref qc4, .ref qc5])), (qc1, .inl ((xy x) 0, 40, .inl c_c)), (qc2, .inl ((xy x) 0, 40, .inl c_f)), (qc3, .inl ((xy x) 0, 40, .inl c_s)), (qc4, .inl ((xy x) 0, 40, .inl c_m)), (qc5, .inl ((xy x) 0, 40, .inl c_r))] [(0, .ref qc), (1, .int p0)] 0 [] := by
  unfold fX0_hasCode at hf
  refine g_iconst C (pc := 0) dX0_hasCode_0 ck_iconst_0 ?_
  refine g_istore_n C (pc := 1) (lo' := [(2, .int (0 : Int32)), (0, .ref qc), (1, .int p0)]) dX0_hasCode_1 rfl N rfl rfl ?_
  obtain ⟨b_2, hb_2, hf⟩ := k_bd hf
  refine g_lo [1, 2, 0] rfl ?_
  refine g_loop (g := (gX0_hasCode_2 c_n c_c p0)) (fun e : Int32 => [(qc, .inr (0, [.int c_n, .ref qc1, .ref qc2, .ref qc3, .ref qc4, .ref qc5])), (qc1, .inl ((xy x) 0, 40, .inl c_c)), (qc2, .inl ((xy x) 0, 40, .inl c_f)), (qc3, .inl ((xy x) 0, 40, .inl c_s)), (qc4, .inl ((xy x) 0, 40, .inl c_m)), (qc5, .inl ((xy x) 0, 40, .inl c_r))]) (fun e : Int32 => [(0, .ref qc), (1, .int p0), (2, .int e)]) 2 (fun b : (Int32) ⊕ (Int32) => (∀ e : Int32, b = .inl e → GW x 0 0 [(qc, .inr (0, [.int c_n, .ref qc1, .ref qc2, .ref qc3, .ref qc4, .ref qc5])), (qc1, .inl ((xy x) 0, 40, .inl c_c)), (qc2, .inl ((xy x) 0, 40, .inl c_f)), (qc3, .inl ((xy x) 0, 40, .inl c_s)), (qc4, .inl ((xy x) 0, 40, .inl c_m)), (qc5, .inl ((xy x) 0, 40, .inl c_r))] [] 28 []) ∧ (∀ o' : Int32, b = .inr o' → o' = o)) (fun a r hg kn kx => bX0_hasCode_2 x C N qc c_n qc1 c_c qc2 c_f qc3 c_s qc4 c_m qc5 c_r p0 a o r E hg kn (fun e he => (kx _ he).1 e rfl) (fun z he => (kx _ he).2 z rfl)) FU _ b_2 hb_2 ?_
  refine ⟨fun e_2 he => ?_, fun o_2 he => ?_⟩ <;> subst he
  · replace hf := k_eliml hf
    refine g_iconst C (pc := 28) dX0_hasCode_28 ck_iconst_0 ?_
    cases hf
    exact g_zret C E rfl (pc := 29) dX0_hasCode_29 ⟨rfl, rfl⟩
  · replace hf := k_elimr hf
    exact k_some hf
set_option maxRecDepth 100000 in
theorem cX0_hasCode_k (l : Launch) (D : va_G) (yy : Nat → ClassId) (qc : Nat) (c_n : Int32) (qc1 : Nat) (c_c : Nat → Int32) (qc2 : Nat) (c_f : Nat → Int32) (qc3 : Nat) (c_s : Nat → Int32) (qc4 : Nat) (c_m : Nat → Int32) (qc5 : Nat) (c_r : Nat → Int32) (p0 : Int32) (o : Int32) (hf : fX0_hasCode c_n c_c p0 = some o) : GMet l yX0_hasCode cX0_hasCode 3 (some .boolean) rmX0_hasCode 0 0 D yy [.ref qc, .int p0] [(qc, .inr (0, [.int c_n, .ref qc1, .ref qc2, .ref qc3, .ref qc4, .ref qc5])), (qc1, .inl (yy 0, 40, .inl c_c)), (qc2, .inl (yy 0, 40, .inl c_f)), (qc3, .inl (yy 0, 40, .inl c_s)), (qc4, .inl (yy 0, 40, .inl c_m)), (qc5, .inl (yy 0, 40, .inl c_r))] (fun zv zw => zv = some (.int o) ∧ zw = [(qc, .inr (0, [.int c_n, .ref qc1, .ref qc2, .ref qc3, .ref qc4, .ref qc5])), (qc1, .inl (yy 0, 40, .inl c_c)), (qc2, .inl (yy 0, 40, .inl c_f)), (qc3, .inl (yy 0, 40, .inl c_s)), (qc4, .inl (yy 0, 40, .inl c_m)), (qc5, .inl (yy 0, 40, .inl c_r))]) :=
  g_met (by decide +kernel) (Nat.le_of_ble_eq_true rfl) (fun x hl hD hy hn C E _ => by subst hD; subst hy; exact eX0_hasCode x C hn qc c_n qc1 c_c qc2 c_f qc3 c_s qc4 c_m qc5 c_r p0 o E hf)
def rmX0_setFate : Room := { frames := 0, cells := 0, slots := 0, locals := 0 }
def fX0_setFate (c_f : Nat → Int32) (c_s : Nat → Int32) (c_m : Nat → Int32) (c_r : Nat → Int32) (p0 : Int32) (p1 : Int32) (p2 : Int32) (p3 : Int32) (p4 : Int32) : Option ((Nat → Int32) × (Nat → Int32) × (Nat → Int32) × (Nat → Int32)) :=
  gd (gi p0 40) (gd (gi p0 40) (gd (gi p0 40) (gd (gi p0 40) (some (upd c_f (ix p0) p1, upd c_s (ix p0) p2, upd c_m (ix p0) p3, upd c_r (ix p0) p4)))))
set_option maxRecDepth 100000 in
set_option maxHeartbeats 4000000 in
theorem eX0_setFate (x : GX) (C : GC x cX0_setFate RX0 rmX0_setFate) (N : xn x = 6) (qc : Nat) (c_n : Int32) (qc1 : Nat) (c_c : Nat → Int32) (qc2 : Nat) (c_f : Nat → Int32) (qc3 : Nat) (c_s : Nat → Int32) (qc4 : Nat) (c_m : Nat → Int32) (qc5 : Nat) (c_r : Nat → Int32) (p0 : Int32) (p1 : Int32) (p2 : Int32) (p3 : Int32) (p4 : Int32) (o : (Nat → Int32) × (Nat → Int32) × (Nat → Int32) × (Nat → Int32)) (E : GE x none 0 0 (fun zv zw => zv = none ∧ zw = [(qc, .inr (0, [.int c_n, .ref qc1, .ref qc2, .ref qc3, .ref qc4, .ref qc5])), (qc1, .inl ((xy x) 0, 40, .inl c_c)), (qc2, .inl ((xy x) 0, 40, .inl o.1)), (qc3, .inl ((xy x) 0, 40, .inl o.2.1)), (qc4, .inl ((xy x) 0, 40, .inl o.2.2.1)), (qc5, .inl ((xy x) 0, 40, .inl o.2.2.2))])) (hf : fX0_setFate c_f c_s c_m c_r p0 p1 p2 p3 p4 = some o)  : GW x 0 0 [(qc, .inr (0, [.int c_n, .ref qc1, .ref qc2, .ref qc3, .ref qc4, .ref qc5])), (qc1, .inl ((xy x) 0, 40, .inl c_c)), (qc2, .inl ((xy x) 0, 40, .inl c_f)), (qc3, .inl ((xy x) 0, 40, .inl c_s)), (qc4, .inl ((xy x) 0, 40, .inl c_m)), (qc5, .inl ((xy x) 0, 40, .inl c_r))] [(0, .ref qc), (1, .int p0), (2, .int p1), (3, .int p2), (4, .int p3), (5, .int p4)] 0 [] := by
  unfold fX0_setFate at hf
  refine g_aload_n C (pc := 0) 0 dX0_setFate_0 rfl rfl ?_
  refine g_get C (pc := 1) lfX0_15 0 rfl rfl dX0_setFate_1 ?_
  refine g_iload_n C (pc := 4) 1 dX0_setFate_4 rfl rfl ?_
  refine g_iload_n C (pc := 5) 2 dX0_setFate_5 rfl rfl ?_
  obtain ⟨i_6, hf⟩ := k_gd hf
  refine g_iast C (pc := 6) (ws' := [(qc, .inr (0, [.int c_n, .ref qc1, .ref qc2, .ref qc3, .ref qc4, .ref qc5])), (qc1, .inl ((xy x) 0, 40, .inl c_c)), (qc2, .inl ((xy x) 0, 40, .inl (upd c_f (ix p0) p1))), (qc3, .inl ((xy x) 0, 40, .inl c_s)), (qc4, .inl ((xy x) 0, 40, .inl c_m)), (qc5, .inl ((xy x) 0, 40, .inl c_r))]) 2 rfl i_6 rfl dX0_setFate_6 ?_
  refine g_aload_n C (pc := 7) 0 dX0_setFate_7 rfl rfl ?_
  refine g_get C (pc := 8) lfX0_18 0 rfl rfl dX0_setFate_8 ?_
  refine g_iload_n C (pc := 11) 1 dX0_setFate_11 rfl rfl ?_
  refine g_iload_n C (pc := 12) 3 dX0_setFate_12 rfl rfl ?_
  obtain ⟨i_13, hf⟩ := k_gd hf
  refine g_iast C (pc := 13) (ws' := [(qc, .inr (0, [.int c_n, .ref qc1, .ref qc2, .ref qc3, .ref qc4, .ref qc5])), (qc1, .inl ((xy x) 0, 40, .inl c_c)), (qc2, .inl ((xy x) 0, 40, .inl (upd c_f (ix p0) p1))), (qc3, .inl ((xy x) 0, 40, .inl (upd c_s (ix p0) p2))), (qc4, .inl ((xy x) 0, 40, .inl c_m)), (qc5, .inl ((xy x) 0, 40, .inl c_r))]) 3 rfl i_13 rfl dX0_setFate_13 ?_
  refine g_aload_n C (pc := 14) 0 dX0_setFate_14 rfl rfl ?_
  refine g_get C (pc := 15) lfX0_21 0 rfl rfl dX0_setFate_15 ?_
  refine g_iload_n C (pc := 18) 1 dX0_setFate_18 rfl rfl ?_
  refine g_iload C (pc := 19) 4 dX0_setFate_19 rfl ?_
  obtain ⟨i_21, hf⟩ := k_gd hf
  refine g_iast C (pc := 21) (ws' := [(qc, .inr (0, [.int c_n, .ref qc1, .ref qc2, .ref qc3, .ref qc4, .ref qc5])), (qc1, .inl ((xy x) 0, 40, .inl c_c)), (qc2, .inl ((xy x) 0, 40, .inl (upd c_f (ix p0) p1))), (qc3, .inl ((xy x) 0, 40, .inl (upd c_s (ix p0) p2))), (qc4, .inl ((xy x) 0, 40, .inl (upd c_m (ix p0) p3))), (qc5, .inl ((xy x) 0, 40, .inl c_r))]) 4 rfl i_21 rfl dX0_setFate_21 ?_
  refine g_aload_n C (pc := 22) 0 dX0_setFate_22 rfl rfl ?_
  refine g_get C (pc := 23) lfX0_24 0 rfl rfl dX0_setFate_23 ?_
  refine g_iload_n C (pc := 26) 1 dX0_setFate_26 rfl rfl ?_
  refine g_iload C (pc := 27) 5 dX0_setFate_27 rfl ?_
  obtain ⟨i_29, hf⟩ := k_gd hf
  refine g_iast C (pc := 29) (ws' := [(qc, .inr (0, [.int c_n, .ref qc1, .ref qc2, .ref qc3, .ref qc4, .ref qc5])), (qc1, .inl ((xy x) 0, 40, .inl c_c)), (qc2, .inl ((xy x) 0, 40, .inl (upd c_f (ix p0) p1))), (qc3, .inl ((xy x) 0, 40, .inl (upd c_s (ix p0) p2))), (qc4, .inl ((xy x) 0, 40, .inl (upd c_m (ix p0) p3))), (qc5, .inl ((xy x) 0, 40, .inl (upd c_r (ix p0) p4)))]) 5 rfl i_29 rfl dX0_setFate_29 ?_
  cases hf
  exact g_vret C E (pc := 30) dX0_setFate_30 ⟨rfl, rfl⟩
set_option maxRecDepth 100000 in
theorem cX0_setFate_k (l : Launch) (D : va_G) (yy : Nat → ClassId) (qc : Nat) (c_n : Int32) (qc1 : Nat) (c_c : Nat → Int32) (qc2 : Nat) (c_f : Nat → Int32) (qc3 : Nat) (c_s : Nat → Int32) (qc4 : Nat) (c_m : Nat → Int32) (qc5 : Nat) (c_r : Nat → Int32) (p0 : Int32) (p1 : Int32) (p2 : Int32) (p3 : Int32) (p4 : Int32) (o : (Nat → Int32) × (Nat → Int32) × (Nat → Int32) × (Nat → Int32)) (hf : fX0_setFate c_f c_s c_m c_r p0 p1 p2 p3 p4 = some o) : GMet l yX0_setFate cX0_setFate 6 none rmX0_setFate 0 0 D yy [.ref qc, .int p0, .int p1, .int p2, .int p3, .int p4] [(qc, .inr (0, [.int c_n, .ref qc1, .ref qc2, .ref qc3, .ref qc4, .ref qc5])), (qc1, .inl (yy 0, 40, .inl c_c)), (qc2, .inl (yy 0, 40, .inl c_f)), (qc3, .inl (yy 0, 40, .inl c_s)), (qc4, .inl (yy 0, 40, .inl c_m)), (qc5, .inl (yy 0, 40, .inl c_r))] (fun zv zw => zv = none ∧ zw = [(qc, .inr (0, [.int c_n, .ref qc1, .ref qc2, .ref qc3, .ref qc4, .ref qc5])), (qc1, .inl (yy 0, 40, .inl c_c)), (qc2, .inl (yy 0, 40, .inl o.1)), (qc3, .inl (yy 0, 40, .inl o.2.1)), (qc4, .inl (yy 0, 40, .inl o.2.2.1)), (qc5, .inl (yy 0, 40, .inl o.2.2.2))]) :=
  g_met (by decide +kernel) (Nat.le_of_ble_eq_true rfl) (fun x hl hD hy hn C E _ => by subst hD; subst hy; exact eX0_setFate x C hn qc c_n qc1 c_c qc2 c_f qc3 c_s qc4 c_m qc5 c_r p0 p1 p2 p3 p4 o E hf)
def rmX0_findStanding : Room := { frames := 0, cells := 0, slots := 0, locals := 0 }
def gX0_findStanding_4 (c_n : Int32) (c_f : Nat → Int32) (a_4 : Int64 × Int32) : Option ((Int64 × Int32) ⊕ (Int64 × Int32)) :=
  if c_n ≤ a_4.2 then some (.inr (a_4.1, a_4.2)) else gd (gi a_4.2 40) (if (c_f (ix a_4.2)) = 0 then some (.inl (a_4.1 ||| ((1 : Int64) <<< (a_4.2.toInt64 &&& 63)), a_4.2 + 1)) else some (.inl (a_4.1, a_4.2 + 1)))
set_option maxRecDepth 100000 in
set_option maxHeartbeats 4000000 in
theorem bX0_findStanding_4 (x : GX) (C : GC x cX0_findStanding RX0 rmX0_findStanding) (N : xn x = 4) (qc : Nat) (c_n : Int32) (qc1 : Nat) (c_c : Nat → Int32) (qc2 : Nat) (c_f : Nat → Int32) (qc3 : Nat) (c_s : Nat → Int32) (qc4 : Nat) (c_m : Nat → Int32) (qc5 : Nat) (c_r : Nat → Int32) (a_4 : Int64 × Int32) (r : (Int64 × Int32) ⊕ (Int64 × Int32))  (hf : gX0_findStanding_4 c_n c_f a_4 = some r) (kn : ∀ e : Int64 × Int32, r = .inl e → GW x 0 0 [(qc, .inr (0, [.int c_n, .ref qc1, .ref qc2, .ref qc3, .ref qc4, .ref qc5])), (qc1, .inl ((xy x) 0, 40, .inl c_c)), (qc2, .inl ((xy x) 0, 40, .inl c_f)), (qc3, .inl ((xy x) 0, 40, .inl c_s)), (qc4, .inl ((xy x) 0, 40, .inl c_m)), (qc5, .inl ((xy x) 0, 40, .inl c_r))] [(0, .ref qc), (1, .long e.1), (3, .int e.2)] 4 []) (kx : ∀ e : Int64 × Int32, r = .inr e → GW x 0 0 [(qc, .inr (0, [.int c_n, .ref qc1, .ref qc2, .ref qc3, .ref qc4, .ref qc5])), (qc1, .inl ((xy x) 0, 40, .inl c_c)), (qc2, .inl ((xy x) 0, 40, .inl c_f)), (qc3, .inl ((xy x) 0, 40, .inl c_s)), (qc4, .inl ((xy x) 0, 40, .inl c_m)), (qc5, .inl ((xy x) 0, 40, .inl c_r))] [(1, .long e.1)] 33 []) : GW x 0 0 [(qc, .inr (0, [.int c_n, .ref qc1, .ref qc2, .ref qc3, .ref qc4, .ref qc5])), (qc1, .inl ((xy x) 0, 40, .inl c_c)), (qc2, .inl ((xy x) 0, 40, .inl c_f)), (qc3, .inl ((xy x) 0, 40, .inl c_s)), (qc4, .inl ((xy x) 0, 40, .inl c_m)), (qc5, .inl ((xy x) 0, 40, .inl c_r))] [(0, .ref qc), (1, .long a_4.1), (3, .int a_4.2)] 4 [] := by
  unfold gX0_findStanding_4 at hf
  refine g_iload_n C (pc := 4) 2 dX0_findStanding_4 rfl rfl ?_
  refine g_aload_n C (pc := 5) 0 dX0_findStanding_5 rfl rfl ?_
  refine g_get C (pc := 6) lfX0_27 0 rfl rfl dX0_findStanding_6 ?_
  refine g_icmp_ge C (pc := 9) 33 dX0_findStanding_9 (by decide) (fun c_9 => ?_) (fun c_9 => ?_)
  · replace hf := (k_if hf).1 c_9
    cases hf
    exact g_lo [1] rfl (kx (a_4.1, a_4.2) rfl)
  · replace hf := (k_if hf).2 c_9
    refine g_aload_n C (pc := 12) 0 dX0_findStanding_12 rfl rfl ?_
    refine g_get C (pc := 13) lfX0_15 0 rfl rfl dX0_findStanding_13 ?_
    refine g_iload_n C (pc := 16) 2 dX0_findStanding_16 rfl rfl ?_
    obtain ⟨i_17, hf⟩ := k_gd hf
    refine g_iald C (pc := 17) 2 rfl i_17 dX0_findStanding_17 ?_
    refine g_if_ne C (pc := 18) 27 dX0_findStanding_18 (by decide) (fun c_18 => ?_) (fun c_18 => ?_)
    · replace hf := (k_if hf).2 c_18
      refine g_iinc C (pc := 27) (v := a_4.2 + 1) (lo' := [(3, .int (a_4.2 + 1)), (0, .ref qc), (1, .long a_4.1)]) 2 dX0_findStanding_27 rfl (congrArg (HAdd.hAdd _) ck_iinc_1) N rfl rfl ?_
      refine g_goto C (pc := 30) (tgt := 4) dX0_findStanding_30 (by decide) ?_
      cases hf
      exact g_lo [1, 2, 0] rfl (kn (a_4.1, a_4.2 + 1) rfl)
    · replace hf := (k_if hf).1 c_18
      refine g_lload_n C (pc := 21) 1 dX0_findStanding_21 rfl rfl ?_
      refine g_lconst C (pc := 22) (v := 1) dX0_findStanding_22 rfl ?_
      refine g_iload_n C (pc := 23) 2 dX0_findStanding_23 rfl rfl ?_
      refine g_lshl C (pc := 24) dX0_findStanding_24 ?_
      refine g_lor C (pc := 25) dX0_findStanding_25 ?_
      refine g_lstore_n C (pc := 26) (lo' := [(1, .long (a_4.1 ||| ((1 : Int64) <<< (a_4.2.toInt64 &&& 63)))), (0, .ref qc), (3, .int a_4.2)]) dX0_findStanding_26 rfl N rfl rfl ?_
      refine g_iinc C (pc := 27) (v := a_4.2 + 1) (lo' := [(3, .int (a_4.2 + 1)), (1, .long (a_4.1 ||| ((1 : Int64) <<< (a_4.2.toInt64 &&& 63)))), (0, .ref qc)]) 2 dX0_findStanding_27 rfl (congrArg (HAdd.hAdd _) ck_iinc_1) N rfl rfl ?_
      refine g_goto C (pc := 30) (tgt := 4) dX0_findStanding_30 (by decide) ?_
      cases hf
      exact g_lo [2, 1, 0] rfl (kn (a_4.1 ||| ((1 : Int64) <<< (a_4.2.toInt64 &&& 63)), a_4.2 + 1) rfl)
def fX0_findStanding (c_n : Int32) (c_f : Nat → Int32) : Option (Int64) :=
  bd (iter (gX0_findStanding_4 c_n c_f) FU ((0 : Int64), (0 : Int32))) fun b_4 : Int64 × Int32 => some b_4.1
set_option maxRecDepth 100000 in
set_option maxHeartbeats 4000000 in
theorem eX0_findStanding (x : GX) (C : GC x cX0_findStanding RX0 rmX0_findStanding) (N : xn x = 4) (qc : Nat) (c_n : Int32) (qc1 : Nat) (c_c : Nat → Int32) (qc2 : Nat) (c_f : Nat → Int32) (qc3 : Nat) (c_s : Nat → Int32) (qc4 : Nat) (c_m : Nat → Int32) (qc5 : Nat) (c_r : Nat → Int32) (o : Int64) (E : GE x (some .long) 0 0 (fun zv zw => zv = some (.long o) ∧ zw = [(qc, .inr (0, [.int c_n, .ref qc1, .ref qc2, .ref qc3, .ref qc4, .ref qc5])), (qc1, .inl ((xy x) 0, 40, .inl c_c)), (qc2, .inl ((xy x) 0, 40, .inl c_f)), (qc3, .inl ((xy x) 0, 40, .inl c_s)), (qc4, .inl ((xy x) 0, 40, .inl c_m)), (qc5, .inl ((xy x) 0, 40, .inl c_r))])) (hf : fX0_findStanding c_n c_f = some o)  : GW x 0 0 [(qc, .inr (0, [.int c_n, .ref qc1, .ref qc2, .ref qc3, .ref qc4, .ref qc5])), (qc1, .inl ((xy x) 0, 40, .inl c_c)), (qc2, .inl ((xy x) 0, 40, .inl c_f)), (qc3, .inl ((xy x) 0, 40, .inl c_s)), (qc4, .inl ((xy x) 0, 40, .inl c_m)), (qc5, .inl ((xy x) 0, 40, .inl c_r))] [(0, .ref qc)] 0 [] := by
  unfold fX0_findStanding at hf
  refine g_lconst C (pc := 0) (v := 0) dX0_findStanding_0 rfl ?_
  refine g_lstore_n C (pc := 1) (lo' := [(1, .long (0 : Int64)), (0, .ref qc)]) dX0_findStanding_1 rfl N rfl rfl ?_
  refine g_iconst C (pc := 2) dX0_findStanding_2 ck_iconst_0 ?_
  refine g_istore_n C (pc := 3) (lo' := [(3, .int (0 : Int32)), (1, .long (0 : Int64)), (0, .ref qc)]) dX0_findStanding_3 rfl N rfl rfl ?_
  obtain ⟨b_4, hb_4, hf⟩ := k_bd hf
  refine g_lo [2, 1, 0] rfl ?_
  refine g_loop (g := (gX0_findStanding_4 c_n c_f)) (fun e : Int64 × Int32 => [(qc, .inr (0, [.int c_n, .ref qc1, .ref qc2, .ref qc3, .ref qc4, .ref qc5])), (qc1, .inl ((xy x) 0, 40, .inl c_c)), (qc2, .inl ((xy x) 0, 40, .inl c_f)), (qc3, .inl ((xy x) 0, 40, .inl c_s)), (qc4, .inl ((xy x) 0, 40, .inl c_m)), (qc5, .inl ((xy x) 0, 40, .inl c_r))]) (fun e : Int64 × Int32 => [(0, .ref qc), (1, .long e.1), (3, .int e.2)]) 4 (fun e : Int64 × Int32 => GW x 0 0 [(qc, .inr (0, [.int c_n, .ref qc1, .ref qc2, .ref qc3, .ref qc4, .ref qc5])), (qc1, .inl ((xy x) 0, 40, .inl c_c)), (qc2, .inl ((xy x) 0, 40, .inl c_f)), (qc3, .inl ((xy x) 0, 40, .inl c_s)), (qc4, .inl ((xy x) 0, 40, .inl c_m)), (qc5, .inl ((xy x) 0, 40, .inl c_r))] [(1, .long e.1)] 33 []) (fun a r hg kn kx => bX0_findStanding_4 x C N qc c_n qc1 c_c qc2 c_f qc3 c_s qc4 c_m qc5 c_r a r hg kn kx) FU _ b_4 hb_4 ?_
  refine g_lload_n C (pc := 33) 0 dX0_findStanding_33 rfl rfl ?_
  cases hf
  exact g_lret C E (pc := 34) dX0_findStanding_34 ⟨rfl, rfl⟩
set_option maxRecDepth 100000 in
theorem cX0_findStanding_k (l : Launch) (D : va_G) (yy : Nat → ClassId) (qc : Nat) (c_n : Int32) (qc1 : Nat) (c_c : Nat → Int32) (qc2 : Nat) (c_f : Nat → Int32) (qc3 : Nat) (c_s : Nat → Int32) (qc4 : Nat) (c_m : Nat → Int32) (qc5 : Nat) (c_r : Nat → Int32) (o : Int64) (hf : fX0_findStanding c_n c_f = some o) : GMet l yX0_findStanding cX0_findStanding 4 (some .long) rmX0_findStanding 0 0 D yy [.ref qc] [(qc, .inr (0, [.int c_n, .ref qc1, .ref qc2, .ref qc3, .ref qc4, .ref qc5])), (qc1, .inl (yy 0, 40, .inl c_c)), (qc2, .inl (yy 0, 40, .inl c_f)), (qc3, .inl (yy 0, 40, .inl c_s)), (qc4, .inl (yy 0, 40, .inl c_m)), (qc5, .inl (yy 0, 40, .inl c_r))] (fun zv zw => zv = some (.long o) ∧ zw = [(qc, .inr (0, [.int c_n, .ref qc1, .ref qc2, .ref qc3, .ref qc4, .ref qc5])), (qc1, .inl (yy 0, 40, .inl c_c)), (qc2, .inl (yy 0, 40, .inl c_f)), (qc3, .inl (yy 0, 40, .inl c_s)), (qc4, .inl (yy 0, 40, .inl c_m)), (qc5, .inl (yy 0, 40, .inl c_r))]) :=
  g_met (by decide +kernel) (Nat.le_of_ble_eq_true rfl) (fun x hl hD hy hn C E _ => by subst hD; subst hy; exact eX0_findStanding x C hn qc c_n qc1 c_c qc2 c_f qc3 c_s qc4 c_m qc5 c_r o E hf)
def rmX0_countStanding : Room := { frames := 1, cells := 0, slots := 0, locals := 23 }
def fX0_countStanding (c_n : Int32) (c_f : Nat → Int32) : Option (Int32) :=
  bd (fX0_findStanding c_n c_f) fun y_1 : Int64 => bd (fJ13_bitCount_95d88 y_1) fun y_4 : Int32 => some y_4
set_option maxRecDepth 100000 in
set_option maxHeartbeats 4000000 in
theorem eX0_countStanding (x : GX) (C : GC x cX0_countStanding RX0 rmX0_countStanding) (N : xn x = 1) (qc : Nat) (c_n : Int32) (qc1 : Nat) (c_c : Nat → Int32) (qc2 : Nat) (c_f : Nat → Int32) (qc3 : Nat) (c_s : Nat → Int32) (qc4 : Nat) (c_m : Nat → Int32) (qc5 : Nat) (c_r : Nat → Int32) (o : Int32) (E : GE x (some .int) 0 0 (fun zv zw => zv = some (.int o) ∧ zw = [(qc, .inr (0, [.int c_n, .ref qc1, .ref qc2, .ref qc3, .ref qc4, .ref qc5])), (qc1, .inl ((xy x) 0, 40, .inl c_c)), (qc2, .inl ((xy x) 0, 40, .inl c_f)), (qc3, .inl ((xy x) 0, 40, .inl c_s)), (qc4, .inl ((xy x) 0, 40, .inl c_m)), (qc5, .inl ((xy x) 0, 40, .inl c_r))])) (hf : fX0_countStanding c_n c_f = some o)  : GW x 0 0 [(qc, .inr (0, [.int c_n, .ref qc1, .ref qc2, .ref qc3, .ref qc4, .ref qc5])), (qc1, .inl ((xy x) 0, 40, .inl c_c)), (qc2, .inl ((xy x) 0, 40, .inl c_f)), (qc3, .inl ((xy x) 0, 40, .inl c_s)), (qc4, .inl ((xy x) 0, 40, .inl c_m)), (qc5, .inl ((xy x) 0, 40, .inl c_r))] [(0, .ref qc)] 0 [] := by
  unfold fX0_countStanding at hf
  refine g_aload_n C (pc := 0) 0 dX0_countStanding_0 rfl rfl ?_
  obtain ⟨y_1, h_1, hf⟩ := k_bd hf
  refine g_callA C (pc := 1) (b := qc) (As := []) (rest := []) (v1 := (some (.long y_1))) (st' := [.long y_1]) (w1 := [(qc, .inr (0, [.int c_n, .ref qc1, .ref qc2, .ref qc3, .ref qc4, .ref qc5])), (qc1, .inl ((xy x) 0, 40, .inl c_c)), (qc2, .inl ((xy x) 0, 40, .inl c_f)), (qc3, .inl ((xy x) 0, 40, .inl c_s)), (qc4, .inl ((xy x) 0, 40, .inl c_m)), (qc5, .inl ((xy x) 0, 40, .inl c_r))]) 0 lkX0_findStanding lVX0_37 (cX0_findStanding_k (xl x) (xD x) (xy x) qc c_n qc1 c_c qc2 c_f qc3 c_s qc4 c_m qc5 c_r y_1 h_1) rfl ⟨⟨Nat.le_of_ble_eq_true rfl, Nat.le_of_ble_eq_true rfl⟩, ⟨rfl, rfl⟩, ⟨Nat.le_of_ble_eq_true rfl, Nat.le_of_ble_eq_true rfl⟩⟩ rfl rfl rfl (Nat.le_of_ble_eq_true rfl) rfl dX0_countStanding_1 ?_
  obtain ⟨y_4, h_4, hf⟩ := k_bd hf
  refine g_callS0 C (pc := 4) (As := [.long y_1]) (rest := []) (v1 := (some (.int y_4))) (st' := [.int y_4]) lkJ13_bitCount_95d88 lSX0_41 (cJ13_bitCount_95d88_k (xl x) (xD x) (xy x) y_1 y_4 h_4) rfl ⟨⟨Nat.le_of_ble_eq_true rfl, Nat.le_of_ble_eq_true rfl⟩, ⟨rfl, rfl⟩, ⟨Nat.le_of_ble_eq_true rfl, Nat.le_of_ble_eq_true rfl⟩⟩ rfl (Nat.le_of_ble_eq_true rfl) rfl dX0_countStanding_4 ?_
  cases hf
  exact g_iret C E (pc := 7) dX0_countStanding_7 ⟨rfl, rfl⟩
set_option maxRecDepth 100000 in
theorem cX0_countStanding_k (l : Launch) (D : va_G) (yy : Nat → ClassId) (qc : Nat) (c_n : Int32) (qc1 : Nat) (c_c : Nat → Int32) (qc2 : Nat) (c_f : Nat → Int32) (qc3 : Nat) (c_s : Nat → Int32) (qc4 : Nat) (c_m : Nat → Int32) (qc5 : Nat) (c_r : Nat → Int32) (o : Int32) (hf : fX0_countStanding c_n c_f = some o) : GMet l yX0_countStanding cX0_countStanding 1 (some .int) rmX0_countStanding 0 0 D yy [.ref qc] [(qc, .inr (0, [.int c_n, .ref qc1, .ref qc2, .ref qc3, .ref qc4, .ref qc5])), (qc1, .inl (yy 0, 40, .inl c_c)), (qc2, .inl (yy 0, 40, .inl c_f)), (qc3, .inl (yy 0, 40, .inl c_s)), (qc4, .inl (yy 0, 40, .inl c_m)), (qc5, .inl (yy 0, 40, .inl c_r))] (fun zv zw => zv = some (.int o) ∧ zw = [(qc, .inr (0, [.int c_n, .ref qc1, .ref qc2, .ref qc3, .ref qc4, .ref qc5])), (qc1, .inl (yy 0, 40, .inl c_c)), (qc2, .inl (yy 0, 40, .inl c_f)), (qc3, .inl (yy 0, 40, .inl c_s)), (qc4, .inl (yy 0, 40, .inl c_m)), (qc5, .inl (yy 0, 40, .inl c_r))]) :=
  g_met (by decide +kernel) (Nat.le_of_ble_eq_true rfl) (fun x hl hD hy hn C E _ => by subst hD; subst hy; exact eX0_countStanding x C hn qc c_n qc1 c_c qc2 c_f qc3 c_s qc4 c_m qc5 c_r o E hf)
def rmX0_standsAgainst : Room := { frames := 2, cells := 0, slots := 0, locals := 46 }
def fX0_standsAgainst (c_c : Nat → Int32) (c_f : Nat → Int32) (p0 : Int32) (p1 : Int32) : Option (Int32) :=
  gd (gi p0 40) (if (c_f (ix p0)) = 0 then gd (gi p0 40) (bd (fX1_isMetBy (c_c (ix p0)) p1) fun y_16 : Int32 => if y_16 = 0 then some (1 : Int32) else some (0 : Int32)) else some (0 : Int32))
set_option maxRecDepth 100000 in
set_option maxHeartbeats 4000000 in
theorem eX0_standsAgainst (x : GX) (C : GC x cX0_standsAgainst RX0 rmX0_standsAgainst) (N : xn x = 3) (qc : Nat) (c_n : Int32) (qc1 : Nat) (c_c : Nat → Int32) (qc2 : Nat) (c_f : Nat → Int32) (qc3 : Nat) (c_s : Nat → Int32) (qc4 : Nat) (c_m : Nat → Int32) (qc5 : Nat) (c_r : Nat → Int32) (p0 : Int32) (p1 : Int32) (o : Int32) (E : GE x (some .boolean) 0 0 (fun zv zw => zv = some (.int o) ∧ zw = [(qc, .inr (0, [.int c_n, .ref qc1, .ref qc2, .ref qc3, .ref qc4, .ref qc5])), (qc1, .inl ((xy x) 0, 40, .inl c_c)), (qc2, .inl ((xy x) 0, 40, .inl c_f)), (qc3, .inl ((xy x) 0, 40, .inl c_s)), (qc4, .inl ((xy x) 0, 40, .inl c_m)), (qc5, .inl ((xy x) 0, 40, .inl c_r))])) (hf : fX0_standsAgainst c_c c_f p0 p1 = some o)  : GW x 0 0 [(qc, .inr (0, [.int c_n, .ref qc1, .ref qc2, .ref qc3, .ref qc4, .ref qc5])), (qc1, .inl ((xy x) 0, 40, .inl c_c)), (qc2, .inl ((xy x) 0, 40, .inl c_f)), (qc3, .inl ((xy x) 0, 40, .inl c_s)), (qc4, .inl ((xy x) 0, 40, .inl c_m)), (qc5, .inl ((xy x) 0, 40, .inl c_r))] [(0, .ref qc), (1, .int p0), (2, .int p1)] 0 [] := by
  unfold fX0_standsAgainst at hf
  refine g_aload_n C (pc := 0) 0 dX0_standsAgainst_0 rfl rfl ?_
  refine g_get C (pc := 1) lfX0_15 0 rfl rfl dX0_standsAgainst_1 ?_
  refine g_iload_n C (pc := 4) 1 dX0_standsAgainst_4 rfl rfl ?_
  obtain ⟨i_5, hf⟩ := k_gd hf
  refine g_iald C (pc := 5) 2 rfl i_5 dX0_standsAgainst_5 ?_
  refine g_if_ne C (pc := 6) 26 dX0_standsAgainst_6 (by decide) (fun c_6 => ?_) (fun c_6 => ?_)
  · replace hf := (k_if hf).2 c_6
    refine g_iconst C (pc := 26) dX0_standsAgainst_26 ck_iconst_0 ?_
    cases hf
    exact g_zret C E rfl (pc := 27) dX0_standsAgainst_27 ⟨rfl, rfl⟩
  · replace hf := (k_if hf).1 c_6
    refine g_aload_n C (pc := 9) 0 dX0_standsAgainst_9 rfl rfl ?_
    refine g_get C (pc := 10) lfX0_9 0 rfl rfl dX0_standsAgainst_10 ?_
    refine g_iload_n C (pc := 13) 1 dX0_standsAgainst_13 rfl rfl ?_
    obtain ⟨i_14, hf⟩ := k_gd hf
    refine g_iald C (pc := 14) 1 rfl i_14 dX0_standsAgainst_14 ?_
    refine g_iload_n C (pc := 15) 2 dX0_standsAgainst_15 rfl rfl ?_
    obtain ⟨y_16, h_16, hf⟩ := k_bd hf
    refine g_callS0 C (pc := 16) (As := [.int (c_c (ix p0)), .int p1]) (rest := []) (v1 := (some (.int y_16))) (st' := [.int y_16]) lkX1_isMetBy lSX0_47 (cX1_isMetBy_k (xl x) (xD x) (xy x) (c_c (ix p0)) p1 y_16 h_16) rfl ⟨⟨Nat.le_of_ble_eq_true rfl, Nat.le_of_ble_eq_true rfl⟩, ⟨rfl, rfl⟩, ⟨Nat.le_of_ble_eq_true rfl, Nat.le_of_ble_eq_true rfl⟩⟩ rfl (Nat.le_of_ble_eq_true rfl) rfl dX0_standsAgainst_16 ?_
    refine g_if_ne C (pc := 19) 26 dX0_standsAgainst_19 (by decide) (fun c_19 => ?_) (fun c_19 => ?_)
    · replace hf := (k_if hf).2 c_19
      refine g_iconst C (pc := 26) dX0_standsAgainst_26 ck_iconst_0 ?_
      cases hf
      exact g_zret C E rfl (pc := 27) dX0_standsAgainst_27 ⟨rfl, rfl⟩
    · replace hf := (k_if hf).1 c_19
      refine g_iconst C (pc := 22) dX0_standsAgainst_22 ck_iconst_1 ?_
      refine g_goto C (pc := 23) (tgt := 27) dX0_standsAgainst_23 (by decide) ?_
      cases hf
      exact g_zret C E rfl (pc := 27) dX0_standsAgainst_27 ⟨rfl, rfl⟩
set_option maxRecDepth 100000 in
theorem cX0_standsAgainst_k (l : Launch) (D : va_G) (yy : Nat → ClassId) (qc : Nat) (c_n : Int32) (qc1 : Nat) (c_c : Nat → Int32) (qc2 : Nat) (c_f : Nat → Int32) (qc3 : Nat) (c_s : Nat → Int32) (qc4 : Nat) (c_m : Nat → Int32) (qc5 : Nat) (c_r : Nat → Int32) (p0 : Int32) (p1 : Int32) (o : Int32) (hf : fX0_standsAgainst c_c c_f p0 p1 = some o) : GMet l yX0_standsAgainst cX0_standsAgainst 3 (some .boolean) rmX0_standsAgainst 0 0 D yy [.ref qc, .int p0, .int p1] [(qc, .inr (0, [.int c_n, .ref qc1, .ref qc2, .ref qc3, .ref qc4, .ref qc5])), (qc1, .inl (yy 0, 40, .inl c_c)), (qc2, .inl (yy 0, 40, .inl c_f)), (qc3, .inl (yy 0, 40, .inl c_s)), (qc4, .inl (yy 0, 40, .inl c_m)), (qc5, .inl (yy 0, 40, .inl c_r))] (fun zv zw => zv = some (.int o) ∧ zw = [(qc, .inr (0, [.int c_n, .ref qc1, .ref qc2, .ref qc3, .ref qc4, .ref qc5])), (qc1, .inl (yy 0, 40, .inl c_c)), (qc2, .inl (yy 0, 40, .inl c_f)), (qc3, .inl (yy 0, 40, .inl c_s)), (qc4, .inl (yy 0, 40, .inl c_m)), (qc5, .inl (yy 0, 40, .inl c_r))]) :=
  g_met (by decide +kernel) (Nat.le_of_ble_eq_true rfl) (fun x hl hD hy hn C E _ => by subst hD; subst hy; exact eX0_standsAgainst x C hn qc c_n qc1 c_c qc2 c_f qc3 c_s qc4 c_m qc5 c_r p0 p1 o E hf)
def rmX0_nextMiss : Room := { frames := 3, cells := 0, slots := 0, locals := 68 }
def gX0_nextMiss_2 (c_n : Int32) (c_c : Nat → Int32) (c_f : Nat → Int32) (p0 : Int32) (a_2 : Int32) : Option ((Int32) ⊕ ((Int32) ⊕ (Int32))) :=
  if c_n ≤ a_2 then some (.inr (.inl a_2)) else bd (fX0_standsAgainst c_c c_f a_2 p0) fun y_13 : Int32 => if y_13 = 0 then some (.inl (a_2 + 1)) else some (.inr (.inr a_2))
set_option maxRecDepth 100000 in
set_option maxHeartbeats 4000000 in
theorem bX0_nextMiss_2 (x : GX) (C : GC x cX0_nextMiss RX0 rmX0_nextMiss) (N : xn x = 4) (qc : Nat) (c_n : Int32) (qc1 : Nat) (c_c : Nat → Int32) (qc2 : Nat) (c_f : Nat → Int32) (qc3 : Nat) (c_s : Nat → Int32) (qc4 : Nat) (c_m : Nat → Int32) (qc5 : Nat) (c_r : Nat → Int32) (p0 : Int32) (a_2 : Int32) (o : Int32) (r : (Int32) ⊕ ((Int32) ⊕ (Int32))) (E : GE x (some .int) 0 0 (fun zv zw => zv = some (.int o) ∧ zw = [(qc, .inr (0, [.int c_n, .ref qc1, .ref qc2, .ref qc3, .ref qc4, .ref qc5])), (qc1, .inl ((xy x) 0, 40, .inl c_c)), (qc2, .inl ((xy x) 0, 40, .inl c_f)), (qc3, .inl ((xy x) 0, 40, .inl c_s)), (qc4, .inl ((xy x) 0, 40, .inl c_m)), (qc5, .inl ((xy x) 0, 40, .inl c_r))])) (hf : gX0_nextMiss_2 c_n c_c c_f p0 a_2 = some r) (kn : ∀ e : Int32, r = .inl e → GW x 0 0 [(qc, .inr (0, [.int c_n, .ref qc1, .ref qc2, .ref qc3, .ref qc4, .ref qc5])), (qc1, .inl ((xy x) 0, 40, .inl c_c)), (qc2, .inl ((xy x) 0, 40, .inl c_f)), (qc3, .inl ((xy x) 0, 40, .inl c_s)), (qc4, .inl ((xy x) 0, 40, .inl c_m)), (qc5, .inl ((xy x) 0, 40, .inl c_r))] [(0, .ref qc), (1, .int p0), (3, .int e)] 2 []) (kx : ∀ e : Int32, r = .inr (.inl e) → GW x 0 0 [(qc, .inr (0, [.int c_n, .ref qc1, .ref qc2, .ref qc3, .ref qc4, .ref qc5])), (qc1, .inl ((xy x) 0, 40, .inl c_c)), (qc2, .inl ((xy x) 0, 40, .inl c_f)), (qc3, .inl ((xy x) 0, 40, .inl c_s)), (qc4, .inl ((xy x) 0, 40, .inl c_m)), (qc5, .inl ((xy x) 0, 40, .inl c_r))] [(0, .ref qc)] 27 []) (kr : ∀ o' : Int32, r = .inr (.inr o') → o' = o) : GW x 0 0 [(qc, .inr (0, [.int c_n, .ref qc1, .ref qc2, .ref qc3, .ref qc4, .ref qc5])), (qc1, .inl ((xy x) 0, 40, .inl c_c)), (qc2, .inl ((xy x) 0, 40, .inl c_f)), (qc3, .inl ((xy x) 0, 40, .inl c_s)), (qc4, .inl ((xy x) 0, 40, .inl c_m)), (qc5, .inl ((xy x) 0, 40, .inl c_r))] [(0, .ref qc), (1, .int p0), (3, .int a_2)] 2 [] := by
  unfold gX0_nextMiss_2 at hf
  refine g_iload_n C (pc := 2) 2 dX0_nextMiss_2 rfl rfl ?_
  refine g_aload_n C (pc := 3) 0 dX0_nextMiss_3 rfl rfl ?_
  refine g_get C (pc := 4) lfX0_27 0 rfl rfl dX0_nextMiss_4 ?_
  refine g_icmp_ge C (pc := 7) 27 dX0_nextMiss_7 (by decide) (fun c_7 => ?_) (fun c_7 => ?_)
  · replace hf := (k_if hf).1 c_7
    cases hf
    exact g_lo [0] rfl (kx a_2 rfl)
  · replace hf := (k_if hf).2 c_7
    refine g_aload_n C (pc := 10) 0 dX0_nextMiss_10 rfl rfl ?_
    refine g_iload_n C (pc := 11) 2 dX0_nextMiss_11 rfl rfl ?_
    refine g_iload_n C (pc := 12) 1 dX0_nextMiss_12 rfl rfl ?_
    obtain ⟨y_13, h_13, hf⟩ := k_bd hf
    refine g_callA C (pc := 13) (b := qc) (As := [.int a_2, .int p0]) (rest := []) (v1 := (some (.int y_13))) (st' := [.int y_13]) (w1 := [(qc, .inr (0, [.int c_n, .ref qc1, .ref qc2, .ref qc3, .ref qc4, .ref qc5])), (qc1, .inl ((xy x) 0, 40, .inl c_c)), (qc2, .inl ((xy x) 0, 40, .inl c_f)), (qc3, .inl ((xy x) 0, 40, .inl c_s)), (qc4, .inl ((xy x) 0, 40, .inl c_m)), (qc5, .inl ((xy x) 0, 40, .inl c_r))]) 0 lkX0_standsAgainst lVX0_53 (cX0_standsAgainst_k (xl x) (xD x) (xy x) qc c_n qc1 c_c qc2 c_f qc3 c_s qc4 c_m qc5 c_r a_2 p0 y_13 h_13) rfl ⟨⟨Nat.le_of_ble_eq_true rfl, Nat.le_of_ble_eq_true rfl⟩, ⟨rfl, rfl⟩, ⟨Nat.le_of_ble_eq_true rfl, Nat.le_of_ble_eq_true rfl⟩⟩ rfl rfl rfl (Nat.le_of_ble_eq_true rfl) rfl dX0_nextMiss_13 ?_
    refine g_if_eq C (pc := 16) 21 dX0_nextMiss_16 (by decide) (fun c_16 => ?_) (fun c_16 => ?_)
    · replace hf := (k_if hf).1 c_16
      refine g_iinc C (pc := 21) (v := a_2 + 1) (lo' := [(3, .int (a_2 + 1)), (0, .ref qc), (1, .int p0)]) 2 dX0_nextMiss_21 rfl (congrArg (HAdd.hAdd _) ck_iinc_1) N rfl rfl ?_
      refine g_goto C (pc := 24) (tgt := 2) dX0_nextMiss_24 (by decide) ?_
      cases hf
      exact g_lo [1, 2, 0] rfl (kn (a_2 + 1) rfl)
    · replace hf := (k_if hf).2 c_16
      refine g_iload_n C (pc := 19) 2 dX0_nextMiss_19 rfl rfl ?_
      cases hf
      have ho := kr _ rfl
      cases ho
      exact g_iret C E (pc := 20) dX0_nextMiss_20 ⟨rfl, rfl⟩
def fX0_nextMiss (c_n : Int32) (c_c : Nat → Int32) (c_f : Nat → Int32) (p0 : Int32) (p1 : Int32) : Option (Int32) :=
  bd (iter (gX0_nextMiss_2 c_n c_c c_f p0) FU p1) fun b_2 : (Int32) ⊕ (Int32) => Sum.elim (fun e_2 : Int32 => some c_n) (fun o_2 : Int32 => some o_2) b_2
set_option maxRecDepth 100000 in
set_option maxHeartbeats 4000000 in
theorem eX0_nextMiss (x : GX) (C : GC x cX0_nextMiss RX0 rmX0_nextMiss) (N : xn x = 4) (qc : Nat) (c_n : Int32) (qc1 : Nat) (c_c : Nat → Int32) (qc2 : Nat) (c_f : Nat → Int32) (qc3 : Nat) (c_s : Nat → Int32) (qc4 : Nat) (c_m : Nat → Int32) (qc5 : Nat) (c_r : Nat → Int32) (p0 : Int32) (p1 : Int32) (o : Int32) (E : GE x (some .int) 0 0 (fun zv zw => zv = some (.int o) ∧ zw = [(qc, .inr (0, [.int c_n, .ref qc1, .ref qc2, .ref qc3, .ref qc4, .ref qc5])), (qc1, .inl ((xy x) 0, 40, .inl c_c)), (qc2, .inl ((xy x) 0, 40, .inl c_f)), (qc3, .inl ((xy x) 0, 40, .inl c_s)), (qc4, .inl ((xy x) 0, 40, .inl c_m)), (qc5, .inl ((xy x) 0, 40, .inl c_r))])) (hf : fX0_nextMiss c_n c_c c_f p0 p1 = some o)  : GW x 0 0 [(qc, .inr (0, [.int c_n, .ref qc1, .ref qc2, .ref qc3, .ref qc4, .ref qc5])), (qc1, .inl ((xy x) 0, 40, .inl c_c)), (qc2, .inl ((xy x) 0, 40, .inl c_f)), (qc3, .inl ((xy x) 0, 40, .inl c_s)), (qc4, .inl ((xy x) 0, 40, .inl c_m)), (qc5, .inl ((xy x) 0, 40, .inl c_r))] [(0, .ref qc), (1, .int p0), (2, .int p1)] 0 [] := by
  unfold fX0_nextMiss at hf
  refine g_iload_n C (pc := 0) 2 dX0_nextMiss_0 rfl rfl ?_
  refine g_istore_n C (pc := 1) (lo' := [(3, .int p1), (0, .ref qc), (1, .int p0), (2, .int p1)]) dX0_nextMiss_1 rfl N rfl rfl ?_
  obtain ⟨b_2, hb_2, hf⟩ := k_bd hf
  refine g_lo [1, 2, 0] rfl ?_
  refine g_loop (g := (gX0_nextMiss_2 c_n c_c c_f p0)) (fun e : Int32 => [(qc, .inr (0, [.int c_n, .ref qc1, .ref qc2, .ref qc3, .ref qc4, .ref qc5])), (qc1, .inl ((xy x) 0, 40, .inl c_c)), (qc2, .inl ((xy x) 0, 40, .inl c_f)), (qc3, .inl ((xy x) 0, 40, .inl c_s)), (qc4, .inl ((xy x) 0, 40, .inl c_m)), (qc5, .inl ((xy x) 0, 40, .inl c_r))]) (fun e : Int32 => [(0, .ref qc), (1, .int p0), (3, .int e)]) 2 (fun b : (Int32) ⊕ (Int32) => (∀ e : Int32, b = .inl e → GW x 0 0 [(qc, .inr (0, [.int c_n, .ref qc1, .ref qc2, .ref qc3, .ref qc4, .ref qc5])), (qc1, .inl ((xy x) 0, 40, .inl c_c)), (qc2, .inl ((xy x) 0, 40, .inl c_f)), (qc3, .inl ((xy x) 0, 40, .inl c_s)), (qc4, .inl ((xy x) 0, 40, .inl c_m)), (qc5, .inl ((xy x) 0, 40, .inl c_r))] [(0, .ref qc)] 27 []) ∧ (∀ o' : Int32, b = .inr o' → o' = o)) (fun a r hg kn kx => bX0_nextMiss_2 x C N qc c_n qc1 c_c qc2 c_f qc3 c_s qc4 c_m qc5 c_r p0 a o r E hg kn (fun e he => (kx _ he).1 e rfl) (fun z he => (kx _ he).2 z rfl)) FU _ b_2 hb_2 ?_
  refine ⟨fun e_2 he => ?_, fun o_2 he => ?_⟩ <;> subst he
  · replace hf := k_eliml hf
    refine g_aload_n C (pc := 27) 0 dX0_nextMiss_27 rfl rfl ?_
    refine g_get C (pc := 28) lfX0_27 0 rfl rfl dX0_nextMiss_28 ?_
    cases hf
    exact g_iret C E (pc := 31) dX0_nextMiss_31 ⟨rfl, rfl⟩
  · replace hf := k_elimr hf
    exact k_some hf
set_option maxRecDepth 100000 in
theorem cX0_nextMiss_k (l : Launch) (D : va_G) (yy : Nat → ClassId) (qc : Nat) (c_n : Int32) (qc1 : Nat) (c_c : Nat → Int32) (qc2 : Nat) (c_f : Nat → Int32) (qc3 : Nat) (c_s : Nat → Int32) (qc4 : Nat) (c_m : Nat → Int32) (qc5 : Nat) (c_r : Nat → Int32) (p0 : Int32) (p1 : Int32) (o : Int32) (hf : fX0_nextMiss c_n c_c c_f p0 p1 = some o) : GMet l yX0_nextMiss cX0_nextMiss 4 (some .int) rmX0_nextMiss 0 0 D yy [.ref qc, .int p0, .int p1] [(qc, .inr (0, [.int c_n, .ref qc1, .ref qc2, .ref qc3, .ref qc4, .ref qc5])), (qc1, .inl (yy 0, 40, .inl c_c)), (qc2, .inl (yy 0, 40, .inl c_f)), (qc3, .inl (yy 0, 40, .inl c_s)), (qc4, .inl (yy 0, 40, .inl c_m)), (qc5, .inl (yy 0, 40, .inl c_r))] (fun zv zw => zv = some (.int o) ∧ zw = [(qc, .inr (0, [.int c_n, .ref qc1, .ref qc2, .ref qc3, .ref qc4, .ref qc5])), (qc1, .inl (yy 0, 40, .inl c_c)), (qc2, .inl (yy 0, 40, .inl c_f)), (qc3, .inl (yy 0, 40, .inl c_s)), (qc4, .inl (yy 0, 40, .inl c_m)), (qc5, .inl (yy 0, 40, .inl c_r))]) :=
  g_met (by decide +kernel) (Nat.le_of_ble_eq_true rfl) (fun x hl hD hy hn C E _ => by subst hD; subst hy; exact eX0_nextMiss x C hn qc c_n qc1 c_c qc2 c_f qc3 c_s qc4 c_m qc5 c_r p0 p1 o E hf)
def rmX0_allow : Room := { frames := 2, cells := 0, slots := 0, locals := 46 }
def gX0_allow_2 (c_n : Int32) (c_c : Nat → Int32) (c_f : Nat → Int32) (p0 : Int32) (a_2 : Int32) : Option ((Int32) ⊕ ((Int32) ⊕ (Int32))) :=
  if c_n ≤ a_2 then some (.inr (.inl a_2)) else gd (gi a_2 40) (if (c_f (ix a_2)) = 0 then gd (gi a_2 40) (bd (fX1_isMetBy (c_c (ix a_2)) p0) fun y_26 : Int32 => if y_26 = 0 then some (.inr (.inr (0 : Int32))) else some (.inl (a_2 + 1))) else some (.inl (a_2 + 1)))
set_option maxRecDepth 100000 in
set_option maxHeartbeats 4000000 in
theorem bX0_allow_2 (x : GX) (C : GC x cX0_allow RX0 rmX0_allow) (N : xn x = 3) (qc : Nat) (c_n : Int32) (qc1 : Nat) (c_c : Nat → Int32) (qc2 : Nat) (c_f : Nat → Int32) (qc3 : Nat) (c_s : Nat → Int32) (qc4 : Nat) (c_m : Nat → Int32) (qc5 : Nat) (c_r : Nat → Int32) (p0 : Int32) (a_2 : Int32) (o : Int32) (r : (Int32) ⊕ ((Int32) ⊕ (Int32))) (E : GE x (some .boolean) 0 0 (fun zv zw => zv = some (.int o) ∧ zw = [(qc, .inr (0, [.int c_n, .ref qc1, .ref qc2, .ref qc3, .ref qc4, .ref qc5])), (qc1, .inl ((xy x) 0, 40, .inl c_c)), (qc2, .inl ((xy x) 0, 40, .inl c_f)), (qc3, .inl ((xy x) 0, 40, .inl c_s)), (qc4, .inl ((xy x) 0, 40, .inl c_m)), (qc5, .inl ((xy x) 0, 40, .inl c_r))])) (hf : gX0_allow_2 c_n c_c c_f p0 a_2 = some r) (kn : ∀ e : Int32, r = .inl e → GW x 0 0 [(qc, .inr (0, [.int c_n, .ref qc1, .ref qc2, .ref qc3, .ref qc4, .ref qc5])), (qc1, .inl ((xy x) 0, 40, .inl c_c)), (qc2, .inl ((xy x) 0, 40, .inl c_f)), (qc3, .inl ((xy x) 0, 40, .inl c_s)), (qc4, .inl ((xy x) 0, 40, .inl c_m)), (qc5, .inl ((xy x) 0, 40, .inl c_r))] [(0, .ref qc), (1, .int p0), (2, .int e)] 2 []) (kx : ∀ e : Int32, r = .inr (.inl e) → GW x 0 0 [(qc, .inr (0, [.int c_n, .ref qc1, .ref qc2, .ref qc3, .ref qc4, .ref qc5])), (qc1, .inl ((xy x) 0, 40, .inl c_c)), (qc2, .inl ((xy x) 0, 40, .inl c_f)), (qc3, .inl ((xy x) 0, 40, .inl c_s)), (qc4, .inl ((xy x) 0, 40, .inl c_m)), (qc5, .inl ((xy x) 0, 40, .inl c_r))] [] 40 []) (kr : ∀ o' : Int32, r = .inr (.inr o') → o' = o) : GW x 0 0 [(qc, .inr (0, [.int c_n, .ref qc1, .ref qc2, .ref qc3, .ref qc4, .ref qc5])), (qc1, .inl ((xy x) 0, 40, .inl c_c)), (qc2, .inl ((xy x) 0, 40, .inl c_f)), (qc3, .inl ((xy x) 0, 40, .inl c_s)), (qc4, .inl ((xy x) 0, 40, .inl c_m)), (qc5, .inl ((xy x) 0, 40, .inl c_r))] [(0, .ref qc), (1, .int p0), (2, .int a_2)] 2 [] := by
  unfold gX0_allow_2 at hf
  refine g_iload_n C (pc := 2) 2 dX0_allow_2 rfl rfl ?_
  refine g_aload_n C (pc := 3) 0 dX0_allow_3 rfl rfl ?_
  refine g_get C (pc := 4) lfX0_27 0 rfl rfl dX0_allow_4 ?_
  refine g_icmp_ge C (pc := 7) 40 dX0_allow_7 (by decide) (fun c_7 => ?_) (fun c_7 => ?_)
  · replace hf := (k_if hf).1 c_7
    cases hf
    exact g_lo [] rfl (kx a_2 rfl)
  · replace hf := (k_if hf).2 c_7
    refine g_aload_n C (pc := 10) 0 dX0_allow_10 rfl rfl ?_
    refine g_get C (pc := 11) lfX0_15 0 rfl rfl dX0_allow_11 ?_
    refine g_iload_n C (pc := 14) 2 dX0_allow_14 rfl rfl ?_
    obtain ⟨i_15, hf⟩ := k_gd hf
    refine g_iald C (pc := 15) 2 rfl i_15 dX0_allow_15 ?_
    refine g_if_ne C (pc := 16) 34 dX0_allow_16 (by decide) (fun c_16 => ?_) (fun c_16 => ?_)
    · replace hf := (k_if hf).2 c_16
      refine g_iinc C (pc := 34) (v := a_2 + 1) (lo' := [(2, .int (a_2 + 1)), (0, .ref qc), (1, .int p0)]) 2 dX0_allow_34 rfl (congrArg (HAdd.hAdd _) ck_iinc_1) N rfl rfl ?_
      refine g_goto C (pc := 37) (tgt := 2) dX0_allow_37 (by decide) ?_
      cases hf
      exact g_lo [1, 2, 0] rfl (kn (a_2 + 1) rfl)
    · replace hf := (k_if hf).1 c_16
      refine g_aload_n C (pc := 19) 0 dX0_allow_19 rfl rfl ?_
      refine g_get C (pc := 20) lfX0_9 0 rfl rfl dX0_allow_20 ?_
      refine g_iload_n C (pc := 23) 2 dX0_allow_23 rfl rfl ?_
      obtain ⟨i_24, hf⟩ := k_gd hf
      refine g_iald C (pc := 24) 1 rfl i_24 dX0_allow_24 ?_
      refine g_iload_n C (pc := 25) 1 dX0_allow_25 rfl rfl ?_
      obtain ⟨y_26, h_26, hf⟩ := k_bd hf
      refine g_callS0 C (pc := 26) (As := [.int (c_c (ix a_2)), .int p0]) (rest := []) (v1 := (some (.int y_26))) (st' := [.int y_26]) lkX1_isMetBy lSX0_47 (cX1_isMetBy_k (xl x) (xD x) (xy x) (c_c (ix a_2)) p0 y_26 h_26) rfl ⟨⟨Nat.le_of_ble_eq_true rfl, Nat.le_of_ble_eq_true rfl⟩, ⟨rfl, rfl⟩, ⟨Nat.le_of_ble_eq_true rfl, Nat.le_of_ble_eq_true rfl⟩⟩ rfl (Nat.le_of_ble_eq_true rfl) rfl dX0_allow_26 ?_
      refine g_if_ne C (pc := 29) 34 dX0_allow_29 (by decide) (fun c_29 => ?_) (fun c_29 => ?_)
      · replace hf := (k_if hf).2 c_29
        refine g_iinc C (pc := 34) (v := a_2 + 1) (lo' := [(2, .int (a_2 + 1)), (0, .ref qc), (1, .int p0)]) 2 dX0_allow_34 rfl (congrArg (HAdd.hAdd _) ck_iinc_1) N rfl rfl ?_
        refine g_goto C (pc := 37) (tgt := 2) dX0_allow_37 (by decide) ?_
        cases hf
        exact g_lo [1, 2, 0] rfl (kn (a_2 + 1) rfl)
      · replace hf := (k_if hf).1 c_29
        refine g_iconst C (pc := 32) dX0_allow_32 ck_iconst_0 ?_
        cases hf
        have ho := kr _ rfl
        cases ho
        exact g_zret C E rfl (pc := 33) dX0_allow_33 ⟨rfl, rfl⟩
def fX0_allow (c_n : Int32) (c_c : Nat → Int32) (c_f : Nat → Int32) (p0 : Int32) : Option (Int32) :=
  bd (iter (gX0_allow_2 c_n c_c c_f p0) FU (0 : Int32)) fun b_2 : (Int32) ⊕ (Int32) => Sum.elim (fun e_2 : Int32 => some (1 : Int32)) (fun o_2 : Int32 => some o_2) b_2
set_option maxRecDepth 100000 in
set_option maxHeartbeats 4000000 in
theorem eX0_allow (x : GX) (C : GC x cX0_allow RX0 rmX0_allow) (N : xn x = 3) (qc : Nat) (c_n : Int32) (qc1 : Nat) (c_c : Nat → Int32) (qc2 : Nat) (c_f : Nat → Int32) (qc3 : Nat) (c_s : Nat → Int32) (qc4 : Nat) (c_m : Nat → Int32) (qc5 : Nat) (c_r : Nat → Int32) (p0 : Int32) (o : Int32) (E : GE x (some .boolean) 0 0 (fun zv zw => zv = some (.int o) ∧ zw = [(qc, .inr (0, [.int c_n, .ref qc1, .ref qc2, .ref qc3, .ref qc4, .ref qc5])), (qc1, .inl ((xy x) 0, 40, .inl c_c)), (qc2, .inl ((xy x) 0, 40, .inl c_f)), (qc3, .inl ((xy x) 0, 40, .inl c_s)), (qc4, .inl ((xy x) 0, 40, .inl c_m)), (qc5, .inl ((xy x) 0, 40, .inl c_r))])) (hf : fX0_allow c_n c_c c_f p0 = some o)  : GW x 0 0 [(qc, .inr (0, [.int c_n, .ref qc1, .ref qc2, .ref qc3, .ref qc4, .ref qc5])), (qc1, .inl ((xy x) 0, 40, .inl c_c)), (qc2, .inl ((xy x) 0, 40, .inl c_f)), (qc3, .inl ((xy x) 0, 40, .inl c_s)), (qc4, .inl ((xy x) 0, 40, .inl c_m)), (qc5, .inl ((xy x) 0, 40, .inl c_r))] [(0, .ref qc), (1, .int p0)] 0 [] := by
  unfold fX0_allow at hf
  refine g_iconst C (pc := 0) dX0_allow_0 ck_iconst_0 ?_
  refine g_istore_n C (pc := 1) (lo' := [(2, .int (0 : Int32)), (0, .ref qc), (1, .int p0)]) dX0_allow_1 rfl N rfl rfl ?_
  obtain ⟨b_2, hb_2, hf⟩ := k_bd hf
  refine g_lo [1, 2, 0] rfl ?_
  refine g_loop (g := (gX0_allow_2 c_n c_c c_f p0)) (fun e : Int32 => [(qc, .inr (0, [.int c_n, .ref qc1, .ref qc2, .ref qc3, .ref qc4, .ref qc5])), (qc1, .inl ((xy x) 0, 40, .inl c_c)), (qc2, .inl ((xy x) 0, 40, .inl c_f)), (qc3, .inl ((xy x) 0, 40, .inl c_s)), (qc4, .inl ((xy x) 0, 40, .inl c_m)), (qc5, .inl ((xy x) 0, 40, .inl c_r))]) (fun e : Int32 => [(0, .ref qc), (1, .int p0), (2, .int e)]) 2 (fun b : (Int32) ⊕ (Int32) => (∀ e : Int32, b = .inl e → GW x 0 0 [(qc, .inr (0, [.int c_n, .ref qc1, .ref qc2, .ref qc3, .ref qc4, .ref qc5])), (qc1, .inl ((xy x) 0, 40, .inl c_c)), (qc2, .inl ((xy x) 0, 40, .inl c_f)), (qc3, .inl ((xy x) 0, 40, .inl c_s)), (qc4, .inl ((xy x) 0, 40, .inl c_m)), (qc5, .inl ((xy x) 0, 40, .inl c_r))] [] 40 []) ∧ (∀ o' : Int32, b = .inr o' → o' = o)) (fun a r hg kn kx => bX0_allow_2 x C N qc c_n qc1 c_c qc2 c_f qc3 c_s qc4 c_m qc5 c_r p0 a o r E hg kn (fun e he => (kx _ he).1 e rfl) (fun z he => (kx _ he).2 z rfl)) FU _ b_2 hb_2 ?_
  refine ⟨fun e_2 he => ?_, fun o_2 he => ?_⟩ <;> subst he
  · replace hf := k_eliml hf
    refine g_iconst C (pc := 40) dX0_allow_40 ck_iconst_1 ?_
    cases hf
    exact g_zret C E rfl (pc := 41) dX0_allow_41 ⟨rfl, rfl⟩
  · replace hf := k_elimr hf
    exact k_some hf
set_option maxRecDepth 100000 in
theorem cX0_allow_k (l : Launch) (D : va_G) (yy : Nat → ClassId) (qc : Nat) (c_n : Int32) (qc1 : Nat) (c_c : Nat → Int32) (qc2 : Nat) (c_f : Nat → Int32) (qc3 : Nat) (c_s : Nat → Int32) (qc4 : Nat) (c_m : Nat → Int32) (qc5 : Nat) (c_r : Nat → Int32) (p0 : Int32) (o : Int32) (hf : fX0_allow c_n c_c c_f p0 = some o) : GMet l yX0_allow cX0_allow 3 (some .boolean) rmX0_allow 0 0 D yy [.ref qc, .int p0] [(qc, .inr (0, [.int c_n, .ref qc1, .ref qc2, .ref qc3, .ref qc4, .ref qc5])), (qc1, .inl (yy 0, 40, .inl c_c)), (qc2, .inl (yy 0, 40, .inl c_f)), (qc3, .inl (yy 0, 40, .inl c_s)), (qc4, .inl (yy 0, 40, .inl c_m)), (qc5, .inl (yy 0, 40, .inl c_r))] (fun zv zw => zv = some (.int o) ∧ zw = [(qc, .inr (0, [.int c_n, .ref qc1, .ref qc2, .ref qc3, .ref qc4, .ref qc5])), (qc1, .inl (yy 0, 40, .inl c_c)), (qc2, .inl (yy 0, 40, .inl c_f)), (qc3, .inl (yy 0, 40, .inl c_s)), (qc4, .inl (yy 0, 40, .inl c_m)), (qc5, .inl (yy 0, 40, .inl c_r))]) :=
  g_met (by decide +kernel) (Nat.le_of_ble_eq_true rfl) (fun x hl hD hy hn C E _ => by subst hD; subst hy; exact eX0_allow x C hn qc c_n qc1 c_c qc2 c_f qc3 c_s qc4 c_m qc5 c_r p0 o E hf)
def rmX0_findNeedless : Room := { frames := 4, cells := 0, slots := 0, locals := 91 }
def gX0_findNeedless_7 (c_n : Int32) (c_c : Nat → Int32) (c_f : Nat → Int32) (a_7 : Int64 × Int32) : Option ((Int64 × Int32) ⊕ (Int64 × Int32)) :=
  if (512 : Int32) ≤ a_7.2 then some (.inr (a_7.1, a_7.2)) else bd (fX0_nextMiss c_n c_c c_f a_7.2 (0 : Int32)) fun y_17 : Int32 => if c_n ≤ y_17 then some (.inl (a_7.1, a_7.2 + 1)) else bd (fX0_nextMiss c_n c_c c_f a_7.2 (y_17 + (1 : Int32))) fun y_37 : Int32 => if y_37 = c_n then some (.inl (a_7.1 &&& (((1 : Int64) <<< (y_17.toInt64 &&& 63)) ^^^ (-1 : Int64)), a_7.2 + 1)) else some (.inl (a_7.1, a_7.2 + 1))
set_option maxRecDepth 100000 in
set_option maxHeartbeats 4000000 in
theorem bX0_findNeedless_7 (x : GX) (C : GC x cX0_findNeedless RX0 rmX0_findNeedless) (N : xn x = 5) (qc : Nat) (c_n : Int32) (qc1 : Nat) (c_c : Nat → Int32) (qc2 : Nat) (c_f : Nat → Int32) (qc3 : Nat) (c_s : Nat → Int32) (qc4 : Nat) (c_m : Nat → Int32) (qc5 : Nat) (c_r : Nat → Int32) (a_7 : Int64 × Int32) (r : (Int64 × Int32) ⊕ (Int64 × Int32))  (hf : gX0_findNeedless_7 c_n c_c c_f a_7 = some r) (kn : ∀ e : Int64 × Int32, r = .inl e → GW x 0 0 [(qc, .inr (0, [.int c_n, .ref qc1, .ref qc2, .ref qc3, .ref qc4, .ref qc5])), (qc1, .inl ((xy x) 0, 40, .inl c_c)), (qc2, .inl ((xy x) 0, 40, .inl c_f)), (qc3, .inl ((xy x) 0, 40, .inl c_s)), (qc4, .inl ((xy x) 0, 40, .inl c_m)), (qc5, .inl ((xy x) 0, 40, .inl c_r))] [(0, .ref qc), (1, .long e.1), (3, .int e.2)] 7 []) (kx : ∀ e : Int64 × Int32, r = .inr e → GW x 0 0 [(qc, .inr (0, [.int c_n, .ref qc1, .ref qc2, .ref qc3, .ref qc4, .ref qc5])), (qc1, .inl ((xy x) 0, 40, .inl c_c)), (qc2, .inl ((xy x) 0, 40, .inl c_f)), (qc3, .inl ((xy x) 0, 40, .inl c_s)), (qc4, .inl ((xy x) 0, 40, .inl c_m)), (qc5, .inl ((xy x) 0, 40, .inl c_r))] [(1, .long e.1)] 64 []) : GW x 0 0 [(qc, .inr (0, [.int c_n, .ref qc1, .ref qc2, .ref qc3, .ref qc4, .ref qc5])), (qc1, .inl ((xy x) 0, 40, .inl c_c)), (qc2, .inl ((xy x) 0, 40, .inl c_f)), (qc3, .inl ((xy x) 0, 40, .inl c_s)), (qc4, .inl ((xy x) 0, 40, .inl c_m)), (qc5, .inl ((xy x) 0, 40, .inl c_r))] [(0, .ref qc), (1, .long a_7.1), (3, .int a_7.2)] 7 [] := by
  unfold gX0_findNeedless_7 at hf
  refine g_iload_n C (pc := 7) 2 dX0_findNeedless_7 rfl rfl ?_
  refine g_sipush C (pc := 8) dX0_findNeedless_8 ck_sipush_512 ?_
  refine g_icmp_ge C (pc := 11) 64 dX0_findNeedless_11 (by decide) (fun c_11 => ?_) (fun c_11 => ?_)
  · replace hf := (k_if hf).1 c_11
    cases hf
    exact g_lo [1] rfl (kx (a_7.1, a_7.2) rfl)
  · replace hf := (k_if hf).2 c_11
    refine g_aload_n C (pc := 14) 0 dX0_findNeedless_14 rfl rfl ?_
    refine g_iload_n C (pc := 15) 2 dX0_findNeedless_15 rfl rfl ?_
    refine g_iconst C (pc := 16) dX0_findNeedless_16 ck_iconst_0 ?_
    obtain ⟨y_17, h_17, hf⟩ := k_bd hf
    refine g_callA C (pc := 17) (b := qc) (As := [.int a_7.2, .int (0 : Int32)]) (rest := []) (v1 := (some (.int y_17))) (st' := [.int y_17]) (w1 := [(qc, .inr (0, [.int c_n, .ref qc1, .ref qc2, .ref qc3, .ref qc4, .ref qc5])), (qc1, .inl ((xy x) 0, 40, .inl c_c)), (qc2, .inl ((xy x) 0, 40, .inl c_f)), (qc3, .inl ((xy x) 0, 40, .inl c_s)), (qc4, .inl ((xy x) 0, 40, .inl c_m)), (qc5, .inl ((xy x) 0, 40, .inl c_r))]) 0 lkX0_nextMiss lVX0_56 (cX0_nextMiss_k (xl x) (xD x) (xy x) qc c_n qc1 c_c qc2 c_f qc3 c_s qc4 c_m qc5 c_r a_7.2 (0 : Int32) y_17 h_17) rfl ⟨⟨Nat.le_of_ble_eq_true rfl, Nat.le_of_ble_eq_true rfl⟩, ⟨rfl, rfl⟩, ⟨Nat.le_of_ble_eq_true rfl, Nat.le_of_ble_eq_true rfl⟩⟩ rfl rfl rfl (Nat.le_of_ble_eq_true rfl) rfl dX0_findNeedless_17 ?_
    refine g_istore C (pc := 20) (lo' := [(4, .int y_17), (0, .ref qc), (1, .long a_7.1), (3, .int a_7.2)]) dX0_findNeedless_20 N rfl rfl ?_
    refine g_iload C (pc := 22) 0 dX0_findNeedless_22 rfl ?_
    refine g_aload_n C (pc := 24) 1 dX0_findNeedless_24 rfl rfl ?_
    refine g_get C (pc := 25) lfX0_27 0 rfl rfl dX0_findNeedless_25 ?_
    refine g_icmp_ge C (pc := 28) 58 dX0_findNeedless_28 (by decide) (fun c_28 => ?_) (fun c_28 => ?_)
    · replace hf := (k_if hf).1 c_28
      refine g_iinc C (pc := 58) (v := a_7.2 + 1) (lo' := [(3, .int (a_7.2 + 1)), (4, .int y_17), (0, .ref qc), (1, .long a_7.1)]) 3 dX0_findNeedless_58 rfl (congrArg (HAdd.hAdd _) ck_iinc_1) N rfl rfl ?_
      refine g_goto C (pc := 61) (tgt := 7) dX0_findNeedless_61 (by decide) ?_
      cases hf
      exact g_lo [2, 3, 0] rfl (kn (a_7.1, a_7.2 + 1) rfl)
    · replace hf := (k_if hf).2 c_28
      refine g_aload_n C (pc := 31) 1 dX0_findNeedless_31 rfl rfl ?_
      refine g_iload_n C (pc := 32) 3 dX0_findNeedless_32 rfl rfl ?_
      refine g_iload C (pc := 33) 0 dX0_findNeedless_33 rfl ?_
      refine g_iconst C (pc := 35) dX0_findNeedless_35 ck_iconst_1 ?_
      refine g_iadd C (pc := 36) dX0_findNeedless_36 ?_
      obtain ⟨y_37, h_37, hf⟩ := k_bd hf
      refine g_callA C (pc := 37) (b := qc) (As := [.int a_7.2, .int (y_17 + (1 : Int32))]) (rest := []) (v1 := (some (.int y_37))) (st' := [.int y_37]) (w1 := [(qc, .inr (0, [.int c_n, .ref qc1, .ref qc2, .ref qc3, .ref qc4, .ref qc5])), (qc1, .inl ((xy x) 0, 40, .inl c_c)), (qc2, .inl ((xy x) 0, 40, .inl c_f)), (qc3, .inl ((xy x) 0, 40, .inl c_s)), (qc4, .inl ((xy x) 0, 40, .inl c_m)), (qc5, .inl ((xy x) 0, 40, .inl c_r))]) 0 lkX0_nextMiss lVX0_56 (cX0_nextMiss_k (xl x) (xD x) (xy x) qc c_n qc1 c_c qc2 c_f qc3 c_s qc4 c_m qc5 c_r a_7.2 (y_17 + (1 : Int32)) y_37 h_37) rfl ⟨⟨Nat.le_of_ble_eq_true rfl, Nat.le_of_ble_eq_true rfl⟩, ⟨rfl, rfl⟩, ⟨Nat.le_of_ble_eq_true rfl, Nat.le_of_ble_eq_true rfl⟩⟩ rfl rfl rfl (Nat.le_of_ble_eq_true rfl) rfl dX0_findNeedless_37 ?_
      refine g_aload_n C (pc := 40) 1 dX0_findNeedless_40 rfl rfl ?_
      refine g_get C (pc := 41) lfX0_27 0 rfl rfl dX0_findNeedless_41 ?_
      refine g_icmp_ne C (pc := 44) 58 dX0_findNeedless_44 (by decide) (fun c_44 => ?_) (fun c_44 => ?_)
      · replace hf := (k_if hf).2 c_44
        refine g_iinc C (pc := 58) (v := a_7.2 + 1) (lo' := [(3, .int (a_7.2 + 1)), (4, .int y_17), (0, .ref qc), (1, .long a_7.1)]) 3 dX0_findNeedless_58 rfl (congrArg (HAdd.hAdd _) ck_iinc_1) N rfl rfl ?_
        refine g_goto C (pc := 61) (tgt := 7) dX0_findNeedless_61 (by decide) ?_
        cases hf
        exact g_lo [2, 3, 0] rfl (kn (a_7.1, a_7.2 + 1) rfl)
      · replace hf := (k_if hf).1 c_44
        refine g_lload_n C (pc := 47) 2 dX0_findNeedless_47 rfl rfl ?_
        refine g_lconst C (pc := 48) (v := 1) dX0_findNeedless_48 rfl ?_
        refine g_iload C (pc := 49) 0 dX0_findNeedless_49 rfl ?_
        refine g_lshl C (pc := 51) dX0_findNeedless_51 ?_
        refine g_ldc2 C (pc := 52) lcX0_60 dX0_findNeedless_52 ?_
        refine g_lxor C (pc := 55) dX0_findNeedless_55 ?_
        refine g_land C (pc := 56) dX0_findNeedless_56 ?_
        refine g_lstore_n C (pc := 57) (lo' := [(1, .long (a_7.1 &&& (((1 : Int64) <<< (y_17.toInt64 &&& 63)) ^^^ (-1 : Int64)))), (4, .int y_17), (0, .ref qc), (3, .int a_7.2)]) dX0_findNeedless_57 rfl N rfl rfl ?_
        refine g_iinc C (pc := 58) (v := a_7.2 + 1) (lo' := [(3, .int (a_7.2 + 1)), (1, .long (a_7.1 &&& (((1 : Int64) <<< (y_17.toInt64 &&& 63)) ^^^ (-1 : Int64)))), (4, .int y_17), (0, .ref qc)]) 3 dX0_findNeedless_58 rfl (congrArg (HAdd.hAdd _) ck_iinc_1) N rfl rfl ?_
        refine g_goto C (pc := 61) (tgt := 7) dX0_findNeedless_61 (by decide) ?_
        cases hf
        exact g_lo [3, 1, 0] rfl (kn (a_7.1 &&& (((1 : Int64) <<< (y_17.toInt64 &&& 63)) ^^^ (-1 : Int64)), a_7.2 + 1) rfl)
def fX0_findNeedless (c_n : Int32) (c_c : Nat → Int32) (c_f : Nat → Int32) : Option (Int64) :=
  bd (fX0_findStanding c_n c_f) fun y_1 : Int64 => bd (iter (gX0_findNeedless_7 c_n c_c c_f) FU (y_1, (0 : Int32))) fun b_7 : Int64 × Int32 => some b_7.1
set_option maxRecDepth 100000 in
set_option maxHeartbeats 4000000 in
theorem eX0_findNeedless (x : GX) (C : GC x cX0_findNeedless RX0 rmX0_findNeedless) (N : xn x = 5) (qc : Nat) (c_n : Int32) (qc1 : Nat) (c_c : Nat → Int32) (qc2 : Nat) (c_f : Nat → Int32) (qc3 : Nat) (c_s : Nat → Int32) (qc4 : Nat) (c_m : Nat → Int32) (qc5 : Nat) (c_r : Nat → Int32) (o : Int64) (E : GE x (some .long) 0 0 (fun zv zw => zv = some (.long o) ∧ zw = [(qc, .inr (0, [.int c_n, .ref qc1, .ref qc2, .ref qc3, .ref qc4, .ref qc5])), (qc1, .inl ((xy x) 0, 40, .inl c_c)), (qc2, .inl ((xy x) 0, 40, .inl c_f)), (qc3, .inl ((xy x) 0, 40, .inl c_s)), (qc4, .inl ((xy x) 0, 40, .inl c_m)), (qc5, .inl ((xy x) 0, 40, .inl c_r))])) (hf : fX0_findNeedless c_n c_c c_f = some o)  : GW x 0 0 [(qc, .inr (0, [.int c_n, .ref qc1, .ref qc2, .ref qc3, .ref qc4, .ref qc5])), (qc1, .inl ((xy x) 0, 40, .inl c_c)), (qc2, .inl ((xy x) 0, 40, .inl c_f)), (qc3, .inl ((xy x) 0, 40, .inl c_s)), (qc4, .inl ((xy x) 0, 40, .inl c_m)), (qc5, .inl ((xy x) 0, 40, .inl c_r))] [(0, .ref qc)] 0 [] := by
  unfold fX0_findNeedless at hf
  refine g_aload_n C (pc := 0) 0 dX0_findNeedless_0 rfl rfl ?_
  obtain ⟨y_1, h_1, hf⟩ := k_bd hf
  refine g_callA C (pc := 1) (b := qc) (As := []) (rest := []) (v1 := (some (.long y_1))) (st' := [.long y_1]) (w1 := [(qc, .inr (0, [.int c_n, .ref qc1, .ref qc2, .ref qc3, .ref qc4, .ref qc5])), (qc1, .inl ((xy x) 0, 40, .inl c_c)), (qc2, .inl ((xy x) 0, 40, .inl c_f)), (qc3, .inl ((xy x) 0, 40, .inl c_s)), (qc4, .inl ((xy x) 0, 40, .inl c_m)), (qc5, .inl ((xy x) 0, 40, .inl c_r))]) 0 lkX0_findStanding lVX0_37 (cX0_findStanding_k (xl x) (xD x) (xy x) qc c_n qc1 c_c qc2 c_f qc3 c_s qc4 c_m qc5 c_r y_1 h_1) rfl ⟨⟨Nat.le_of_ble_eq_true rfl, Nat.le_of_ble_eq_true rfl⟩, ⟨rfl, rfl⟩, ⟨Nat.le_of_ble_eq_true rfl, Nat.le_of_ble_eq_true rfl⟩⟩ rfl rfl rfl (Nat.le_of_ble_eq_true rfl) rfl dX0_findNeedless_1 ?_
  refine g_lstore_n C (pc := 4) (lo' := [(1, .long y_1), (0, .ref qc)]) dX0_findNeedless_4 rfl N rfl rfl ?_
  refine g_iconst C (pc := 5) dX0_findNeedless_5 ck_iconst_0 ?_
  refine g_istore_n C (pc := 6) (lo' := [(3, .int (0 : Int32)), (1, .long y_1), (0, .ref qc)]) dX0_findNeedless_6 rfl N rfl rfl ?_
  obtain ⟨b_7, hb_7, hf⟩ := k_bd hf
  refine g_lo [2, 1, 0] rfl ?_
  refine g_loop (g := (gX0_findNeedless_7 c_n c_c c_f)) (fun e : Int64 × Int32 => [(qc, .inr (0, [.int c_n, .ref qc1, .ref qc2, .ref qc3, .ref qc4, .ref qc5])), (qc1, .inl ((xy x) 0, 40, .inl c_c)), (qc2, .inl ((xy x) 0, 40, .inl c_f)), (qc3, .inl ((xy x) 0, 40, .inl c_s)), (qc4, .inl ((xy x) 0, 40, .inl c_m)), (qc5, .inl ((xy x) 0, 40, .inl c_r))]) (fun e : Int64 × Int32 => [(0, .ref qc), (1, .long e.1), (3, .int e.2)]) 7 (fun e : Int64 × Int32 => GW x 0 0 [(qc, .inr (0, [.int c_n, .ref qc1, .ref qc2, .ref qc3, .ref qc4, .ref qc5])), (qc1, .inl ((xy x) 0, 40, .inl c_c)), (qc2, .inl ((xy x) 0, 40, .inl c_f)), (qc3, .inl ((xy x) 0, 40, .inl c_s)), (qc4, .inl ((xy x) 0, 40, .inl c_m)), (qc5, .inl ((xy x) 0, 40, .inl c_r))] [(1, .long e.1)] 64 []) (fun a r hg kn kx => bX0_findNeedless_7 x C N qc c_n qc1 c_c qc2 c_f qc3 c_s qc4 c_m qc5 c_r a r hg kn kx) FU _ b_7 hb_7 ?_
  refine g_lload_n C (pc := 64) 0 dX0_findNeedless_64 rfl rfl ?_
  cases hf
  exact g_lret C E (pc := 65) dX0_findNeedless_65 ⟨rfl, rfl⟩
set_option maxRecDepth 100000 in
theorem cX0_findNeedless_k (l : Launch) (D : va_G) (yy : Nat → ClassId) (qc : Nat) (c_n : Int32) (qc1 : Nat) (c_c : Nat → Int32) (qc2 : Nat) (c_f : Nat → Int32) (qc3 : Nat) (c_s : Nat → Int32) (qc4 : Nat) (c_m : Nat → Int32) (qc5 : Nat) (c_r : Nat → Int32) (o : Int64) (hf : fX0_findNeedless c_n c_c c_f = some o) : GMet l yX0_findNeedless cX0_findNeedless 5 (some .long) rmX0_findNeedless 0 0 D yy [.ref qc] [(qc, .inr (0, [.int c_n, .ref qc1, .ref qc2, .ref qc3, .ref qc4, .ref qc5])), (qc1, .inl (yy 0, 40, .inl c_c)), (qc2, .inl (yy 0, 40, .inl c_f)), (qc3, .inl (yy 0, 40, .inl c_s)), (qc4, .inl (yy 0, 40, .inl c_m)), (qc5, .inl (yy 0, 40, .inl c_r))] (fun zv zw => zv = some (.long o) ∧ zw = [(qc, .inr (0, [.int c_n, .ref qc1, .ref qc2, .ref qc3, .ref qc4, .ref qc5])), (qc1, .inl (yy 0, 40, .inl c_c)), (qc2, .inl (yy 0, 40, .inl c_f)), (qc3, .inl (yy 0, 40, .inl c_s)), (qc4, .inl (yy 0, 40, .inl c_m)), (qc5, .inl (yy 0, 40, .inl c_r))]) :=
  g_met (by decide +kernel) (Nat.le_of_ble_eq_true rfl) (fun x hl hD hy hn C E _ => by subst hD; subst hy; exact eX0_findNeedless x C hn qc c_n qc1 c_c qc2 c_f qc3 c_s qc4 c_m qc5 c_r o E hf)
def rmX0_copyFrom : Room := { frames := 1, cells := 0, slots := 0, locals := 26 }
def fX0_copyFrom (c_c : Nat → Int32) (c_f : Nat → Int32) (c_s : Nat → Int32) (c_m : Nat → Int32) (c_r : Nat → Int32) (oc_n : Int32) (oc_c : Nat → Int32) (oc_f : Nat → Int32) (oc_s : Nat → Int32) (oc_m : Nat → Int32) (oc_r : Nat → Int32) : Option (Int32 × (Nat → Int32) × (Nat → Int32) × (Nat → Int32) × (Nat → Int32) × (Nat → Int32)) :=
  gd (gcp (0 : Int32) (0 : Int32) (40 : Int32) 40 40) (gd (gcp (0 : Int32) (0 : Int32) (40 : Int32) 40 40) (gd (gcp (0 : Int32) (0 : Int32) (40 : Int32) 40 40) (gd (gcp (0 : Int32) (0 : Int32) (40 : Int32) 40 40) (gd (gcp (0 : Int32) (0 : Int32) (40 : Int32) 40 40) (some (oc_n, va_cpy oc_c c_c (ix (0 : Int32)) (ix (0 : Int32)) (ix (40 : Int32)), va_cpy oc_f c_f (ix (0 : Int32)) (ix (0 : Int32)) (ix (40 : Int32)), va_cpy oc_s c_s (ix (0 : Int32)) (ix (0 : Int32)) (ix (40 : Int32)), va_cpy oc_m c_m (ix (0 : Int32)) (ix (0 : Int32)) (ix (40 : Int32)), va_cpy oc_r c_r (ix (0 : Int32)) (ix (0 : Int32)) (ix (40 : Int32))))))))
set_option maxRecDepth 100000 in
set_option maxHeartbeats 4000000 in
theorem eX0_copyFrom (x : GX) (C : GC x cX0_copyFrom RX0 rmX0_copyFrom) (N : xn x = 2) (qc : Nat) (c_n : Int32) (qc1 : Nat) (c_c : Nat → Int32) (qc2 : Nat) (c_f : Nat → Int32) (qc3 : Nat) (c_s : Nat → Int32) (qc4 : Nat) (c_m : Nat → Int32) (qc5 : Nat) (c_r : Nat → Int32) (oqc : Nat) (oc_n : Int32) (oqc1 : Nat) (oc_c : Nat → Int32) (oqc2 : Nat) (oc_f : Nat → Int32) (oqc3 : Nat) (oc_s : Nat → Int32) (oqc4 : Nat) (oc_m : Nat → Int32) (oqc5 : Nat) (oc_r : Nat → Int32) (o : Int32 × (Nat → Int32) × (Nat → Int32) × (Nat → Int32) × (Nat → Int32) × (Nat → Int32)) (E : GE x none 0 0 (fun zv zw => zv = none ∧ zw = [(qc, .inr (0, [.int o.1, .ref qc1, .ref qc2, .ref qc3, .ref qc4, .ref qc5])), (qc1, .inl ((xy x) 0, 40, .inl o.2.1)), (qc2, .inl ((xy x) 0, 40, .inl o.2.2.1)), (qc3, .inl ((xy x) 0, 40, .inl o.2.2.2.1)), (qc4, .inl ((xy x) 0, 40, .inl o.2.2.2.2.1)), (qc5, .inl ((xy x) 0, 40, .inl o.2.2.2.2.2)), (oqc, .inr (0, [.int oc_n, .ref oqc1, .ref oqc2, .ref oqc3, .ref oqc4, .ref oqc5])), (oqc1, .inl ((xy x) 0, 40, .inl oc_c)), (oqc2, .inl ((xy x) 0, 40, .inl oc_f)), (oqc3, .inl ((xy x) 0, 40, .inl oc_s)), (oqc4, .inl ((xy x) 0, 40, .inl oc_m)), (oqc5, .inl ((xy x) 0, 40, .inl oc_r))])) (hf : fX0_copyFrom c_c c_f c_s c_m c_r oc_n oc_c oc_f oc_s oc_m oc_r = some o)  : GW x 0 0 [(qc, .inr (0, [.int c_n, .ref qc1, .ref qc2, .ref qc3, .ref qc4, .ref qc5])), (qc1, .inl ((xy x) 0, 40, .inl c_c)), (qc2, .inl ((xy x) 0, 40, .inl c_f)), (qc3, .inl ((xy x) 0, 40, .inl c_s)), (qc4, .inl ((xy x) 0, 40, .inl c_m)), (qc5, .inl ((xy x) 0, 40, .inl c_r)), (oqc, .inr (0, [.int oc_n, .ref oqc1, .ref oqc2, .ref oqc3, .ref oqc4, .ref oqc5])), (oqc1, .inl ((xy x) 0, 40, .inl oc_c)), (oqc2, .inl ((xy x) 0, 40, .inl oc_f)), (oqc3, .inl ((xy x) 0, 40, .inl oc_s)), (oqc4, .inl ((xy x) 0, 40, .inl oc_m)), (oqc5, .inl ((xy x) 0, 40, .inl oc_r))] [(0, .ref qc), (1, .ref oqc)] 0 [] := by
  unfold fX0_copyFrom at hf
  refine g_aload_n C (pc := 0) 0 dX0_copyFrom_0 rfl rfl ?_
  refine g_aload_n C (pc := 1) 1 dX0_copyFrom_1 rfl rfl ?_
  refine g_get C (pc := 2) lfX0_27 6 rfl rfl dX0_copyFrom_2 ?_
  refine g_put C (pc := 5) (ws' := [(qc, .inr (0, [.int oc_n, .ref qc1, .ref qc2, .ref qc3, .ref qc4, .ref qc5])), (qc1, .inl ((xy x) 0, 40, .inl c_c)), (qc2, .inl ((xy x) 0, 40, .inl c_f)), (qc3, .inl ((xy x) 0, 40, .inl c_s)), (qc4, .inl ((xy x) 0, 40, .inl c_m)), (qc5, .inl ((xy x) 0, 40, .inl c_r)), (oqc, .inr (0, [.int oc_n, .ref oqc1, .ref oqc2, .ref oqc3, .ref oqc4, .ref oqc5])), (oqc1, .inl ((xy x) 0, 40, .inl oc_c)), (oqc2, .inl ((xy x) 0, 40, .inl oc_f)), (oqc3, .inl ((xy x) 0, 40, .inl oc_s)), (oqc4, .inl ((xy x) 0, 40, .inl oc_m)), (oqc5, .inl ((xy x) 0, 40, .inl oc_r))]) lpX0_27 0 rfl rfl rfl rfl (Nat.le_of_ble_eq_true rfl) rfl dX0_copyFrom_5 ?_
  refine g_aload_n C (pc := 8) 1 dX0_copyFrom_8 rfl rfl ?_
  refine g_get C (pc := 9) lfX0_9 6 rfl rfl dX0_copyFrom_9 ?_
  refine g_iconst C (pc := 12) dX0_copyFrom_12 ck_iconst_0 ?_
  refine g_aload_n C (pc := 13) 0 dX0_copyFrom_13 rfl rfl ?_
  refine g_get C (pc := 14) lfX0_9 0 rfl rfl dX0_copyFrom_14 ?_
  refine g_iconst C (pc := 17) dX0_copyFrom_17 ck_iconst_0 ?_
  refine g_bipush C (pc := 18) dX0_copyFrom_18 ck_bipush_40 ?_
  obtain ⟨i_20, hf⟩ := k_gd hf
  refine g_cpyi C (pc := 20) (ws' := [(qc, .inr (0, [.int oc_n, .ref qc1, .ref qc2, .ref qc3, .ref qc4, .ref qc5])), (qc1, .inl ((xy x) 0, 40, .inl (va_cpy oc_c c_c (ix (0 : Int32)) (ix (0 : Int32)) (ix (40 : Int32))))), (qc2, .inl ((xy x) 0, 40, .inl c_f)), (qc3, .inl ((xy x) 0, 40, .inl c_s)), (qc4, .inl ((xy x) 0, 40, .inl c_m)), (qc5, .inl ((xy x) 0, 40, .inl c_r)), (oqc, .inr (0, [.int oc_n, .ref oqc1, .ref oqc2, .ref oqc3, .ref oqc4, .ref oqc5])), (oqc1, .inl ((xy x) 0, 40, .inl oc_c)), (oqc2, .inl ((xy x) 0, 40, .inl oc_f)), (oqc3, .inl ((xy x) 0, 40, .inl oc_s)), (oqc4, .inl ((xy x) 0, 40, .inl oc_m)), (oqc5, .inl ((xy x) 0, 40, .inl oc_r))]) 7 1 lAX0_31 rfl rfl i_20 rfl (Nat.le_of_ble_eq_true rfl) (Nat.le_of_ble_eq_true rfl) dX0_copyFrom_20 ?_
  refine g_aload_n C (pc := 23) 1 dX0_copyFrom_23 rfl rfl ?_
  refine g_get C (pc := 24) lfX0_15 6 rfl rfl dX0_copyFrom_24 ?_
  refine g_iconst C (pc := 27) dX0_copyFrom_27 ck_iconst_0 ?_
  refine g_aload_n C (pc := 28) 0 dX0_copyFrom_28 rfl rfl ?_
  refine g_get C (pc := 29) lfX0_15 0 rfl rfl dX0_copyFrom_29 ?_
  refine g_iconst C (pc := 32) dX0_copyFrom_32 ck_iconst_0 ?_
  refine g_bipush C (pc := 33) dX0_copyFrom_33 ck_bipush_40 ?_
  obtain ⟨i_35, hf⟩ := k_gd hf
  refine g_cpyi C (pc := 35) (ws' := [(qc, .inr (0, [.int oc_n, .ref qc1, .ref qc2, .ref qc3, .ref qc4, .ref qc5])), (qc1, .inl ((xy x) 0, 40, .inl (va_cpy oc_c c_c (ix (0 : Int32)) (ix (0 : Int32)) (ix (40 : Int32))))), (qc2, .inl ((xy x) 0, 40, .inl (va_cpy oc_f c_f (ix (0 : Int32)) (ix (0 : Int32)) (ix (40 : Int32))))), (qc3, .inl ((xy x) 0, 40, .inl c_s)), (qc4, .inl ((xy x) 0, 40, .inl c_m)), (qc5, .inl ((xy x) 0, 40, .inl c_r)), (oqc, .inr (0, [.int oc_n, .ref oqc1, .ref oqc2, .ref oqc3, .ref oqc4, .ref oqc5])), (oqc1, .inl ((xy x) 0, 40, .inl oc_c)), (oqc2, .inl ((xy x) 0, 40, .inl oc_f)), (oqc3, .inl ((xy x) 0, 40, .inl oc_s)), (oqc4, .inl ((xy x) 0, 40, .inl oc_m)), (oqc5, .inl ((xy x) 0, 40, .inl oc_r))]) 8 2 lAX0_31 rfl rfl i_35 rfl (Nat.le_of_ble_eq_true rfl) (Nat.le_of_ble_eq_true rfl) dX0_copyFrom_35 ?_
  refine g_aload_n C (pc := 38) 1 dX0_copyFrom_38 rfl rfl ?_
  refine g_get C (pc := 39) lfX0_18 6 rfl rfl dX0_copyFrom_39 ?_
  refine g_iconst C (pc := 42) dX0_copyFrom_42 ck_iconst_0 ?_
  refine g_aload_n C (pc := 43) 0 dX0_copyFrom_43 rfl rfl ?_
  refine g_get C (pc := 44) lfX0_18 0 rfl rfl dX0_copyFrom_44 ?_
  refine g_iconst C (pc := 47) dX0_copyFrom_47 ck_iconst_0 ?_
  refine g_bipush C (pc := 48) dX0_copyFrom_48 ck_bipush_40 ?_
  obtain ⟨i_50, hf⟩ := k_gd hf
  refine g_cpyi C (pc := 50) (ws' := [(qc, .inr (0, [.int oc_n, .ref qc1, .ref qc2, .ref qc3, .ref qc4, .ref qc5])), (qc1, .inl ((xy x) 0, 40, .inl (va_cpy oc_c c_c (ix (0 : Int32)) (ix (0 : Int32)) (ix (40 : Int32))))), (qc2, .inl ((xy x) 0, 40, .inl (va_cpy oc_f c_f (ix (0 : Int32)) (ix (0 : Int32)) (ix (40 : Int32))))), (qc3, .inl ((xy x) 0, 40, .inl (va_cpy oc_s c_s (ix (0 : Int32)) (ix (0 : Int32)) (ix (40 : Int32))))), (qc4, .inl ((xy x) 0, 40, .inl c_m)), (qc5, .inl ((xy x) 0, 40, .inl c_r)), (oqc, .inr (0, [.int oc_n, .ref oqc1, .ref oqc2, .ref oqc3, .ref oqc4, .ref oqc5])), (oqc1, .inl ((xy x) 0, 40, .inl oc_c)), (oqc2, .inl ((xy x) 0, 40, .inl oc_f)), (oqc3, .inl ((xy x) 0, 40, .inl oc_s)), (oqc4, .inl ((xy x) 0, 40, .inl oc_m)), (oqc5, .inl ((xy x) 0, 40, .inl oc_r))]) 9 3 lAX0_31 rfl rfl i_50 rfl (Nat.le_of_ble_eq_true rfl) (Nat.le_of_ble_eq_true rfl) dX0_copyFrom_50 ?_
  refine g_aload_n C (pc := 53) 1 dX0_copyFrom_53 rfl rfl ?_
  refine g_get C (pc := 54) lfX0_21 6 rfl rfl dX0_copyFrom_54 ?_
  refine g_iconst C (pc := 57) dX0_copyFrom_57 ck_iconst_0 ?_
  refine g_aload_n C (pc := 58) 0 dX0_copyFrom_58 rfl rfl ?_
  refine g_get C (pc := 59) lfX0_21 0 rfl rfl dX0_copyFrom_59 ?_
  refine g_iconst C (pc := 62) dX0_copyFrom_62 ck_iconst_0 ?_
  refine g_bipush C (pc := 63) dX0_copyFrom_63 ck_bipush_40 ?_
  obtain ⟨i_65, hf⟩ := k_gd hf
  refine g_cpyi C (pc := 65) (ws' := [(qc, .inr (0, [.int oc_n, .ref qc1, .ref qc2, .ref qc3, .ref qc4, .ref qc5])), (qc1, .inl ((xy x) 0, 40, .inl (va_cpy oc_c c_c (ix (0 : Int32)) (ix (0 : Int32)) (ix (40 : Int32))))), (qc2, .inl ((xy x) 0, 40, .inl (va_cpy oc_f c_f (ix (0 : Int32)) (ix (0 : Int32)) (ix (40 : Int32))))), (qc3, .inl ((xy x) 0, 40, .inl (va_cpy oc_s c_s (ix (0 : Int32)) (ix (0 : Int32)) (ix (40 : Int32))))), (qc4, .inl ((xy x) 0, 40, .inl (va_cpy oc_m c_m (ix (0 : Int32)) (ix (0 : Int32)) (ix (40 : Int32))))), (qc5, .inl ((xy x) 0, 40, .inl c_r)), (oqc, .inr (0, [.int oc_n, .ref oqc1, .ref oqc2, .ref oqc3, .ref oqc4, .ref oqc5])), (oqc1, .inl ((xy x) 0, 40, .inl oc_c)), (oqc2, .inl ((xy x) 0, 40, .inl oc_f)), (oqc3, .inl ((xy x) 0, 40, .inl oc_s)), (oqc4, .inl ((xy x) 0, 40, .inl oc_m)), (oqc5, .inl ((xy x) 0, 40, .inl oc_r))]) 10 4 lAX0_31 rfl rfl i_65 rfl (Nat.le_of_ble_eq_true rfl) (Nat.le_of_ble_eq_true rfl) dX0_copyFrom_65 ?_
  refine g_aload_n C (pc := 68) 1 dX0_copyFrom_68 rfl rfl ?_
  refine g_get C (pc := 69) lfX0_24 6 rfl rfl dX0_copyFrom_69 ?_
  refine g_iconst C (pc := 72) dX0_copyFrom_72 ck_iconst_0 ?_
  refine g_aload_n C (pc := 73) 0 dX0_copyFrom_73 rfl rfl ?_
  refine g_get C (pc := 74) lfX0_24 0 rfl rfl dX0_copyFrom_74 ?_
  refine g_iconst C (pc := 77) dX0_copyFrom_77 ck_iconst_0 ?_
  refine g_bipush C (pc := 78) dX0_copyFrom_78 ck_bipush_40 ?_
  obtain ⟨i_80, hf⟩ := k_gd hf
  refine g_cpyi C (pc := 80) (ws' := [(qc, .inr (0, [.int oc_n, .ref qc1, .ref qc2, .ref qc3, .ref qc4, .ref qc5])), (qc1, .inl ((xy x) 0, 40, .inl (va_cpy oc_c c_c (ix (0 : Int32)) (ix (0 : Int32)) (ix (40 : Int32))))), (qc2, .inl ((xy x) 0, 40, .inl (va_cpy oc_f c_f (ix (0 : Int32)) (ix (0 : Int32)) (ix (40 : Int32))))), (qc3, .inl ((xy x) 0, 40, .inl (va_cpy oc_s c_s (ix (0 : Int32)) (ix (0 : Int32)) (ix (40 : Int32))))), (qc4, .inl ((xy x) 0, 40, .inl (va_cpy oc_m c_m (ix (0 : Int32)) (ix (0 : Int32)) (ix (40 : Int32))))), (qc5, .inl ((xy x) 0, 40, .inl (va_cpy oc_r c_r (ix (0 : Int32)) (ix (0 : Int32)) (ix (40 : Int32))))), (oqc, .inr (0, [.int oc_n, .ref oqc1, .ref oqc2, .ref oqc3, .ref oqc4, .ref oqc5])), (oqc1, .inl ((xy x) 0, 40, .inl oc_c)), (oqc2, .inl ((xy x) 0, 40, .inl oc_f)), (oqc3, .inl ((xy x) 0, 40, .inl oc_s)), (oqc4, .inl ((xy x) 0, 40, .inl oc_m)), (oqc5, .inl ((xy x) 0, 40, .inl oc_r))]) 11 5 lAX0_31 rfl rfl i_80 rfl (Nat.le_of_ble_eq_true rfl) (Nat.le_of_ble_eq_true rfl) dX0_copyFrom_80 ?_
  cases hf
  exact g_vret C E (pc := 83) dX0_copyFrom_83 ⟨rfl, rfl⟩
set_option maxRecDepth 100000 in
theorem cX0_copyFrom_k (l : Launch) (D : va_G) (yy : Nat → ClassId) (qc : Nat) (c_n : Int32) (qc1 : Nat) (c_c : Nat → Int32) (qc2 : Nat) (c_f : Nat → Int32) (qc3 : Nat) (c_s : Nat → Int32) (qc4 : Nat) (c_m : Nat → Int32) (qc5 : Nat) (c_r : Nat → Int32) (oqc : Nat) (oc_n : Int32) (oqc1 : Nat) (oc_c : Nat → Int32) (oqc2 : Nat) (oc_f : Nat → Int32) (oqc3 : Nat) (oc_s : Nat → Int32) (oqc4 : Nat) (oc_m : Nat → Int32) (oqc5 : Nat) (oc_r : Nat → Int32) (o : Int32 × (Nat → Int32) × (Nat → Int32) × (Nat → Int32) × (Nat → Int32) × (Nat → Int32)) (hf : fX0_copyFrom c_c c_f c_s c_m c_r oc_n oc_c oc_f oc_s oc_m oc_r = some o) : GMet l yX0_copyFrom cX0_copyFrom 2 none rmX0_copyFrom 0 0 D yy [.ref qc, .ref oqc] [(qc, .inr (0, [.int c_n, .ref qc1, .ref qc2, .ref qc3, .ref qc4, .ref qc5])), (qc1, .inl (yy 0, 40, .inl c_c)), (qc2, .inl (yy 0, 40, .inl c_f)), (qc3, .inl (yy 0, 40, .inl c_s)), (qc4, .inl (yy 0, 40, .inl c_m)), (qc5, .inl (yy 0, 40, .inl c_r)), (oqc, .inr (0, [.int oc_n, .ref oqc1, .ref oqc2, .ref oqc3, .ref oqc4, .ref oqc5])), (oqc1, .inl (yy 0, 40, .inl oc_c)), (oqc2, .inl (yy 0, 40, .inl oc_f)), (oqc3, .inl (yy 0, 40, .inl oc_s)), (oqc4, .inl (yy 0, 40, .inl oc_m)), (oqc5, .inl (yy 0, 40, .inl oc_r))] (fun zv zw => zv = none ∧ zw = [(qc, .inr (0, [.int o.1, .ref qc1, .ref qc2, .ref qc3, .ref qc4, .ref qc5])), (qc1, .inl (yy 0, 40, .inl o.2.1)), (qc2, .inl (yy 0, 40, .inl o.2.2.1)), (qc3, .inl (yy 0, 40, .inl o.2.2.2.1)), (qc4, .inl (yy 0, 40, .inl o.2.2.2.2.1)), (qc5, .inl (yy 0, 40, .inl o.2.2.2.2.2)), (oqc, .inr (0, [.int oc_n, .ref oqc1, .ref oqc2, .ref oqc3, .ref oqc4, .ref oqc5])), (oqc1, .inl (yy 0, 40, .inl oc_c)), (oqc2, .inl (yy 0, 40, .inl oc_f)), (oqc3, .inl (yy 0, 40, .inl oc_s)), (oqc4, .inl (yy 0, 40, .inl oc_m)), (oqc5, .inl (yy 0, 40, .inl oc_r))]) :=
  g_met (by decide +kernel) (Nat.le_of_ble_eq_true rfl) (fun x hl hD hy hn C E _ => by subst hD; subst hy; exact eX0_copyFrom x C hn qc c_n qc1 c_c qc2 c_f qc3 c_s qc4 c_m qc5 c_r oqc oc_n oqc1 oc_c oqc2 oc_f oqc3 oc_s oqc4 oc_m oqc5 oc_r o E hf)
