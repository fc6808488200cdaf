def rmX4_signAt : Room := { frames := 0, cells := 0, slots := 0, locals := 0 }
def fX4_signAt (p_n : Int32) (p_s : Nat → Int32) (p0 : Int32) : Option (Int32) :=
  if p0 < 0 then some (0 : Int32) else if p_n ≤ p0 then some (0 : Int32) else gd (gi p0 80) (some (p_s (ix p0)))
set_option maxRecDepth 100000 in
set_option maxHeartbeats 4000000 in
theorem eX4_signAt (x : GX) (C : GC x cX4_signAt RX4 rmX4_signAt) (N : xn x = 2) (qp : Nat) (p_n : Int32) (qp1 : Nat) (p_s : Nat → Int32) (p0 : Int32) (o : Int32) (E : GE x (some .int) 0 0 (fun zv zw => zv = some (.int o) ∧ zw = [(qp, .inr (3, [.int p_n, .ref qp1])), (qp1, .inl ((xy x) 3, 80, .inl p_s))])) (hf : fX4_signAt p_n p_s p0 = some o)  : GW x 0 0 [(qp, .inr (3, [.int p_n, .ref qp1])), (qp1, .inl ((xy x) 3, 80, .inl p_s))] [(0, .ref qp), (1, .int p0)] 0 [] := by
  unfold fX4_signAt at hf
  refine g_iload_n C (pc := 0) 1 dX4_signAt_0 rfl rfl ?_
  refine g_if_lt C (pc := 1) 21 dX4_signAt_1 (by decide) (fun c_1 => ?_) (fun c_1 => ?_)
  · replace hf := (k_if hf).1 c_1
    refine g_iconst C (pc := 21) dX4_signAt_21 ck_iconst_0 ?_
    cases hf
    exact g_iret C E (pc := 22) dX4_signAt_22 ⟨rfl, rfl⟩
  · replace hf := (k_if hf).2 c_1
    refine g_iload_n C (pc := 4) 1 dX4_signAt_4 rfl rfl ?_
    refine g_aload_n C (pc := 5) 0 dX4_signAt_5 rfl rfl ?_
    refine g_get C (pc := 6) lfX4_15 0 rfl rfl dX4_signAt_6 ?_
    refine g_icmp_ge C (pc := 9) 21 dX4_signAt_9 (by decide) (fun c_9 => ?_) (fun c_9 => ?_)
    · replace hf := (k_if hf).1 c_9
      refine g_iconst C (pc := 21) dX4_signAt_21 ck_iconst_0 ?_
      cases hf
      exact g_iret C E (pc := 22) dX4_signAt_22 ⟨rfl, rfl⟩
    · replace hf := (k_if hf).2 c_9
      refine g_aload_n C (pc := 12) 0 dX4_signAt_12 rfl rfl ?_
      refine g_get C (pc := 13) lfX4_9 0 rfl rfl dX4_signAt_13 ?_
      refine g_iload_n C (pc := 16) 1 dX4_signAt_16 rfl rfl ?_
      obtain ⟨i_17, hf⟩ := k_gd hf
      refine g_cald C (pc := 17) 1 rfl i_17 dX4_signAt_17 ?_
      refine g_goto C (pc := 18) (tgt := 22) dX4_signAt_18 (by decide) ?_
      cases hf
      exact g_iret C E (pc := 22) dX4_signAt_22 ⟨rfl, rfl⟩
set_option maxRecDepth 100000 in
theorem cX4_signAt_k (l : Launch) (D : va_G) (yy : Nat → ClassId) (qp : Nat) (p_n : Int32) (qp1 : Nat) (p_s : Nat → Int32) (p0 : Int32) (o : Int32) (hf : fX4_signAt p_n p_s p0 = some o) : GMet l yX4_signAt cX4_signAt 2 (some .int) rmX4_signAt 0 0 D yy [.ref qp, .int p0] [(qp, .inr (3, [.int p_n, .ref qp1])), (qp1, .inl (yy 3, 80, .inl p_s))] (fun zv zw => zv = some (.int o) ∧ zw = [(qp, .inr (3, [.int p_n, .ref qp1])), (qp1, .inl (yy 3, 80, .inl p_s))]) :=
  g_met (by decide +kernel) (Nat.le_of_ble_eq_true rfl) (fun x hl hD hy hn C E _ => by subst hD; subst hy; exact eX4_signAt x C hn qp p_n qp1 p_s p0 o E hf)
def rmX4_countSigns : Room := { frames := 0, cells := 0, slots := 0, locals := 0 }
def gX4_countSigns_4  (a_4 : Int32 × Int64) : Option ((Int32 × Int64) ⊕ ((Int32 × Int64) ⊕ (Int32))) :=
  if (8 : Int32) ≤ a_4.1 then some (.inr (.inl (a_4.1, a_4.2))) else if (lg_cmp a_4.2 (0 : Int64)) = 0 then some (.inr (.inl (a_4.1, a_4.2))) else if (lg_cmp (a_4.2 &&& (255 : Int64)) (33 : Int64)) < 0 then some (.inr (.inr (0 : Int32))) else if (lg_cmp (a_4.2 &&& (255 : Int64)) (126 : Int64)) ≤ 0 then some (.inl (a_4.1 + 1, (a_4.2.toUInt64 >>> ((8 : Int32).toInt64.toUInt64 &&& Int64.toUInt64 63)).toInt64)) else some (.inr (.inr (0 : Int32)))
set_option maxRecDepth 100000 in
set_option maxHeartbeats 4000000 in
theorem bX4_countSigns_4 (x : GX) (C : GC x cX4_countSigns RX4 rmX4_countSigns) (N : xn x = 7) (a_4 : Int32 × Int64) (o : Int32) (r : (Int32 × Int64) ⊕ ((Int32 × Int64) ⊕ (Int32))) (E : GE x (some .int) 0 0 (fun zv zw => zv = some (.int o) ∧ zw = [])) (hf : gX4_countSigns_4 a_4 = some r) (kn : ∀ e : Int32 × Int64, r = .inl e → GW x 0 0 [] [(2, .int e.1), (3, .long e.2)] 4 []) (kx : ∀ e : Int32 × Int64, r = .inr (.inl e) → GW x 0 0 [] [(2, .int e.1)] 54 []) (kr : ∀ o' : Int32, r = .inr (.inr o') → o' = o) : GW x 0 0 [] [(2, .int a_4.1), (3, .long a_4.2)] 4 [] := by
  unfold gX4_countSigns_4 at hf
  refine g_iload_n C (pc := 4) 0 dX4_countSigns_4 rfl rfl ?_
  refine g_bipush C (pc := 5) dX4_countSigns_5 ck_bipush_8 ?_
  refine g_icmp_ge C (pc := 7) 54 dX4_countSigns_7 (by decide) (fun c_7 => ?_) (fun c_7 => ?_)
  · replace hf := (k_if hf).1 c_7
    cases hf
    exact g_lo [0] rfl (kx (a_4.1, a_4.2) rfl)
  · replace hf := (k_if hf).2 c_7
    refine g_lload_n C (pc := 10) 1 dX4_countSigns_10 rfl rfl ?_
    refine g_lconst C (pc := 11) (v := 0) dX4_countSigns_11 rfl ?_
    refine g_lcmp C (pc := 12) dX4_countSigns_12 ?_
    refine g_if_eq C (pc := 13) 54 dX4_countSigns_13 (by decide) (fun c_13 => ?_) (fun c_13 => ?_)
    · replace hf := (k_if hf).1 c_13
      cases hf
      exact g_lo [0] rfl (kx (a_4.1, a_4.2) rfl)
    · replace hf := (k_if hf).2 c_13
      refine g_lload_n C (pc := 16) 1 dX4_countSigns_16 rfl rfl ?_
      refine g_ldc2 C (pc := 17) lcX4_19 dX4_countSigns_17 ?_
      refine g_land C (pc := 20) dX4_countSigns_20 ?_
      refine g_lstore C (pc := 21) (lo' := [(5, .long (a_4.2 &&& (255 : Int64))), (2, .int a_4.1), (3, .long a_4.2)]) dX4_countSigns_21 N rfl rfl ?_
      refine g_lload C (pc := 23) 0 dX4_countSigns_23 rfl ?_
      refine g_ldc2 C (pc := 25) lcX4_21 dX4_countSigns_25 ?_
      refine g_lcmp C (pc := 28) dX4_countSigns_28 ?_
      refine g_if_lt C (pc := 29) 41 dX4_countSigns_29 (by decide) (fun c_29 => ?_) (fun c_29 => ?_)
      · replace hf := (k_if hf).1 c_29
        refine g_iconst C (pc := 41) dX4_countSigns_41 ck_iconst_0 ?_
        cases hf
        have ho := kr _ rfl
        cases ho
        exact g_iret C E (pc := 42) dX4_countSigns_42 ⟨rfl, rfl⟩
      · replace hf := (k_if hf).2 c_29
        refine g_lload C (pc := 32) 0 dX4_countSigns_32 rfl ?_
        refine g_ldc2 C (pc := 34) lcX4_23 dX4_countSigns_34 ?_
        refine g_lcmp C (pc := 37) dX4_countSigns_37 ?_
        refine g_if_le C (pc := 38) 43 dX4_countSigns_38 (by decide) (fun c_38 => ?_) (fun c_38 => ?_)
        · replace hf := (k_if hf).1 c_38
          refine g_lload_n C (pc := 43) 2 dX4_countSigns_43 rfl rfl ?_
          refine g_bipush C (pc := 44) dX4_countSigns_44 ck_bipush_8 ?_
          refine g_lushr C (pc := 46) dX4_countSigns_46 ?_
          refine g_lstore_n C (pc := 47) (lo' := [(3, .long ((a_4.2.toUInt64 >>> ((8 : Int32).toInt64.toUInt64 &&& Int64.toUInt64 63)).toInt64)), (5, .long (a_4.2 &&& (255 : Int64))), (2, .int a_4.1)]) dX4_countSigns_47 rfl N rfl rfl ?_
          refine g_iinc C (pc := 48) (v := a_4.1 + 1) (lo' := [(2, .int (a_4.1 + 1)), (3, .long ((a_4.2.toUInt64 >>> ((8 : Int32).toInt64.toUInt64 &&& Int64.toUInt64 63)).toInt64)), (5, .long (a_4.2 &&& (255 : Int64)))]) 2 dX4_countSigns_48 rfl (congrArg (HAdd.hAdd _) ck_iinc_1) N rfl rfl ?_
          refine g_goto C (pc := 51) (tgt := 4) dX4_countSigns_51 (by decide) ?_
          cases hf
          exact g_lo [0, 1] rfl (kn (a_4.1 + 1, (a_4.2.toUInt64 >>> ((8 : Int32).toInt64.toUInt64 &&& Int64.toUInt64 63)).toInt64) rfl)
        · replace hf := (k_if hf).2 c_38
          refine g_iconst C (pc := 41) dX4_countSigns_41 ck_iconst_0 ?_
          cases hf
          have ho := kr _ rfl
          cases ho
          exact g_iret C E (pc := 42) dX4_countSigns_42 ⟨rfl, rfl⟩
def fX4_countSigns (p0 : Int64) : Option (Int32) :=
  bd (iter gX4_countSigns_4 FU ((0 : Int32), p0)) fun b_4 : (Int32 × Int64) ⊕ (Int32) => Sum.elim (fun e_4 : Int32 × Int64 => some e_4.1) (fun o_4 : Int32 => some o_4) b_4
set_option maxRecDepth 100000 in
set_option maxHeartbeats 4000000 in
theorem eX4_countSigns (x : GX) (C : GC x cX4_countSigns RX4 rmX4_countSigns) (N : xn x = 7) (p0 : Int64) (o : Int32) (E : GE x (some .int) 0 0 (fun zv zw => zv = some (.int o) ∧ zw = [])) (hf : fX4_countSigns p0 = some o)  : GW x 0 0 [] [(0, .long p0)] 0 [] := by
  unfold fX4_countSigns at hf
  refine g_iconst C (pc := 0) dX4_countSigns_0 ck_iconst_0 ?_
  refine g_istore_n C (pc := 1) (lo' := [(2, .int (0 : Int32)), (0, .long p0)]) dX4_countSigns_1 rfl N rfl rfl ?_
  refine g_lload_n C (pc := 2) 1 dX4_countSigns_2 rfl rfl ?_
  refine g_lstore_n C (pc := 3) (lo' := [(3, .long p0), (2, .int (0 : Int32)), (0, .long p0)]) dX4_countSigns_3 rfl N rfl rfl ?_
  obtain ⟨b_4, hb_4, hf⟩ := k_bd hf
  refine g_lo [1, 0] rfl ?_
  refine g_loop (g := gX4_countSigns_4) (fun e : Int32 × Int64 => []) (fun e : Int32 × Int64 => [(2, .int e.1), (3, .long e.2)]) 4 (fun b : (Int32 × Int64) ⊕ (Int32) => (∀ e : Int32 × Int64, b = .inl e → GW x 0 0 [] [(2, .int e.1)] 54 []) ∧ (∀ o' : Int32, b = .inr o' → o' = o)) (fun a r hg kn kx => bX4_countSigns_4 x C N a o r E hg kn (fun e he => (kx _ he).1 e rfl) (fun z he => (kx _ he).2 z rfl)) FU _ b_4 hb_4 ?_
  refine ⟨fun e_4 he => ?_, fun o_4 he => ?_⟩ <;> subst he
  · replace hf := k_eliml hf
    refine g_iload_n C (pc := 54) 0 dX4_countSigns_54 rfl rfl ?_
    cases hf
    exact g_iret C E (pc := 55) dX4_countSigns_55 ⟨rfl, rfl⟩
  · replace hf := k_elimr hf
    exact k_some hf
set_option maxRecDepth 100000 in
theorem cX4_countSigns_k (l : Launch) (D : va_G) (yy : Nat → ClassId) (p0 : Int64) (o : Int32) (hf : fX4_countSigns p0 = some o) : GMet l yX4_countSigns cX4_countSigns 7 (some .int) rmX4_countSigns 0 0 D yy [.long p0] [] (fun zv zw => zv = some (.int o) ∧ zw = []) :=
  g_met (by decide +kernel) (Nat.le_of_ble_eq_true rfl) (fun x hl hD hy hn C E _ => by subst hD; subst hy; exact eX4_countSigns x C hn p0 o E hf)
def rmX4_append : Room := { frames := 0, cells := 0, slots := 0, locals := 0 }
def gX4_append_5 (p0 : Int64) (a_5 : Int32 × Int32 × (Nat → Int32)) : Option ((Int32 × Int32 × (Nat → Int32)) ⊕ (Int32 × Int32 × (Nat → Int32))) :=
  if a_5.1 < 0 then some (.inr (a_5.1, a_5.2.1, a_5.2.2)) else if (80 : Int32) ≤ a_5.2.1 then some (.inr (a_5.1, a_5.2.1, a_5.2.2)) else gd (gi a_5.2.1 80) (some (.inl (a_5.1 + (-1 : Int32), a_5.2.1 + (1 : Int32), upd a_5.2.2 (ix a_5.2.1) (vp_nar .char ((((((p0.toUInt64 >>> (((8 : Int32) * a_5.1).toInt64.toUInt64 &&& Int64.toUInt64 63)).toInt64) &&& (255 : Int64)).toInt32).toUInt32 % 65536).toInt32)))))
set_option maxRecDepth 100000 in
set_option maxHeartbeats 4000000 in
theorem bX4_append_5 (x : GX) (C : GC x cX4_append RX4 rmX4_append) (N : xn x = 5) (qp : Nat) (qp1 : Nat) (p0 : Int64) (a_5 : Int32 × Int32 × (Nat → Int32)) (r : (Int32 × Int32 × (Nat → Int32)) ⊕ (Int32 × Int32 × (Nat → Int32)))  (hf : gX4_append_5 p0 a_5 = some r) (kn : ∀ e : Int32 × Int32 × (Nat → Int32), r = .inl e → GW x 0 0 [(qp, .inr (3, [.int e.2.1, .ref qp1])), (qp1, .inl ((xy x) 3, 80, .inl e.2.2))] [(0, .ref qp), (1, .long p0), (4, .int e.1)] 5 []) (kx : ∀ e : Int32 × Int32 × (Nat → Int32), r = .inr e → GW x 0 0 [(qp, .inr (3, [.int e.2.1, .ref qp1])), (qp1, .inl ((xy x) 3, 80, .inl e.2.2))] [] 57 []) : GW x 0 0 [(qp, .inr (3, [.int a_5.2.1, .ref qp1])), (qp1, .inl ((xy x) 3, 80, .inl a_5.2.2))] [(0, .ref qp), (1, .long p0), (4, .int a_5.1)] 5 [] := by
  unfold gX4_append_5 at hf
  refine g_iload C (pc := 5) 2 dX4_append_5 rfl ?_
  refine g_if_lt C (pc := 7) 57 dX4_append_7 (by decide) (fun c_7 => ?_) (fun c_7 => ?_)
  · replace hf := (k_if hf).1 c_7
    cases hf
    exact g_lo [] rfl (kx (a_5.1, a_5.2.1, a_5.2.2) rfl)
  · replace hf := (k_if hf).2 c_7
    refine g_aload_n C (pc := 10) 0 dX4_append_10 rfl rfl ?_
    refine g_get C (pc := 11) lfX4_15 0 rfl rfl dX4_append_11 ?_
    refine g_bipush C (pc := 14) dX4_append_14 ck_bipush_80 ?_
    refine g_icmp_ge C (pc := 16) 57 dX4_append_16 (by decide) (fun c_16 => ?_) (fun c_16 => ?_)
    · replace hf := (k_if hf).1 c_16
      cases hf
      exact g_lo [] rfl (kx (a_5.1, a_5.2.1, a_5.2.2) rfl)
    · replace hf := (k_if hf).2 c_16
      refine g_aload_n C (pc := 19) 0 dX4_append_19 rfl rfl ?_
      refine g_get C (pc := 20) lfX4_9 0 rfl rfl dX4_append_20 ?_
      refine g_aload_n C (pc := 23) 0 dX4_append_23 rfl rfl ?_
      refine g_get C (pc := 24) lfX4_15 0 rfl rfl dX4_append_24 ?_
      refine g_lload_n C (pc := 27) 1 dX4_append_27 rfl rfl ?_
      refine g_bipush C (pc := 28) dX4_append_28 ck_bipush_8 ?_
      refine g_iload C (pc := 30) 2 dX4_append_30 rfl ?_
      refine g_imul C (pc := 32) dX4_append_32 ?_
      refine g_lushr C (pc := 33) dX4_append_33 ?_
      refine g_ldc2 C (pc := 34) lcX4_19 dX4_append_34 ?_
      refine g_land C (pc := 37) dX4_append_37 ?_
      refine g_l2i C (pc := 38) dX4_append_38 ?_
      refine g_i2c C (pc := 39) dX4_append_39 ?_
      obtain ⟨i_40, hf⟩ := k_gd hf
      refine g_cast C (pc := 40) (ws' := [(qp, .inr (3, [.int a_5.2.1, .ref qp1])), (qp1, .inl ((xy x) 3, 80, .inl (upd a_5.2.2 (ix a_5.2.1) (vp_nar .char ((((((p0.toUInt64 >>> (((8 : Int32) * a_5.1).toInt64.toUInt64 &&& Int64.toUInt64 63)).toInt64) &&& (255 : Int64)).toInt32).toUInt32 % 65536).toInt32)))))]) 1 rfl i_40 rfl dX4_append_40 ?_
      refine g_aload_n C (pc := 41) 0 dX4_append_41 rfl rfl ?_
      refine g_dup C (pc := 42) dX4_append_42 rfl ?_
      refine g_get C (pc := 43) lfX4_15 0 rfl rfl dX4_append_43 ?_
      refine g_iconst C (pc := 46) dX4_append_46 ck_iconst_1 ?_
      refine g_iadd C (pc := 47) dX4_append_47 ?_
      refine g_put C (pc := 48) (ws' := [(qp, .inr (3, [.int (a_5.2.1 + (1 : Int32)), .ref qp1])), (qp1, .inl ((xy x) 3, 80, .inl (upd a_5.2.2 (ix a_5.2.1) (vp_nar .char ((((((p0.toUInt64 >>> (((8 : Int32) * a_5.1).toInt64.toUInt64 &&& Int64.toUInt64 63)).toInt64) &&& (255 : Int64)).toInt32).toUInt32 % 65536).toInt32)))))]) lpX4_15 0 rfl rfl rfl rfl (Nat.le_of_ble_eq_true rfl) rfl dX4_append_48 ?_
      refine g_iinc C (pc := 51) (v := a_5.1 + (-1 : Int32)) (lo' := [(4, .int (a_5.1 + (-1 : Int32))), (0, .ref qp), (1, .long p0)]) 2 dX4_append_51 rfl (congrArg (HAdd.hAdd _) ck_iinc_m1) N rfl rfl ?_
      refine g_goto C (pc := 54) (tgt := 5) dX4_append_54 (by decide) ?_
      cases hf
      exact g_lo [1, 2, 0] rfl (kn (a_5.1 + (-1 : Int32), a_5.2.1 + (1 : Int32), upd a_5.2.2 (ix a_5.2.1) (vp_nar .char ((((((p0.toUInt64 >>> (((8 : Int32) * a_5.1).toInt64.toUInt64 &&& Int64.toUInt64 63)).toInt64) &&& (255 : Int64)).toInt32).toUInt32 % 65536).toInt32))) rfl)
def fX4_append (p_n : Int32) (p_s : Nat → Int32) (p0 : Int64) (p1 : Int32) : Option (Int32 × (Nat → Int32)) :=
  bd (iter (gX4_append_5 p0) FU (p1 - (1 : Int32), p_n, p_s)) fun b_5 : Int32 × Int32 × (Nat → Int32) => some (b_5.2.1, b_5.2.2)
set_option maxRecDepth 100000 in
set_option maxHeartbeats 4000000 in
theorem eX4_append (x : GX) (C : GC x cX4_append RX4 rmX4_append) (N : xn x = 5) (qp : Nat) (p_n : Int32) (qp1 : Nat) (p_s : Nat → Int32) (p0 : Int64) (p1 : Int32) (o : Int32 × (Nat → Int32)) (E : GE x none 0 0 (fun zv zw => zv = none ∧ zw = [(qp, .inr (3, [.int o.1, .ref qp1])), (qp1, .inl ((xy x) 3, 80, .inl o.2))])) (hf : fX4_append p_n p_s p0 p1 = some o)  : GW x 0 0 [(qp, .inr (3, [.int p_n, .ref qp1])), (qp1, .inl ((xy x) 3, 80, .inl p_s))] [(0, .ref qp), (1, .long p0), (3, .int p1)] 0 [] := by
  unfold fX4_append at hf
  refine g_iload_n C (pc := 0) 2 dX4_append_0 rfl rfl ?_
  refine g_iconst C (pc := 1) dX4_append_1 ck_iconst_1 ?_
  refine g_isub C (pc := 2) dX4_append_2 ?_
  refine g_istore C (pc := 3) (lo' := [(4, .int (p1 - (1 : Int32))), (0, .ref qp), (1, .long p0), (3, .int p1)]) dX4_append_3 N rfl rfl ?_
  obtain ⟨b_5, hb_5, hf⟩ := k_bd hf
  refine g_lo [1, 2, 0] rfl ?_
  refine g_loop (g := (gX4_append_5 p0)) (fun e : Int32 × Int32 × (Nat → Int32) => [(qp, .inr (3, [.int e.2.1, .ref qp1])), (qp1, .inl ((xy x) 3, 80, .inl e.2.2))]) (fun e : Int32 × Int32 × (Nat → Int32) => [(0, .ref qp), (1, .long p0), (4, .int e.1)]) 5 (fun e : Int32 × Int32 × (Nat → Int32) => GW x 0 0 [(qp, .inr (3, [.int e.2.1, .ref qp1])), (qp1, .inl ((xy x) 3, 80, .inl e.2.2))] [] 57 []) (fun a r hg kn kx => bX4_append_5 x C N qp qp1 p0 a r hg kn kx) FU _ b_5 hb_5 ?_
  cases hf
  exact g_vret C E (pc := 57) dX4_append_57 ⟨rfl, rfl⟩
set_option maxRecDepth 100000 in
theorem cX4_append_k (l : Launch) (D : va_G) (yy : Nat → ClassId) (qp : Nat) (p_n : Int32) (qp1 : Nat) (p_s : Nat → Int32) (p0 : Int64) (p1 : Int32) (o : Int32 × (Nat → Int32)) (hf : fX4_append p_n p_s p0 p1 = some o) : GMet l yX4_append cX4_append 5 none rmX4_append 0 0 D yy [.ref qp, .long p0, .int p1] [(qp, .inr (3, [.int p_n, .ref qp1])), (qp1, .inl (yy 3, 80, .inl p_s))] (fun zv zw => zv = none ∧ zw = [(qp, .inr (3, [.int o.1, .ref qp1])), (qp1, .inl (yy 3, 80, .inl o.2))]) :=
  g_met (by decide +kernel) (Nat.le_of_ble_eq_true rfl) (fun x hl hD hy hn C E _ => by subst hD; subst hy; exact eX4_append x C hn qp p_n qp1 p_s p0 p1 o E hf)
def rmX5_begin : Room := { frames := 0, cells := 0, slots := 0, locals := 0 }
def fX5_begin  : Option (Int32) :=
  some (0 : Int32)
set_option maxRecDepth 100000 in
set_option maxHeartbeats 4000000 in
theorem eX5_begin (x : GX) (C : GC x cX5_begin RX5 rmX5_begin) (N : xn x = 1) (qr : Nat) (r_at : Int32) (r_kind : Int32) (r_claim : Int32) (r_how : Int32) (r_x : Int32) (r_y : Int32) (r_k : Int32) (r_seed : Int32) (r_moves : Int32) (qp : Nat) (p_n : Int32) (qp1 : Nat) (p_s : Nat → Int32) (o : Int32) (E : GE x none 0 0 (fun zv zw => zv = none ∧ zw = [(qr, .inr (4, [.ref qp, .int o, .int r_kind, .int r_claim, .int r_how, .int r_x, .int r_y, .int r_k, .int r_seed, .int r_moves])), (qp, .inr (3, [.int p_n, .ref qp1])), (qp1, .inl ((xy x) 3, 80, .inl p_s))])) (hf : fX5_begin  = some o)  : GW x 0 0 [(qr, .inr (4, [.ref qp, .int r_at, .int r_kind, .int r_claim, .int r_how, .int r_x, .int r_y, .int r_k, .int r_seed, .int r_moves])), (qp, .inr (3, [.int p_n, .ref qp1])), (qp1, .inl ((xy x) 3, 80, .inl p_s))] [(0, .ref qr)] 0 [] := by
  unfold fX5_begin at hf
  refine g_aload_n C (pc := 0) 0 dX5_begin_0 rfl rfl ?_
  refine g_iconst C (pc := 1) dX5_begin_1 ck_iconst_0 ?_
  refine g_put C (pc := 2) (ws' := [(qr, .inr (4, [.ref qp, .int (0 : Int32), .int r_kind, .int r_claim, .int r_how, .int r_x, .int r_y, .int r_k, .int r_seed, .int r_moves])), (qp, .inr (3, [.int p_n, .ref qp1])), (qp1, .inl ((xy x) 3, 80, .inl p_s))]) lpX5_18 0 rfl rfl rfl rfl (Nat.le_of_ble_eq_true rfl) rfl dX5_begin_2 ?_
  cases hf
  exact g_vret C E (pc := 5) dX5_begin_5 ⟨rfl, rfl⟩
set_option maxRecDepth 100000 in
theorem cX5_begin_k (l : Launch) (D : va_G) (yy : Nat → ClassId) (qr : Nat) (r_at : Int32) (r_kind : Int32) (r_claim : Int32) (r_how : Int32) (r_x : Int32) (r_y : Int32) (r_k : Int32) (r_seed : Int32) (r_moves : Int32) (qp : Nat) (p_n : Int32) (qp1 : Nat) (p_s : Nat → Int32) (o : Int32) (hf : fX5_begin  = some o) : GMet l yX5_begin cX5_begin 1 none rmX5_begin 0 0 D yy [.ref qr] [(qr, .inr (4, [.ref qp, .int r_at, .int r_kind, .int r_claim, .int r_how, .int r_x, .int r_y, .int r_k, .int r_seed, .int r_moves])), (qp, .inr (3, [.int p_n, .ref qp1])), (qp1, .inl (yy 3, 80, .inl p_s))] (fun zv zw => zv = none ∧ zw = [(qr, .inr (4, [.ref qp, .int o, .int r_kind, .int r_claim, .int r_how, .int r_x, .int r_y, .int r_k, .int r_seed, .int r_moves])), (qp, .inr (3, [.int p_n, .ref qp1])), (qp1, .inl (yy 3, 80, .inl p_s))]) :=
  g_met (by decide +kernel) (Nat.le_of_ble_eq_true rfl) (fun x hl hD hy hn C E _ => by subst hD; subst hy; exact eX5_begin x C hn qr r_at r_kind r_claim r_how r_x r_y r_k r_seed r_moves qp p_n qp1 p_s o E hf)
def rmX5_take : Room := { frames := 1, cells := 0, slots := 0, locals := 21 }
def fX5_take (r_at : Int32) (p_n : Int32) (p_s : Nat → Int32) (p0 : Int32) : Option (Int32 × Int32) :=
  bd (fX4_signAt p_n p_s r_at) fun y_8 : Int32 => if y_8 = p0 then some ((1 : Int32), r_at + (1 : Int32)) else some ((0 : Int32), r_at)
set_option maxRecDepth 100000 in
set_option maxHeartbeats 4000000 in
theorem eX5_take (x : GX) (C : GC x cX5_take RX5 rmX5_take) (N : xn x = 2) (qr : Nat) (r_at : Int32) (r_kind : Int32) (r_claim : Int32) (r_how : Int32) (r_x : Int32) (r_y : Int32) (r_k : Int32) (r_seed : Int32) (r_moves : Int32) (qp : Nat) (p_n : Int32) (qp1 : Nat) (p_s : Nat → Int32) (p0 : Int32) (o : Int32 × Int32) (E : GE x (some .boolean) 0 0 (fun zv zw => zv = some (.int o.1) ∧ zw = [(qr, .inr (4, [.ref qp, .int o.2, .int r_kind, .int r_claim, .int r_how, .int r_x, .int r_y, .int r_k, .int r_seed, .int r_moves])), (qp, .inr (3, [.int p_n, .ref qp1])), (qp1, .inl ((xy x) 3, 80, .inl p_s))])) (hf : fX5_take r_at p_n p_s p0 = some o)  : GW x 0 0 [(qr, .inr (4, [.ref qp, .int r_at, .int r_kind, .int r_claim, .int r_how, .int r_x, .int r_y, .int r_k, .int r_seed, .int r_moves])), (qp, .inr (3, [.int p_n, .ref qp1])), (qp1, .inl ((xy x) 3, 80, .inl p_s))] [(0, .ref qr), (1, .int p0)] 0 [] := by
  unfold fX5_take at hf
  refine g_aload_n C (pc := 0) 0 dX5_take_0 rfl rfl ?_
  refine g_get C (pc := 1) lfX5_12 0 rfl rfl dX5_take_1 ?_
  refine g_aload_n C (pc := 4) 0 dX5_take_4 rfl rfl ?_
  refine g_get C (pc := 5) lfX5_18 0 rfl rfl dX5_take_5 ?_
  obtain ⟨y_8, h_8, hf⟩ := k_bd hf
  refine g_callV C (pc := 8) (b := qp) (As := [.int r_at]) (rest := []) (v1 := (some (.int y_8))) (st' := [.int y_8]) (wc := [(qp, .inr (3, [.int p_n, .ref qp1])), (qp1, .inl ((xy x) 3, 80, .inl p_s))]) (w1 := [(qp, .inr (3, [.int p_n, .ref qp1])), (qp1, .inl ((xy x) 3, 80, .inl p_s))]) (wr := [(qr, .inr (4, [.ref qp, .int r_at, .int r_kind, .int r_claim, .int r_how, .int r_x, .int r_y, .int r_k, .int r_seed, .int r_moves]))]) (ws' := [(qr, .inr (4, [.ref qp, .int r_at, .int r_kind, .int r_claim, .int r_how, .int r_x, .int r_y, .int r_k, .int r_seed, .int r_moves])), (qp, .inr (3, [.int p_n, .ref qp1])), (qp1, .inl ((xy x) 3, 80, .inl p_s))]) 0 [1, 2] [0] [0, 1, 2] lkX4_signAt lVX5_36 (cX4_signAt_k (xl x) (xD x) (xy x) qp p_n qp1 p_s r_at y_8 h_8) rfl ⟨⟨Nat.le_of_ble_eq_true rfl, Nat.le_of_ble_eq_true rfl⟩, ⟨rfl, rfl⟩, ⟨Nat.le_of_ble_eq_true rfl, Nat.le_of_ble_eq_true rfl⟩⟩ rfl rfl rfl rfl rfl rfl rfl (Nat.le_of_ble_eq_true rfl) rfl dX5_take_8 ?_
  refine g_iload_n C (pc := 11) 1 dX5_take_11 rfl rfl ?_
  refine g_icmp_eq C (pc := 12) 17 dX5_take_12 (by decide) (fun c_12 => ?_) (fun c_12 => ?_)
  · replace hf := (k_if hf).1 c_12
    refine g_aload_n C (pc := 17) 0 dX5_take_17 rfl rfl ?_
    refine g_dup C (pc := 18) dX5_take_18 rfl ?_
    refine g_get C (pc := 19) lfX5_18 0 rfl rfl dX5_take_19 ?_
    refine g_iconst C (pc := 22) dX5_take_22 ck_iconst_1 ?_
    refine g_iadd C (pc := 23) dX5_take_23 ?_
    refine g_put C (pc := 24) (ws' := [(qr, .inr (4, [.ref qp, .int (r_at + (1 : Int32)), .int r_kind, .int r_claim, .int r_how, .int r_x, .int r_y, .int r_k, .int r_seed, .int r_moves])), (qp, .inr (3, [.int p_n, .ref qp1])), (qp1, .inl ((xy x) 3, 80, .inl p_s))]) lpX5_18 0 rfl rfl rfl rfl (Nat.le_of_ble_eq_true rfl) rfl dX5_take_24 ?_
    refine g_iconst C (pc := 27) dX5_take_27 ck_iconst_1 ?_
    cases hf
    exact g_zret C E rfl (pc := 28) dX5_take_28 ⟨rfl, rfl⟩
  · replace hf := (k_if hf).2 c_12
    refine g_iconst C (pc := 15) dX5_take_15 ck_iconst_0 ?_
    cases hf
    exact g_zret C E rfl (pc := 16) dX5_take_16 ⟨rfl, rfl⟩
set_option maxRecDepth 100000 in
theorem cX5_take_k (l : Launch) (D : va_G) (yy : Nat → ClassId) (qr : Nat) (r_at : Int32) (r_kind : Int32) (r_claim : Int32) (r_how : Int32) (r_x : Int32) (r_y : Int32) (r_k : Int32) (r_seed : Int32) (r_moves : Int32) (qp : Nat) (p_n : Int32) (qp1 : Nat) (p_s : Nat → Int32) (p0 : Int32) (o : Int32 × Int32) (hf : fX5_take r_at p_n p_s p0 = some o) : GMet l yX5_take cX5_take 2 (some .boolean) rmX5_take 0 0 D yy [.ref qr, .int p0] [(qr, .inr (4, [.ref qp, .int r_at, .int r_kind, .int r_claim, .int r_how, .int r_x, .int r_y, .int r_k, .int r_seed, .int r_moves])), (qp, .inr (3, [.int p_n, .ref qp1])), (qp1, .inl (yy 3, 80, .inl p_s))] (fun zv zw => zv = some (.int o.1) ∧ zw = [(qr, .inr (4, [.ref qp, .int o.2, .int r_kind, .int r_claim, .int r_how, .int r_x, .int r_y, .int r_k, .int r_seed, .int r_moves])), (qp, .inr (3, [.int p_n, .ref qp1])), (qp1, .inl (yy 3, 80, .inl p_s))]) :=
  g_met (by decide +kernel) (Nat.le_of_ble_eq_true rfl) (fun x hl hD hy hn C E _ => by subst hD; subst hy; exact eX5_take x C hn qr r_at r_kind r_claim r_how r_x r_y r_k r_seed r_moves qp p_n qp1 p_s p0 o E hf)
def rmX5_readBetween : Room := { frames := 1, cells := 0, slots := 0, locals := 21 }
def fX5_readBetween (r_at : Int32) (p_n : Int32) (p_s : Nat → Int32) (p0 : Int32) (p1 : Int32) : Option (Int32 × Int32) :=
  bd (fX4_signAt p_n p_s r_at) fun y_8 : Int32 => if y_8 < p0 then some ((-8 : Int32), r_at) else if y_8 ≤ p1 then some (y_8 - p0, r_at + (1 : Int32)) else some ((-8 : Int32), r_at)
set_option maxRecDepth 100000 in
set_option maxHeartbeats 4000000 in
theorem eX5_readBetween (x : GX) (C : GC x cX5_readBetween RX5 rmX5_readBetween) (N : xn x = 4) (qr : Nat) (r_at : Int32) (r_kind : Int32) (r_claim : Int32) (r_how : Int32) (r_x : Int32) (r_y : Int32) (r_k : Int32) (r_seed : Int32) (r_moves : Int32) (qp : Nat) (p_n : Int32) (qp1 : Nat) (p_s : Nat → Int32) (p0 : Int32) (p1 : Int32) (o : Int32 × Int32) (E : GE x (some .int) 0 0 (fun zv zw => zv = some (.int o.1) ∧ zw = [(qr, .inr (4, [.ref qp, .int o.2, .int r_kind, .int r_claim, .int r_how, .int r_x, .int r_y, .int r_k, .int r_seed, .int r_moves])), (qp, .inr (3, [.int p_n, .ref qp1])), (qp1, .inl ((xy x) 3, 80, .inl p_s))])) (hf : fX5_readBetween r_at p_n p_s p0 p1 = some o)  : GW x 0 0 [(qr, .inr (4, [.ref qp, .int r_at, .int r_kind, .int r_claim, .int r_how, .int r_x, .int r_y, .int r_k, .int r_seed, .int r_moves])), (qp, .inr (3, [.int p_n, .ref qp1])), (qp1, .inl ((xy x) 3, 80, .inl p_s))] [(0, .ref qr), (1, .int p0), (2, .int p1)] 0 [] := by
  unfold fX5_readBetween at hf
  refine g_aload_n C (pc := 0) 0 dX5_readBetween_0 rfl rfl ?_
  refine g_get C (pc := 1) lfX5_12 0 rfl rfl dX5_readBetween_1 ?_
  refine g_aload_n C (pc := 4) 0 dX5_readBetween_4 rfl rfl ?_
  refine g_get C (pc := 5) lfX5_18 0 rfl rfl dX5_readBetween_5 ?_
  obtain ⟨y_8, h_8, hf⟩ := k_bd hf
  refine g_callV C (pc := 8) (b := qp) (As := [.int r_at]) (rest := []) (v1 := (some (.int y_8))) (st' := [.int y_8]) (wc := [(qp, .inr (3, [.int p_n, .ref qp1])), (qp1, .inl ((xy x) 3, 80, .inl p_s))]) (w1 := [(qp, .inr (3, [.int p_n, .ref qp1])), (qp1, .inl ((xy x) 3, 80, .inl p_s))]) (wr := [(qr, .inr (4, [.ref qp, .int r_at, .int r_kind, .int r_claim, .int r_how, .int r_x, .int r_y, .int r_k, .int r_seed, .int r_moves]))]) (ws' := [(qr, .inr (4, [.ref qp, .int r_at, .int r_kind, .int r_claim, .int r_how, .int r_x, .int r_y, .int r_k, .int r_seed, .int r_moves])), (qp, .inr (3, [.int p_n, .ref qp1])), (qp1, .inl ((xy x) 3, 80, .inl p_s))]) 0 [1, 2] [0] [0, 1, 2] lkX4_signAt lVX5_36 (cX4_signAt_k (xl x) (xD x) (xy x) qp p_n qp1 p_s r_at y_8 h_8) rfl ⟨⟨Nat.le_of_ble_eq_true rfl, Nat.le_of_ble_eq_true rfl⟩, ⟨rfl, rfl⟩, ⟨Nat.le_of_ble_eq_true rfl, Nat.le_of_ble_eq_true rfl⟩⟩ rfl rfl rfl rfl rfl rfl rfl (Nat.le_of_ble_eq_true rfl) rfl dX5_readBetween_8 ?_
  refine g_istore_n C (pc := 11) (lo' := [(3, .int y_8), (0, .ref qr), (1, .int p0), (2, .int p1)]) dX5_readBetween_11 rfl N rfl rfl ?_
  refine g_iload_n C (pc := 12) 0 dX5_readBetween_12 rfl rfl ?_
  refine g_iload_n C (pc := 13) 2 dX5_readBetween_13 rfl rfl ?_
  refine g_icmp_lt C (pc := 14) 22 dX5_readBetween_14 (by decide) (fun c_14 => ?_) (fun c_14 => ?_)
  · replace hf := (k_if hf).1 c_14
    refine g_bipush C (pc := 22) dX5_readBetween_22 ck_bipush_m8 ?_
    cases hf
    exact g_iret C E (pc := 24) dX5_readBetween_24 ⟨rfl, rfl⟩
  · replace hf := (k_if hf).2 c_14
    refine g_iload_n C (pc := 17) 0 dX5_readBetween_17 rfl rfl ?_
    refine g_iload_n C (pc := 18) 3 dX5_readBetween_18 rfl rfl ?_
    refine g_icmp_le C (pc := 19) 25 dX5_readBetween_19 (by decide) (fun c_19 => ?_) (fun c_19 => ?_)
    · replace hf := (k_if hf).1 c_19
      refine g_aload_n C (pc := 25) 1 dX5_readBetween_25 rfl rfl ?_
      refine g_dup C (pc := 26) dX5_readBetween_26 rfl ?_
      refine g_get C (pc := 27) lfX5_18 0 rfl rfl dX5_readBetween_27 ?_
      refine g_iconst C (pc := 30) dX5_readBetween_30 ck_iconst_1 ?_
      refine g_iadd C (pc := 31) dX5_readBetween_31 ?_
      refine g_put C (pc := 32) (ws' := [(qr, .inr (4, [.ref qp, .int (r_at + (1 : Int32)), .int r_kind, .int r_claim, .int r_how, .int r_x, .int r_y, .int r_k, .int r_seed, .int r_moves])), (qp, .inr (3, [.int p_n, .ref qp1])), (qp1, .inl ((xy x) 3, 80, .inl p_s))]) lpX5_18 0 rfl rfl rfl rfl (Nat.le_of_ble_eq_true rfl) rfl dX5_readBetween_32 ?_
      refine g_iload_n C (pc := 35) 0 dX5_readBetween_35 rfl rfl ?_
      refine g_iload_n C (pc := 36) 2 dX5_readBetween_36 rfl rfl ?_
      refine g_isub C (pc := 37) dX5_readBetween_37 ?_
      cases hf
      exact g_iret C E (pc := 38) dX5_readBetween_38 ⟨rfl, rfl⟩
    · replace hf := (k_if hf).2 c_19
      refine g_bipush C (pc := 22) dX5_readBetween_22 ck_bipush_m8 ?_
      cases hf
      exact g_iret C E (pc := 24) dX5_readBetween_24 ⟨rfl, rfl⟩
set_option maxRecDepth 100000 in
theorem cX5_readBetween_k (l : Launch) (D : va_G) (yy : Nat → ClassId) (qr : Nat) (r_at : Int32) (r_kind : Int32) (r_claim : Int32) (r_how : Int32) (r_x : Int32) (r_y : Int32) (r_k : Int32) (r_seed : Int32) (r_moves : Int32) (qp : Nat) (p_n : Int32) (qp1 : Nat) (p_s : Nat → Int32) (p0 : Int32) (p1 : Int32) (o : Int32 × Int32) (hf : fX5_readBetween r_at p_n p_s p0 p1 = some o) : GMet l yX5_readBetween cX5_readBetween 4 (some .int) rmX5_readBetween 0 0 D yy [.ref qr, .int p0, .int p1] [(qr, .inr (4, [.ref qp, .int r_at, .int r_kind, .int r_claim, .int r_how, .int r_x, .int r_y, .int r_k, .int r_seed, .int r_moves])), (qp, .inr (3, [.int p_n, .ref qp1])), (qp1, .inl (yy 3, 80, .inl p_s))] (fun zv zw => zv = some (.int o.1) ∧ zw = [(qr, .inr (4, [.ref qp, .int o.2, .int r_kind, .int r_claim, .int r_how, .int r_x, .int r_y, .int r_k, .int r_seed, .int r_moves])), (qp, .inr (3, [.int p_n, .ref qp1])), (qp1, .inl (yy 3, 80, .inl p_s))]) :=
  g_met (by decide +kernel) (Nat.le_of_ble_eq_true rfl) (fun x hl hD hy hn C E _ => by subst hD; subst hy; exact eX5_readBetween x C hn qr r_at r_kind r_claim r_how r_x r_y r_k r_seed r_moves qp p_n qp1 p_s p0 p1 o E hf)
def rmX5_readVar : Room := { frames := 2, cells := 0, slots := 0, locals := 44 }
def fX5_readVar (r_at : Int32) (p_n : Int32) (p_s : Nat → Int32) : Option (Int32 × Int32) :=
  bd (fX5_readBetween r_at p_n p_s (97 : Int32) (99 : Int32)) fun y_5 : Int32 × Int32 => some (y_5.1, y_5.2)
set_option maxRecDepth 100000 in
set_option maxHeartbeats 4000000 in
theorem eX5_readVar (x : GX) (C : GC x cX5_readVar RX5 rmX5_readVar) (N : xn x = 1) (qr : Nat) (r_at : Int32) (r_kind : Int32) (r_claim : Int32) (r_how : Int32) (r_x : Int32) (r_y : Int32) (r_k : Int32) (r_seed : Int32) (r_moves : Int32) (qp : Nat) (p_n : Int32) (qp1 : Nat) (p_s : Nat → Int32) (o : Int32 × Int32) (E : GE x (some .int) 0 0 (fun zv zw => zv = some (.int o.1) ∧ zw = [(qr, .inr (4, [.ref qp, .int o.2, .int r_kind, .int r_claim, .int r_how, .int r_x, .int r_y, .int r_k, .int r_seed, .int r_moves])), (qp, .inr (3, [.int p_n, .ref qp1])), (qp1, .inl ((xy x) 3, 80, .inl p_s))])) (hf : fX5_readVar r_at p_n p_s = some o)  : GW x 0 0 [(qr, .inr (4, [.ref qp, .int r_at, .int r_kind, .int r_claim, .int r_how, .int r_x, .int r_y, .int r_k, .int r_seed, .int r_moves])), (qp, .inr (3, [.int p_n, .ref qp1])), (qp1, .inl ((xy x) 3, 80, .inl p_s))] [(0, .ref qr)] 0 [] := by
  unfold fX5_readVar at hf
  refine g_aload_n C (pc := 0) 0 dX5_readVar_0 rfl rfl ?_
  refine g_bipush C (pc := 1) dX5_readVar_1 ck_bipush_97 ?_
  refine g_bipush C (pc := 3) dX5_readVar_3 ck_bipush_99 ?_
  obtain ⟨y_5, h_5, hf⟩ := k_bd hf
  refine g_callA C (pc := 5) (b := qr) (As := [.int (97 : Int32), .int (99 : Int32)]) (rest := []) (v1 := (some (.int y_5.1))) (st' := [.int y_5.1]) (w1 := [(qr, .inr (4, [.ref qp, .int y_5.2, .int r_kind, .int r_claim, .int r_how, .int r_x, .int r_y, .int r_k, .int r_seed, .int r_moves])), (qp, .inr (3, [.int p_n, .ref qp1])), (qp1, .inl ((xy x) 3, 80, .inl p_s))]) 0 lkX5_readBetween lVX5_98 (cX5_readBetween_k (xl x) (xD x) (xy x) qr r_at r_kind r_claim r_how r_x r_y r_k r_seed r_moves qp p_n qp1 p_s (97 : Int32) (99 : Int32) y_5 h_5) rfl ⟨⟨Nat.le_of_ble_eq_true rfl, Nat.le_of_ble_eq_true rfl⟩, ⟨rfl, rfl⟩, ⟨Nat.le_of_ble_eq_true rfl, Nat.le_of_ble_eq_true rfl⟩⟩ rfl rfl rfl (Nat.le_of_ble_eq_true rfl) rfl dX5_readVar_5 ?_
  cases hf
  exact g_iret C E (pc := 8) dX5_readVar_8 ⟨rfl, rfl⟩
set_option maxRecDepth 100000 in
theorem cX5_readVar_k (l : Launch) (D : va_G) (yy : Nat → ClassId) (qr : Nat) (r_at : Int32) (r_kind : Int32) (r_claim : Int32) (r_how : Int32) (r_x : Int32) (r_y : Int32) (r_k : Int32) (r_seed : Int32) (r_moves : Int32) (qp : Nat) (p_n : Int32) (qp1 : Nat) (p_s : Nat → Int32) (o : Int32 × Int32) (hf : fX5_readVar r_at p_n p_s = some o) : GMet l yX5_readVar cX5_readVar 1 (some .int) rmX5_readVar 0 0 D yy [.ref qr] [(qr, .inr (4, [.ref qp, .int r_at, .int r_kind, .int r_claim, .int r_how, .int r_x, .int r_y, .int r_k, .int r_seed, .int r_moves])), (qp, .inr (3, [.int p_n, .ref qp1])), (qp1, .inl (yy 3, 80, .inl p_s))] (fun zv zw => zv = some (.int o.1) ∧ zw = [(qr, .inr (4, [.ref qp, .int o.2, .int r_kind, .int r_claim, .int r_how, .int r_x, .int r_y, .int r_k, .int r_seed, .int r_moves])), (qp, .inr (3, [.int p_n, .ref qp1])), (qp1, .inl (yy 3, 80, .inl p_s))]) :=
  g_met (by decide +kernel) (Nat.le_of_ble_eq_true rfl) (fun x hl hD hy hn C E _ => by subst hD; subst hy; exact eX5_readVar x C hn qr r_at r_kind r_claim r_how r_x r_y r_k r_seed r_moves qp p_n qp1 p_s o E hf)
def rmX5_readDigit : Room := { frames := 2, cells := 0, slots := 0, locals := 44 }
def fX5_readDigit (r_at : Int32) (p_n : Int32) (p_s : Nat → Int32) : Option (Int32 × Int32) :=
  bd (fX5_readBetween r_at p_n p_s (48 : Int32) (55 : Int32)) fun y_5 : Int32 × Int32 => some (y_5.1, y_5.2)
set_option maxRecDepth 100000 in
set_option maxHeartbeats 4000000 in
theorem eX5_readDigit (x : GX) (C : GC x cX5_readDigit RX5 rmX5_readDigit) (N : xn x = 1) (qr : Nat) (r_at : Int32) (r_kind : Int32) (r_claim : Int32) (r_how : Int32) (r_x : Int32) (r_y : Int32) (r_k : Int32) (r_seed : Int32) (r_moves : Int32) (qp : Nat) (p_n : Int32) (qp1 : Nat) (p_s : Nat → Int32) (o : Int32 × Int32) (E : GE x (some .int) 0 0 (fun zv zw => zv = some (.int o.1) ∧ zw = [(qr, .inr (4, [.ref qp, .int o.2, .int r_kind, .int r_claim, .int r_how, .int r_x, .int r_y, .int r_k, .int r_seed, .int r_moves])), (qp, .inr (3, [.int p_n, .ref qp1])), (qp1, .inl ((xy x) 3, 80, .inl p_s))])) (hf : fX5_readDigit r_at p_n p_s = some o)  : GW x 0 0 [(qr, .inr (4, [.ref qp, .int r_at, .int r_kind, .int r_claim, .int r_how, .int r_x, .int r_y, .int r_k, .int r_seed, .int r_moves])), (qp, .inr (3, [.int p_n, .ref qp1])), (qp1, .inl ((xy x) 3, 80, .inl p_s))] [(0, .ref qr)] 0 [] := by
  unfold fX5_readDigit at hf
  refine g_aload_n C (pc := 0) 0 dX5_readDigit_0 rfl rfl ?_
  refine g_bipush C (pc := 1) dX5_readDigit_1 ck_bipush_48 ?_
  refine g_bipush C (pc := 3) dX5_readDigit_3 ck_bipush_55 ?_
  obtain ⟨y_5, h_5, hf⟩ := k_bd hf
  refine g_callA C (pc := 5) (b := qr) (As := [.int (48 : Int32), .int (55 : Int32)]) (rest := []) (v1 := (some (.int y_5.1))) (st' := [.int y_5.1]) (w1 := [(qr, .inr (4, [.ref qp, .int y_5.2, .int r_kind, .int r_claim, .int r_how, .int r_x, .int r_y, .int r_k, .int r_seed, .int r_moves])), (qp, .inr (3, [.int p_n, .ref qp1])), (qp1, .inl ((xy x) 3, 80, .inl p_s))]) 0 lkX5_readBetween lVX5_98 (cX5_readBetween_k (xl x) (xD x) (xy x) qr r_at r_kind r_claim r_how r_x r_y r_k r_seed r_moves qp p_n qp1 p_s (48 : Int32) (55 : Int32) y_5 h_5) rfl ⟨⟨Nat.le_of_ble_eq_true rfl, Nat.le_of_ble_eq_true rfl⟩, ⟨rfl, rfl⟩, ⟨Nat.le_of_ble_eq_true rfl, Nat.le_of_ble_eq_true rfl⟩⟩ rfl rfl rfl (Nat.le_of_ble_eq_true rfl) rfl dX5_readDigit_5 ?_
  cases hf
  exact g_iret C E (pc := 8) dX5_readDigit_8 ⟨rfl, rfl⟩
set_option maxRecDepth 100000 in
theorem cX5_readDigit_k (l : Launch) (D : va_G) (yy : Nat → ClassId) (qr : Nat) (r_at : Int32) (r_kind : Int32) (r_claim : Int32) (r_how : Int32) (r_x : Int32) (r_y : Int32) (r_k : Int32) (r_seed : Int32) (r_moves : Int32) (qp : Nat) (p_n : Int32) (qp1 : Nat) (p_s : Nat → Int32) (o : Int32 × Int32) (hf : fX5_readDigit r_at p_n p_s = some o) : GMet l yX5_readDigit cX5_readDigit 1 (some .int) rmX5_readDigit 0 0 D yy [.ref qr] [(qr, .inr (4, [.ref qp, .int r_at, .int r_kind, .int r_claim, .int r_how, .int r_x, .int r_y, .int r_k, .int r_seed, .int r_moves])), (qp, .inr (3, [.int p_n, .ref qp1])), (qp1, .inl (yy 3, 80, .inl p_s))] (fun zv zw => zv = some (.int o.1) ∧ zw = [(qr, .inr (4, [.ref qp, .int o.2, .int r_kind, .int r_claim, .int r_how, .int r_x, .int r_y, .int r_k, .int r_seed, .int r_moves])), (qp, .inr (3, [.int p_n, .ref qp1])), (qp1, .inl (yy 3, 80, .inl p_s))]) :=
  g_met (by decide +kernel) (Nat.le_of_ble_eq_true rfl) (fun x hl hD hy hn C E _ => by subst hD; subst hy; exact eX5_readDigit x C hn qr r_at r_kind r_claim r_how r_x r_y r_k r_seed r_moves qp p_n qp1 p_s o E hf)
def rmX5_formOf : Room := { frames := 0, cells := 0, slots := 0, locals := 0 }
def fX5_formOf (p0 : Int32) : Option (Int32) :=
  if p0 = 33 then some (2 : Int32) else if p0 = 37 then some (9 : Int32) else if p0 = 38 then some (8 : Int32) else if p0 = 60 then some (3 : Int32) else if p0 = 61 then some (1 : Int32) else if p0 = 62 then some (4 : Int32) else some (-8 : Int32)
set_option maxRecDepth 100000 in
set_option maxHeartbeats 4000000 in
theorem eX5_formOf (x : GX) (C : GC x cX5_formOf RX5 rmX5_formOf) (N : xn x = 1) (p0 : Int32) (o : Int32) (E : GE x (some .int) 0 0 (fun zv zw => zv = some (.int o) ∧ zw = [])) (hf : fX5_formOf p0 = some o)  : GW x 0 0 [] [(0, .int p0)] 0 [] := by
  unfold fX5_formOf at hf
  refine g_iload_n C (pc := 0) 0 dX5_formOf_0 rfl rfl ?_
  by_cases s_1_0 : p0 = 33
  · replace hf := (k_if hf).1 s_1_0
    refine g_lsw C (pc := 1) (off := 61) 62 dX5_formOf_1 (by decide +kernel) (by rw [s_1_0] <;> rfl) (by decide) ?_
    refine g_iconst C (pc := 62) dX5_formOf_62 ck_iconst_2 ?_
    cases hf
    exact g_iret C E (pc := 63) dX5_formOf_63 ⟨rfl, rfl⟩
  replace hf := (k_if hf).2 s_1_0
  by_cases s_1_1 : p0 = 37
  · replace hf := (k_if hf).1 s_1_1
    refine g_lsw C (pc := 1) (off := 70) 71 dX5_formOf_1 (by decide +kernel) (by rw [s_1_1] <;> rfl) (by decide) ?_
    refine g_bipush C (pc := 71) dX5_formOf_71 ck_bipush_9 ?_
    cases hf
    exact g_iret C E (pc := 73) dX5_formOf_73 ⟨rfl, rfl⟩
  replace hf := (k_if hf).2 s_1_1
  by_cases s_1_2 : p0 = 38
  · replace hf := (k_if hf).1 s_1_2
    refine g_lsw C (pc := 1) (off := 67) 68 dX5_formOf_1 (by decide +kernel) (by rw [s_1_2] <;> rfl) (by decide) ?_
    refine g_bipush C (pc := 68) dX5_formOf_68 ck_bipush_8 ?_
    cases hf
    exact g_iret C E (pc := 70) dX5_formOf_70 ⟨rfl, rfl⟩
  replace hf := (k_if hf).2 s_1_2
  by_cases s_1_3 : p0 = 60
  · replace hf := (k_if hf).1 s_1_3
    refine g_lsw C (pc := 1) (off := 63) 64 dX5_formOf_1 (by decide +kernel) (by rw [s_1_3] <;> rfl) (by decide) ?_
    refine g_iconst C (pc := 64) dX5_formOf_64 ck_iconst_3 ?_
    cases hf
    exact g_iret C E (pc := 65) dX5_formOf_65 ⟨rfl, rfl⟩
  replace hf := (k_if hf).2 s_1_3
  by_cases s_1_4 : p0 = 61
  · replace hf := (k_if hf).1 s_1_4
    refine g_lsw C (pc := 1) (off := 59) 60 dX5_formOf_1 (by decide +kernel) (by rw [s_1_4] <;> rfl) (by decide) ?_
    refine g_iconst C (pc := 60) dX5_formOf_60 ck_iconst_1 ?_
    cases hf
    exact g_iret C E (pc := 61) dX5_formOf_61 ⟨rfl, rfl⟩
  replace hf := (k_if hf).2 s_1_4
  by_cases s_1_5 : p0 = 62
  · replace hf := (k_if hf).1 s_1_5
    refine g_lsw C (pc := 1) (off := 65) 66 dX5_formOf_1 (by decide +kernel) (by rw [s_1_5] <;> rfl) (by decide) ?_
    refine g_iconst C (pc := 66) dX5_formOf_66 ck_iconst_4 ?_
    cases hf
    exact g_iret C E (pc := 67) dX5_formOf_67 ⟨rfl, rfl⟩
  replace hf := (k_if hf).2 s_1_5
  refine g_lsw C (pc := 1) (off := 73) 74 dX5_formOf_1 (by decide +kernel) ((lv_osw s_1_0 (by decide +kernel)).trans ((lv_osw s_1_1 (by decide +kernel)).trans ((lv_osw s_1_2 (by decide +kernel)).trans ((lv_osw s_1_3 (by decide +kernel)).trans ((lv_osw s_1_4 (by decide +kernel)).trans ((lv_osw s_1_5 (by decide +kernel)).trans rfl)))))) (by decide) ?_
  refine g_bipush C (pc := 74) dX5_formOf_74 ck_bipush_m8 ?_
  cases hf
  exact g_iret C E (pc := 76) dX5_formOf_76 ⟨rfl, rfl⟩
set_option maxRecDepth 100000 in
theorem cX5_formOf_k (l : Launch) (D : va_G) (yy : Nat → ClassId) (p0 : Int32) (o : Int32) (hf : fX5_formOf p0 = some o) : GMet l yX5_formOf cX5_formOf 1 (some .int) rmX5_formOf 0 0 D yy [.int p0] [] (fun zv zw => zv = some (.int o) ∧ zw = []) :=
  g_met (by decide +kernel) (Nat.le_of_ble_eq_true rfl) (fun x hl hD hy hn C E _ => by subst hD; subst hy; exact eX5_formOf x C hn p0 o E hf)
def rmX5_readForm : Room := { frames := 1, cells := 0, slots := 0, locals := 21 }
def fX5_readForm (r_at : Int32) (p_n : Int32) (p_s : Nat → Int32) : Option (Int32 × Int32) :=
  bd (fX4_signAt p_n p_s r_at) fun y_8 : Int32 => bd (fX5_formOf y_8) fun y_11 : Int32 => if y_11 = (-8 : Int32) then some (y_11, r_at) else some (y_11, r_at + (1 : Int32))
set_option maxRecDepth 100000 in
set_option maxHeartbeats 4000000 in
theorem eX5_readForm (x : GX) (C : GC x cX5_readForm RX5 rmX5_readForm) (N : xn x = 2) (qr : Nat) (r_at : Int32) (r_kind : Int32) (r_claim : Int32) (r_how : Int32) (r_x : Int32) (r_y : Int32) (r_k : Int32) (r_seed : Int32) (r_moves : Int32) (qp : Nat) (p_n : Int32) (qp1 : Nat) (p_s : Nat → Int32) (o : Int32 × Int32) (E : GE x (some .int) 0 0 (fun zv zw => zv = some (.int o.1) ∧ zw = [(qr, .inr (4, [.ref qp, .int o.2, .int r_kind, .int r_claim, .int r_how, .int r_x, .int r_y, .int r_k, .int r_seed, .int r_moves])), (qp, .inr (3, [.int p_n, .ref qp1])), (qp1, .inl ((xy x) 3, 80, .inl p_s))])) (hf : fX5_readForm r_at p_n p_s = some o)  : GW x 0 0 [(qr, .inr (4, [.ref qp, .int r_at, .int r_kind, .int r_claim, .int r_how, .int r_x, .int r_y, .int r_k, .int r_seed, .int r_moves])), (qp, .inr (3, [.int p_n, .ref qp1])), (qp1, .inl ((xy x) 3, 80, .inl p_s))] [(0, .ref qr)] 0 [] := by
  unfold fX5_readForm at hf
  refine g_aload_n C (pc := 0) 0 dX5_readForm_0 rfl rfl ?_
  refine g_get C (pc := 1) lfX5_12 0 rfl rfl dX5_readForm_1 ?_
  refine g_aload_n C (pc := 4) 0 dX5_readForm_4 rfl rfl ?_
  refine g_get C (pc := 5) lfX5_18 0 rfl rfl dX5_readForm_5 ?_
  obtain ⟨y_8, h_8, hf⟩ := k_bd hf
  refine g_callV C (pc := 8) (b := qp) (As := [.int r_at]) (rest := []) (v1 := (some (.int y_8))) (st' := [.int y_8]) (wc := [(qp, .inr (3, [.int p_n, .ref qp1])), (qp1, .inl ((xy x) 3, 80, .inl p_s))]) (w1 := [(qp, .inr (3, [.int p_n, .ref qp1])), (qp1, .inl ((xy x) 3, 80, .inl p_s))]) (wr := [(qr, .inr (4, [.ref qp, .int r_at, .int r_kind, .int r_claim, .int r_how, .int r_x, .int r_y, .int r_k, .int r_seed, .int r_moves]))]) (ws' := [(qr, .inr (4, [.ref qp, .int r_at, .int r_kind, .int r_claim, .int r_how, .int r_x, .int r_y, .int r_k, .int r_seed, .int r_moves])), (qp, .inr (3, [.int p_n, .ref qp1])), (qp1, .inl ((xy x) 3, 80, .inl p_s))]) 0 [1, 2] [0] [0, 1, 2] lkX4_signAt lVX5_36 (cX4_signAt_k (xl x) (xD x) (xy x) qp p_n qp1 p_s r_at y_8 h_8) rfl ⟨⟨Nat.le_of_ble_eq_true rfl, Nat.le_of_ble_eq_true rfl⟩, ⟨rfl, rfl⟩, ⟨Nat.le_of_ble_eq_true rfl, Nat.le_of_ble_eq_true rfl⟩⟩ rfl rfl rfl rfl rfl rfl rfl (Nat.le_of_ble_eq_true rfl) rfl dX5_readForm_8 ?_
  obtain ⟨y_11, h_11, hf⟩ := k_bd hf
  refine g_callS0 C (pc := 11) (As := [.int y_8]) (rest := []) (v1 := (some (.int y_11))) (st' := [.int y_11]) lkX5_formOf lSX5_83 (cX5_formOf_k (xl x) (xD x) (xy x) y_8 y_11 h_11) rfl ⟨⟨Nat.le_of_ble_eq_true rfl, Nat.le_of_ble_eq_true rfl⟩, ⟨rfl, rfl⟩, ⟨Nat.le_of_ble_eq_true rfl, Nat.le_of_ble_eq_true rfl⟩⟩ rfl (Nat.le_of_ble_eq_true rfl) rfl dX5_readForm_11 ?_
  refine g_istore_n C (pc := 14) (lo' := [(1, .int y_11), (0, .ref qr)]) dX5_readForm_14 rfl N rfl rfl ?_
  refine g_iload_n C (pc := 15) 0 dX5_readForm_15 rfl rfl ?_
  refine g_bipush C (pc := 16) dX5_readForm_16 ck_bipush_m8 ?_
  refine g_icmp_eq C (pc := 18) 31 dX5_readForm_18 (by decide) (fun c_18 => ?_) (fun c_18 => ?_)
  · replace hf := (k_if hf).1 c_18
    refine g_iload_n C (pc := 31) 0 dX5_readForm_31 rfl rfl ?_
    cases hf
    exact g_iret C E (pc := 32) dX5_readForm_32 ⟨rfl, rfl⟩
  · replace hf := (k_if hf).2 c_18
    refine g_aload_n C (pc := 21) 1 dX5_readForm_21 rfl rfl ?_
    refine g_dup C (pc := 22) dX5_readForm_22 rfl ?_
    refine g_get C (pc := 23) lfX5_18 0 rfl rfl dX5_readForm_23 ?_
    refine g_iconst C (pc := 26) dX5_readForm_26 ck_iconst_1 ?_
    refine g_iadd C (pc := 27) dX5_readForm_27 ?_
    refine g_put C (pc := 28) (ws' := [(qr, .inr (4, [.ref qp, .int (r_at + (1 : Int32)), .int r_kind, .int r_claim, .int r_how, .int r_x, .int r_y, .int r_k, .int r_seed, .int r_moves])), (qp, .inr (3, [.int p_n, .ref qp1])), (qp1, .inl ((xy x) 3, 80, .inl p_s))]) lpX5_18 0 rfl rfl rfl rfl (Nat.le_of_ble_eq_true rfl) rfl dX5_readForm_28 ?_
    refine g_iload_n C (pc := 31) 0 dX5_readForm_31 rfl rfl ?_
    cases hf
    exact g_iret C E (pc := 32) dX5_readForm_32 ⟨rfl, rfl⟩
set_option maxRecDepth 100000 in
theorem cX5_readForm_k (l : Launch) (D : va_G) (yy : Nat → ClassId) (qr : Nat) (r_at : Int32) (r_kind : Int32) (r_claim : Int32) (r_how : Int32) (r_x : Int32) (r_y : Int32) (r_k : Int32) (r_seed : Int32) (r_moves : Int32) (qp : Nat) (p_n : Int32) (qp1 : Nat) (p_s : Nat → Int32) (o : Int32 × Int32) (hf : fX5_readForm r_at p_n p_s = some o) : GMet l yX5_readForm cX5_readForm 2 (some .int) rmX5_readForm 0 0 D yy [.ref qr] [(qr, .inr (4, [.ref qp, .int r_at, .int r_kind, .int r_claim, .int r_how, .int r_x, .int r_y, .int r_k, .int r_seed, .int r_moves])), (qp, .inr (3, [.int p_n, .ref qp1])), (qp1, .inl (yy 3, 80, .inl p_s))] (fun zv zw => zv = some (.int o.1) ∧ zw = [(qr, .inr (4, [.ref qp, .int o.2, .int r_kind, .int r_claim, .int r_how, .int r_x, .int r_y, .int r_k, .int r_seed, .int r_moves])), (qp, .inr (3, [.int p_n, .ref qp1])), (qp1, .inl (yy 3, 80, .inl p_s))]) :=
  g_met (by decide +kernel) (Nat.le_of_ble_eq_true rfl) (fun x hl hD hy hn C E _ => by subst hD; subst hy; exact eX5_readForm x C hn qr r_at r_kind r_claim r_how r_x r_y r_k r_seed r_moves qp p_n qp1 p_s o E hf)
def rmX5_readOffset : Room := { frames := 3, cells := 0, slots := 0, locals := 64 }
def jX5_readOffset_22 (p_n : Int32) (p_s : Nat → Int32) (y_3 : Int32 × Int32) (k22_r_at : Int32) : Option (Int32 × Int32) :=
  bd (fX5_readDigit k22_r_at p_n p_s) fun y_23 : Int32 × Int32 => if y_3.1 = 0 then some (y_23.1, y_23.2) else if y_23.1 = (-8 : Int32) then some (y_23.1, y_23.2) else some (-y_23.1, y_23.2)
set_option maxRecDepth 100000 in
set_option maxHeartbeats 4000000 in
theorem tX5_readOffset_22 (x : GX) (C : GC x cX5_readOffset RX5 rmX5_readOffset) (N : xn x = 3) (qr : Nat) (r_kind : Int32) (r_claim : Int32) (r_how : Int32) (r_x : Int32) (r_y : Int32) (r_k : Int32) (r_seed : Int32) (r_moves : Int32) (qp : Nat) (p_n : Int32) (qp1 : Nat) (p_s : Nat → Int32) (y_3 : Int32 × Int32) (k22_r_at : Int32) (o : Int32 × Int32) (E : GE x (some .int) 0 0 (fun zv zw => zv = some (.int o.1) ∧ zw = [(qr, .inr (4, [.ref qp, .int o.2, .int r_kind, .int r_claim, .int r_how, .int r_x, .int r_y, .int r_k, .int r_seed, .int r_moves])), (qp, .inr (3, [.int p_n, .ref qp1])), (qp1, .inl ((xy x) 3, 80, .inl p_s))])) (hf : jX5_readOffset_22 p_n p_s y_3 k22_r_at = some o)  : GW x 0 0 [(qr, .inr (4, [.ref qp, .int k22_r_at, .int r_kind, .int r_claim, .int r_how, .int r_x, .int r_y, .int r_k, .int r_seed, .int r_moves])), (qp, .inr (3, [.int p_n, .ref qp1])), (qp1, .inl ((xy x) 3, 80, .inl p_s))] [(0, .ref qr), (1, .int y_3.1)] 22 [] := by
  unfold jX5_readOffset_22 at hf
  refine g_aload_n C (pc := 22) 0 dX5_readOffset_22 rfl rfl ?_
  obtain ⟨y_23, h_23, hf⟩ := k_bd hf
  refine g_callA C (pc := 23) (b := qr) (As := []) (rest := []) (v1 := (some (.int y_23.1))) (st' := [.int y_23.1]) (w1 := [(qr, .inr (4, [.ref qp, .int y_23.2, .int r_kind, .int r_claim, .int r_how, .int r_x, .int r_y, .int r_k, .int r_seed, .int r_moves])), (qp, .inr (3, [.int p_n, .ref qp1])), (qp1, .inl ((xy x) 3, 80, .inl p_s))]) 0 lkX5_readDigit lVX5_80 (cX5_readDigit_k (xl x) (xD x) (xy x) qr k22_r_at r_kind r_claim r_how r_x r_y r_k r_seed r_moves qp p_n qp1 p_s y_23 h_23) rfl ⟨⟨Nat.le_of_ble_eq_true rfl, Nat.le_of_ble_eq_true rfl⟩, ⟨rfl, rfl⟩, ⟨Nat.le_of_ble_eq_true rfl, Nat.le_of_ble_eq_true rfl⟩⟩ rfl rfl rfl (Nat.le_of_ble_eq_true rfl) rfl dX5_readOffset_23 ?_
  refine g_istore_n C (pc := 26) (lo' := [(2, .int y_23.1), (0, .ref qr), (1, .int y_3.1)]) dX5_readOffset_26 rfl N rfl rfl ?_
  refine g_iload_n C (pc := 27) 2 dX5_readOffset_27 rfl rfl ?_
  refine g_if_eq C (pc := 28) 42 dX5_readOffset_28 (by decide) (fun c_28 => ?_) (fun c_28 => ?_)
  · replace hf := (k_if hf).1 c_28
    refine g_iload_n C (pc := 42) 0 dX5_readOffset_42 rfl rfl ?_
    cases hf
    exact g_iret C E (pc := 43) dX5_readOffset_43 ⟨rfl, rfl⟩
  · replace hf := (k_if hf).2 c_28
    refine g_iload_n C (pc := 31) 0 dX5_readOffset_31 rfl rfl ?_
    refine g_bipush C (pc := 32) dX5_readOffset_32 ck_bipush_m8 ?_
    refine g_icmp_eq C (pc := 34) 42 dX5_readOffset_34 (by decide) (fun c_34 => ?_) (fun c_34 => ?_)
    · replace hf := (k_if hf).1 c_34
      refine g_iload_n C (pc := 42) 0 dX5_readOffset_42 rfl rfl ?_
      cases hf
      exact g_iret C E (pc := 43) dX5_readOffset_43 ⟨rfl, rfl⟩
    · replace hf := (k_if hf).2 c_34
      refine g_iload_n C (pc := 37) 0 dX5_readOffset_37 rfl rfl ?_
      refine g_ineg C (pc := 38) dX5_readOffset_38 ?_
      refine g_goto C (pc := 39) (tgt := 43) dX5_readOffset_39 (by decide) ?_
      cases hf
      exact g_iret C E (pc := 43) dX5_readOffset_43 ⟨rfl, rfl⟩
def fX5_readOffset (r_at : Int32) (p_n : Int32) (p_s : Nat → Int32) : Option (Int32 × Int32) :=
  bd (fX5_take r_at p_n p_s (45 : Int32)) fun y_3 : Int32 × Int32 => if y_3.1 = 0 then bd (fX5_take y_3.2 p_n p_s (43 : Int32)) fun y_14 : Int32 × Int32 => if y_14.1 = 0 then some ((0 : Int32), y_14.2) else jX5_readOffset_22 p_n p_s y_3 y_14.2 else jX5_readOffset_22 p_n p_s y_3 y_3.2
set_option maxRecDepth 100000 in
set_option maxHeartbeats 4000000 in
theorem eX5_readOffset (x : GX) (C : GC x cX5_readOffset RX5 rmX5_readOffset) (N : xn x = 3) (qr : Nat) (r_at : Int32) (r_kind : Int32) (r_claim : Int32) (r_how : Int32) (r_x : Int32) (r_y : Int32) (r_k : Int32) (r_seed : Int32) (r_moves : Int32) (qp : Nat) (p_n : Int32) (qp1 : Nat) (p_s : Nat → Int32) (o : Int32 × Int32) (E : GE x (some .int) 0 0 (fun zv zw => zv = some (.int o.1) ∧ zw = [(qr, .inr (4, [.ref qp, .int o.2, .int r_kind, .int r_claim, .int r_how, .int r_x, .int r_y, .int r_k, .int r_seed, .int r_moves])), (qp, .inr (3, [.int p_n, .ref qp1])), (qp1, .inl ((xy x) 3, 80, .inl p_s))])) (hf : fX5_readOffset r_at p_n p_s = some o)  : GW x 0 0 [(qr, .inr (4, [.ref qp, .int r_at, .int r_kind, .int r_claim, .int r_how, .int r_x, .int r_y, .int r_k, .int r_seed, .int r_moves])), (qp, .inr (3, [.int p_n, .ref qp1])), (qp1, .inl ((xy x) 3, 80, .inl p_s))] [(0, .ref qr)] 0 [] := by
  unfold fX5_readOffset at hf
  refine g_aload_n C (pc := 0) 0 dX5_readOffset_0 rfl rfl ?_
  refine g_bipush C (pc := 1) dX5_readOffset_1 ck_bipush_45 ?_
  obtain ⟨y_3, h_3, hf⟩ := k_bd hf
  refine g_callA C (pc := 3) (b := qr) (As := [.int (45 : Int32)]) (rest := []) (v1 := (some (.int y_3.1))) (st' := [.int y_3.1]) (w1 := [(qr, .inr (4, [.ref qp, .int y_3.2, .int r_kind, .int r_claim, .int r_how, .int r_x, .int r_y, .int r_k, .int r_seed, .int r_moves])), (qp, .inr (3, [.int p_n, .ref qp1])), (qp1, .inl ((xy x) 3, 80, .inl p_s))]) 0 lkX5_take lVX5_32 (cX5_take_k (xl x) (xD x) (xy x) qr r_at r_kind r_claim r_how r_x r_y r_k r_seed r_moves qp p_n qp1 p_s (45 : Int32) y_3 h_3) rfl ⟨⟨Nat.le_of_ble_eq_true rfl, Nat.le_of_ble_eq_true rfl⟩, ⟨rfl, rfl⟩, ⟨Nat.le_of_ble_eq_true rfl, Nat.le_of_ble_eq_true rfl⟩⟩ rfl rfl rfl (Nat.le_of_ble_eq_true rfl) rfl dX5_readOffset_3 ?_
  refine g_istore_n C (pc := 6) (lo' := [(1, .int y_3.1), (0, .ref qr)]) dX5_readOffset_6 rfl N rfl rfl ?_
  refine g_iload_n C (pc := 7) 0 dX5_readOffset_7 rfl rfl ?_
  refine g_if_ne C (pc := 8) 22 dX5_readOffset_8 (by decide) (fun c_8 => ?_) (fun c_8 => ?_)
  · replace hf := (k_if hf).2 c_8
    exact g_lo [1, 0] rfl (tX5_readOffset_22 x C N qr r_kind r_claim r_how r_x r_y r_k r_seed r_moves qp p_n qp1 p_s y_3 y_3.2 o E hf)
  · replace hf := (k_if hf).1 c_8
    refine g_aload_n C (pc := 11) 1 dX5_readOffset_11 rfl rfl ?_
    refine g_bipush C (pc := 12) dX5_readOffset_12 ck_bipush_43 ?_
    obtain ⟨y_14, h_14, hf⟩ := k_bd hf
    refine g_callA C (pc := 14) (b := qr) (As := [.int (43 : Int32)]) (rest := []) (v1 := (some (.int y_14.1))) (st' := [.int y_14.1]) (w1 := [(qr, .inr (4, [.ref qp, .int y_14.2, .int r_kind, .int r_claim, .int r_how, .int r_x, .int r_y, .int r_k, .int r_seed, .int r_moves])), (qp, .inr (3, [.int p_n, .ref qp1])), (qp1, .inl ((xy x) 3, 80, .inl p_s))]) 0 lkX5_take lVX5_32 (cX5_take_k (xl x) (xD x) (xy x) qr y_3.2 r_kind r_claim r_how r_x r_y r_k r_seed r_moves qp p_n qp1 p_s (43 : Int32) y_14 h_14) rfl ⟨⟨Nat.le_of_ble_eq_true rfl, Nat.le_of_ble_eq_true rfl⟩, ⟨rfl, rfl⟩, ⟨Nat.le_of_ble_eq_true rfl, Nat.le_of_ble_eq_true rfl⟩⟩ rfl rfl rfl (Nat.le_of_ble_eq_true rfl) rfl dX5_readOffset_14 ?_
    refine g_if_ne C (pc := 17) 22 dX5_readOffset_17 (by decide) (fun c_17 => ?_) (fun c_17 => ?_)
    · replace hf := (k_if hf).2 c_17
      exact g_lo [1, 0] rfl (tX5_readOffset_22 x C N qr r_kind r_claim r_how r_x r_y r_k r_seed r_moves qp p_n qp1 p_s y_3 y_14.2 o E hf)
    · replace hf := (k_if hf).1 c_17
      refine g_iconst C (pc := 20) dX5_readOffset_20 ck_iconst_0 ?_
      cases hf
      exact g_iret C E (pc := 21) dX5_readOffset_21 ⟨rfl, rfl⟩
set_option maxRecDepth 100000 in
theorem cX5_readOffset_k (l : Launch) (D : va_G) (yy : Nat → ClassId) (qr : Nat) (r_at : Int32) (r_kind : Int32) (r_claim : Int32) (r_how : Int32) (r_x : Int32) (r_y : Int32) (r_k : Int32) (r_seed : Int32) (r_moves : Int32) (qp : Nat) (p_n : Int32) (qp1 : Nat) (p_s : Nat → Int32) (o : Int32 × Int32) (hf : fX5_readOffset r_at p_n p_s = some o) : GMet l yX5_readOffset cX5_readOffset 3 (some .int) rmX5_readOffset 0 0 D yy [.ref qr] [(qr, .inr (4, [.ref qp, .int r_at, .int r_kind, .int r_claim, .int r_how, .int r_x, .int r_y, .int r_k, .int r_seed, .int r_moves])), (qp, .inr (3, [.int p_n, .ref qp1])), (qp1, .inl (yy 3, 80, .inl p_s))] (fun zv zw => zv = some (.int o.1) ∧ zw = [(qr, .inr (4, [.ref qp, .int o.2, .int r_kind, .int r_claim, .int r_how, .int r_x, .int r_y, .int r_k, .int r_seed, .int r_moves])), (qp, .inr (3, [.int p_n, .ref qp1])), (qp1, .inl (yy 3, 80, .inl p_s))]) :=
  g_met (by decide +kernel) (Nat.le_of_ble_eq_true rfl) (fun x hl hD hy hn C E _ => by subst hD; subst hy; exact eX5_readOffset x C hn qr r_at r_kind r_claim r_how r_x r_y r_k r_seed r_moves qp p_n qp1 p_s o E hf)
def rmX5_readNumber : Room := { frames := 2, cells := 0, slots := 0, locals := 44 }
def gX5_readNumber_11 (p_n : Int32) (p_s : Nat → Int32) (a_11 : Int32 × Int32 × Int32) : Option ((Int32 × Int32 × Int32) ⊕ ((Int32 × Int32 × Int32) ⊕ (Int32 × Int32))) :=
  if (3 : Int32) ≤ a_11.2.1 then some (.inr (.inl (a_11.1, a_11.2.1, a_11.2.2))) else if a_11.1 ≤ 0 then some (.inr (.inl (a_11.1, a_11.2.1, a_11.2.2))) else bd (fX5_readBetween a_11.2.2 p_n p_s (48 : Int32) (57 : Int32)) fun y_25 : Int32 × Int32 => if y_25.1 = (-8 : Int32) then some (.inr (.inl (a_11.1, a_11.2.1, y_25.2))) else some (.inl (((10 : Int32) * a_11.1) + y_25.1, a_11.2.1 + 1, y_25.2))
set_option maxRecDepth 100000 in
set_option maxHeartbeats 4000000 in
theorem bX5_readNumber_11 (x : GX) (C : GC x cX5_readNumber RX5 rmX5_readNumber) (N : xn x = 4) (qr : Nat) (r_kind : Int32) (r_claim : Int32) (r_how : Int32) (r_x : Int32) (r_y : Int32) (r_k : Int32) (r_seed : Int32) (r_moves : Int32) (qp : Nat) (p_n : Int32) (qp1 : Nat) (p_s : Nat → Int32) (a_11 : Int32 × Int32 × Int32) (o : Int32 × Int32) (r : (Int32 × Int32 × Int32) ⊕ ((Int32 × Int32 × Int32) ⊕ (Int32 × Int32))) (E : GE x (some .int) 0 0 (fun zv zw => zv = some (.int o.1) ∧ zw = [(qr, .inr (4, [.ref qp, .int o.2, .int r_kind, .int r_claim, .int r_how, .int r_x, .int r_y, .int r_k, .int r_seed, .int r_moves])), (qp, .inr (3, [.int p_n, .ref qp1])), (qp1, .inl ((xy x) 3, 80, .inl p_s))])) (hf : gX5_readNumber_11 p_n p_s a_11 = some r) (kn : ∀ e : Int32 × Int32 × Int32, r = .inl e → GW x 0 0 [(qr, .inr (4, [.ref qp, .int e.2.2, .int r_kind, .int r_claim, .int r_how, .int r_x, .int r_y, .int r_k, .int r_seed, .int r_moves])), (qp, .inr (3, [.int p_n, .ref qp1])), (qp1, .inl ((xy x) 3, 80, .inl p_s))] [(0, .ref qr), (1, .int e.1), (2, .int e.2.1)] 11 []) (kx : ∀ e : Int32 × Int32 × Int32, r = .inr (.inl e) → GW x 0 0 [(qr, .inr (4, [.ref qp, .int e.2.2, .int r_kind, .int r_claim, .int r_how, .int r_x, .int r_y, .int r_k, .int r_seed, .int r_moves])), (qp, .inr (3, [.int p_n, .ref qp1])), (qp1, .inl ((xy x) 3, 80, .inl p_s))] [(1, .int e.1)] 51 []) (kr : ∀ o' : Int32 × Int32, r = .inr (.inr o') → o' = o) : GW x 0 0 [(qr, .inr (4, [.ref qp, .int a_11.2.2, .int r_kind, .int r_claim, .int r_how, .int r_x, .int r_y, .int r_k, .int r_seed, .int r_moves])), (qp, .inr (3, [.int p_n, .ref qp1])), (qp1, .inl ((xy x) 3, 80, .inl p_s))] [(0, .ref qr), (1, .int a_11.1), (2, .int a_11.2.1)] 11 [] := by
  unfold gX5_readNumber_11 at hf
  refine g_iload_n C (pc := 11) 2 dX5_readNumber_11 rfl rfl ?_
  refine g_iconst C (pc := 12) dX5_readNumber_12 ck_iconst_3 ?_
  refine g_icmp_ge C (pc := 13) 51 dX5_readNumber_13 (by decide) (fun c_13 => ?_) (fun c_13 => ?_)
  · replace hf := (k_if hf).1 c_13
    cases hf
    exact g_lo [1] rfl (kx (a_11.1, a_11.2.1, a_11.2.2) rfl)
  · replace hf := (k_if hf).2 c_13
    refine g_iload_n C (pc := 16) 1 dX5_readNumber_16 rfl rfl ?_
    refine g_if_le C (pc := 17) 51 dX5_readNumber_17 (by decide) (fun c_17 => ?_) (fun c_17 => ?_)
    · replace hf := (k_if hf).1 c_17
      cases hf
      exact g_lo [1] rfl (kx (a_11.1, a_11.2.1, a_11.2.2) rfl)
    · replace hf := (k_if hf).2 c_17
      refine g_aload_n C (pc := 20) 0 dX5_readNumber_20 rfl rfl ?_
      refine g_bipush C (pc := 21) dX5_readNumber_21 ck_bipush_48 ?_
      refine g_bipush C (pc := 23) dX5_readNumber_23 ck_bipush_57 ?_
      obtain ⟨y_25, h_25, hf⟩ := k_bd hf
      refine g_callA C (pc := 25) (b := qr) (As := [.int (48 : Int32), .int (57 : Int32)]) (rest := []) (v1 := (some (.int y_25.1))) (st' := [.int y_25.1]) (w1 := [(qr, .inr (4, [.ref qp, .int y_25.2, .int r_kind, .int r_claim, .int r_how, .int r_x, .int r_y, .int r_k, .int r_seed, .int r_moves])), (qp, .inr (3, [.int p_n, .ref qp1])), (qp1, .inl ((xy x) 3, 80, .inl p_s))]) 0 lkX5_readBetween lVX5_98 (cX5_readBetween_k (xl x) (xD x) (xy x) qr a_11.2.2 r_kind r_claim r_how r_x r_y r_k r_seed r_moves qp p_n qp1 p_s (48 : Int32) (57 : Int32) y_25 h_25) rfl ⟨⟨Nat.le_of_ble_eq_true rfl, Nat.le_of_ble_eq_true rfl⟩, ⟨rfl, rfl⟩, ⟨Nat.le_of_ble_eq_true rfl, Nat.le_of_ble_eq_true rfl⟩⟩ rfl rfl rfl (Nat.le_of_ble_eq_true rfl) rfl dX5_readNumber_25 ?_
      refine g_istore_n C (pc := 28) (lo' := [(3, .int y_25.1), (0, .ref qr), (1, .int a_11.1), (2, .int a_11.2.1)]) dX5_readNumber_28 rfl N rfl rfl ?_
      refine g_iload_n C (pc := 29) 0 dX5_readNumber_29 rfl rfl ?_
      refine g_bipush C (pc := 30) dX5_readNumber_30 ck_bipush_m8 ?_
      refine g_icmp_ne C (pc := 32) 38 dX5_readNumber_32 (by decide) (fun c_32 => ?_) (fun c_32 => ?_)
      · replace hf := (k_if hf).2 c_32
        refine g_bipush C (pc := 38) dX5_readNumber_38 ck_bipush_10 ?_
        refine g_iload_n C (pc := 40) 2 dX5_readNumber_40 rfl rfl ?_
        refine g_imul C (pc := 41) dX5_readNumber_41 ?_
        refine g_iload_n C (pc := 42) 0 dX5_readNumber_42 rfl rfl ?_
        refine g_iadd C (pc := 43) dX5_readNumber_43 ?_
        refine g_istore_n C (pc := 44) (lo' := [(1, .int (((10 : Int32) * a_11.1) + y_25.1)), (3, .int y_25.1), (0, .ref qr), (2, .int a_11.2.1)]) dX5_readNumber_44 rfl N rfl rfl ?_
        refine g_iinc C (pc := 45) (v := a_11.2.1 + 1) (lo' := [(2, .int (a_11.2.1 + 1)), (1, .int (((10 : Int32) * a_11.1) + y_25.1)), (3, .int y_25.1), (0, .ref qr)]) 3 dX5_readNumber_45 rfl (congrArg (HAdd.hAdd _) ck_iinc_1) N rfl rfl ?_
        refine g_goto C (pc := 48) (tgt := 11) dX5_readNumber_48 (by decide) ?_
        cases hf
        exact g_lo [3, 1, 0] rfl (kn (((10 : Int32) * a_11.1) + y_25.1, a_11.2.1 + 1, y_25.2) rfl)
      · replace hf := (k_if hf).1 c_32
        refine g_goto C (pc := 35) (tgt := 51) dX5_readNumber_35 (by decide) ?_
        cases hf
        exact g_lo [2] rfl (kx (a_11.1, a_11.2.1, y_25.2) rfl)
def fX5_readNumber (r_at : Int32) (p_n : Int32) (p_s : Nat → Int32) : Option (Int32 × Int32) :=
  bd (fX5_readBetween r_at p_n p_s (48 : Int32) (57 : Int32)) fun y_5 : Int32 × Int32 => bd (iter (gX5_readNumber_11 p_n p_s) FU (y_5.1, (1 : Int32), y_5.2)) fun b_11 : (Int32 × Int32 × Int32) ⊕ (Int32 × Int32) => Sum.elim (fun e_11 : Int32 × Int32 × Int32 => some (e_11.1, e_11.2.2)) (fun o_11 : Int32 × Int32 => some o_11) b_11
set_option maxRecDepth 100000 in
set_option maxHeartbeats 4000000 in
theorem eX5_readNumber (x : GX) (C : GC x cX5_readNumber RX5 rmX5_readNumber) (N : xn x = 4) (qr : Nat) (r_at : Int32) (r_kind : Int32) (r_claim : Int32) (r_how : Int32) (r_x : Int32) (r_y : Int32) (r_k : Int32) (r_seed : Int32) (r_moves : Int32) (qp : Nat) (p_n : Int32) (qp1 : Nat) (p_s : Nat → Int32) (o : Int32 × Int32) (E : GE x (some .int) 0 0 (fun zv zw => zv = some (.int o.1) ∧ zw = [(qr, .inr (4, [.ref qp, .int o.2, .int r_kind, .int r_claim, .int r_how, .int r_x, .int r_y, .int r_k, .int r_seed, .int r_moves])), (qp, .inr (3, [.int p_n, .ref qp1])), (qp1, .inl ((xy x) 3, 80, .inl p_s))])) (hf : fX5_readNumber r_at p_n p_s = some o)  : GW x 0 0 [(qr, .inr (4, [.ref qp, .int r_at, .int r_kind, .int r_claim, .int r_how, .int r_x, .int r_y, .int r_k, .int r_seed, .int r_moves])), (qp, .inr (3, [.int p_n, .ref qp1])), (qp1, .inl ((xy x) 3, 80, .inl p_s))] [(0, .ref qr)] 0 [] := by
  unfold fX5_readNumber at hf
  refine g_aload_n C (pc := 0) 0 dX5_readNumber_0 rfl rfl ?_
  refine g_bipush C (pc := 1) dX5_readNumber_1 ck_bipush_48 ?_
  refine g_bipush C (pc := 3) dX5_readNumber_3 ck_bipush_57 ?_
  obtain ⟨y_5, h_5, hf⟩ := k_bd hf
  refine g_callA C (pc := 5) (b := qr) (As := [.int (48 : Int32), .int (57 : Int32)]) (rest := []) (v1 := (some (.int y_5.1))) (st' := [.int y_5.1]) (w1 := [(qr, .inr (4, [.ref qp, .int y_5.2, .int r_kind, .int r_claim, .int r_how, .int r_x, .int r_y, .int r_k, .int r_seed, .int r_moves])), (qp, .inr (3, [.int p_n, .ref qp1])), (qp1, .inl ((xy x) 3, 80, .inl p_s))]) 0 lkX5_readBetween lVX5_98 (cX5_readBetween_k (xl x) (xD x) (xy x) qr r_at r_kind r_claim r_how r_x r_y r_k r_seed r_moves qp p_n qp1 p_s (48 : Int32) (57 : Int32) y_5 h_5) rfl ⟨⟨Nat.le_of_ble_eq_true rfl, Nat.le_of_ble_eq_true rfl⟩, ⟨rfl, rfl⟩, ⟨Nat.le_of_ble_eq_true rfl, Nat.le_of_ble_eq_true rfl⟩⟩ rfl rfl rfl (Nat.le_of_ble_eq_true rfl) rfl dX5_readNumber_5 ?_
  refine g_istore_n C (pc := 8) (lo' := [(1, .int y_5.1), (0, .ref qr)]) dX5_readNumber_8 rfl N rfl rfl ?_
  refine g_iconst C (pc := 9) dX5_readNumber_9 ck_iconst_1 ?_
  refine g_istore_n C (pc := 10) (lo' := [(2, .int (1 : Int32)), (1, .int y_5.1), (0, .ref qr)]) dX5_readNumber_10 rfl N rfl rfl ?_
  obtain ⟨b_11, hb_11, hf⟩ := k_bd hf
  refine g_lo [2, 1, 0] rfl ?_
  refine g_loop (g := (gX5_readNumber_11 p_n p_s)) (fun e : Int32 × Int32 × Int32 => [(qr, .inr (4, [.ref qp, .int e.2.2, .int r_kind, .int r_claim, .int r_how, .int r_x, .int r_y, .int r_k, .int r_seed, .int r_moves])), (qp, .inr (3, [.int p_n, .ref qp1])), (qp1, .inl ((xy x) 3, 80, .inl p_s))]) (fun e : Int32 × Int32 × Int32 => [(0, .ref qr), (1, .int e.1), (2, .int e.2.1)]) 11 (fun b : (Int32 × Int32 × Int32) ⊕ (Int32 × Int32) => (∀ e : Int32 × Int32 × Int32, b = .inl e → GW x 0 0 [(qr, .inr (4, [.ref qp, .int e.2.2, .int r_kind, .int r_claim, .int r_how, .int r_x, .int r_y, .int r_k, .int r_seed, .int r_moves])), (qp, .inr (3, [.int p_n, .ref qp1])), (qp1, .inl ((xy x) 3, 80, .inl p_s))] [(1, .int e.1)] 51 []) ∧ (∀ o' : Int32 × Int32, b = .inr o' → o' = o)) (fun a r hg kn kx => bX5_readNumber_11 x C N qr r_kind r_claim r_how r_x r_y r_k r_seed r_moves qp p_n qp1 p_s a o r E hg kn (fun e he => (kx _ he).1 e rfl) (fun z he => (kx _ he).2 z rfl)) FU _ b_11 hb_11 ?_
  refine ⟨fun e_11 he => ?_, fun o_11 he => ?_⟩ <;> subst he
  · replace hf := k_eliml hf
    refine g_iload_n C (pc := 51) 0 dX5_readNumber_51 rfl rfl ?_
    cases hf
    exact g_iret C E (pc := 52) dX5_readNumber_52 ⟨rfl, rfl⟩
  · replace hf := k_elimr hf
    exact k_some hf
set_option maxRecDepth 100000 in
theorem cX5_readNumber_k (l : Launch) (D : va_G) (yy : Nat → ClassId) (qr : Nat) (r_at : Int32) (r_kind : Int32) (r_claim : Int32) (r_how : Int32) (r_x : Int32) (r_y : Int32) (r_k : Int32) (r_seed : Int32) (r_moves : Int32) (qp : Nat) (p_n : Int32) (qp1 : Nat) (p_s : Nat → Int32) (o : Int32 × Int32) (hf : fX5_readNumber r_at p_n p_s = some o) : GMet l yX5_readNumber cX5_readNumber 4 (some .int) rmX5_readNumber 0 0 D yy [.ref qr] [(qr, .inr (4, [.ref qp, .int r_at, .int r_kind, .int r_claim, .int r_how, .int r_x, .int r_y, .int r_k, .int r_seed, .int r_moves])), (qp, .inr (3, [.int p_n, .ref qp1])), (qp1, .inl (yy 3, 80, .inl p_s))] (fun zv zw => zv = some (.int o.1) ∧ zw = [(qr, .inr (4, [.ref qp, .int o.2, .int r_kind, .int r_claim, .int r_how, .int r_x, .int r_y, .int r_k, .int r_seed, .int r_moves])), (qp, .inr (3, [.int p_n, .ref qp1])), (qp1, .inl (yy 3, 80, .inl p_s))]) :=
  g_met (by decide +kernel) (Nat.le_of_ble_eq_true rfl) (fun x hl hD hy hn C E _ => by subst hD; subst hy; exact eX5_readNumber x C hn qr r_at r_kind r_claim r_how r_x r_y r_k r_seed r_moves qp p_n qp1 p_s o E hf)
def rmX5_readRun : Room := { frames := 3, cells := 0, slots := 0, locals := 67 }
def fX5_readRun (r_at : Int32) (r_moves : Int32) (p_n : Int32) (p_s : Nat → Int32) : Option (Int32 × Int32 × Int32 × Int32) :=
  bd (fX5_readNumber r_at p_n p_s) fun y_2 : Int32 × Int32 => if y_2.1 = (-8 : Int32) then some ((0 : Int32), y_2.2, y_2.1, r_moves) else bd (fX5_take y_2.2 p_n p_s (42 : Int32)) fun y_20 : Int32 × Int32 => if y_20.1 = 0 then some ((0 : Int32), y_20.2, y_2.1, r_moves) else bd (fX5_readNumber y_20.2 p_n p_s) fun y_30 : Int32 × Int32 => if y_30.1 = (-8 : Int32) then some ((0 : Int32), y_30.2, y_2.1, y_30.1) else some ((1 : Int32), y_30.2, y_2.1, y_30.1)
set_option maxRecDepth 100000 in
set_option maxHeartbeats 4000000 in
theorem eX5_readRun (x : GX) (C : GC x cX5_readRun RX5 rmX5_readRun) (N : xn x = 1) (qr : Nat) (r_at : Int32) (r_kind : Int32) (r_claim : Int32) (r_how : Int32) (r_x : Int32) (r_y : Int32) (r_k : Int32) (r_seed : Int32) (r_moves : Int32) (qp : Nat) (p_n : Int32) (qp1 : Nat) (p_s : Nat → Int32) (o : Int32 × Int32 × Int32 × Int32) (E : GE x (some .boolean) 0 0 (fun zv zw => zv = some (.int o.1) ∧ zw = [(qr, .inr (4, [.ref qp, .int o.2.1, .int r_kind, .int r_claim, .int r_how, .int r_x, .int r_y, .int r_k, .int o.2.2.1, .int o.2.2.2])), (qp, .inr (3, [.int p_n, .ref qp1])), (qp1, .inl ((xy x) 3, 80, .inl p_s))])) (hf : fX5_readRun r_at r_moves p_n p_s = some o)  : GW x 0 0 [(qr, .inr (4, [.ref qp, .int r_at, .int r_kind, .int r_claim, .int r_how, .int r_x, .int r_y, .int r_k, .int r_seed, .int r_moves])), (qp, .inr (3, [.int p_n, .ref qp1])), (qp1, .inl ((xy x) 3, 80, .inl p_s))] [(0, .ref qr)] 0 [] := by
  unfold fX5_readRun at hf
  refine g_aload_n C (pc := 0) 0 dX5_readRun_0 rfl rfl ?_
  refine g_aload_n C (pc := 1) 0 dX5_readRun_1 rfl rfl ?_
  obtain ⟨y_2, h_2, hf⟩ := k_bd hf
  refine g_callA C (pc := 2) (b := qr) (As := []) (rest := [.ref qr]) (v1 := (some (.int y_2.1))) (st' := [.int y_2.1, .ref qr]) (w1 := [(qr, .inr (4, [.ref qp, .int y_2.2, .int r_kind, .int r_claim, .int r_how, .int r_x, .int r_y, .int r_k, .int r_seed, .int r_moves])), (qp, .inr (3, [.int p_n, .ref qp1])), (qp1, .inl ((xy x) 3, 80, .inl p_s))]) 0 lkX5_readNumber lVX5_52 (cX5_readNumber_k (xl x) (xD x) (xy x) qr r_at r_kind r_claim r_how r_x r_y r_k r_seed r_moves qp p_n qp1 p_s y_2 h_2) rfl ⟨⟨Nat.le_of_ble_eq_true rfl, Nat.le_of_ble_eq_true rfl⟩, ⟨rfl, rfl⟩, ⟨Nat.le_of_ble_eq_true rfl, Nat.le_of_ble_eq_true rfl⟩⟩ rfl rfl rfl (Nat.le_of_ble_eq_true rfl) rfl dX5_readRun_2 ?_
  refine g_put C (pc := 5) (ws' := [(qr, .inr (4, [.ref qp, .int y_2.2, .int r_kind, .int r_claim, .int r_how, .int r_x, .int r_y, .int r_k, .int y_2.1, .int r_moves])), (qp, .inr (3, [.int p_n, .ref qp1])), (qp1, .inl ((xy x) 3, 80, .inl p_s))]) lpX5_56 0 rfl rfl rfl rfl (Nat.le_of_ble_eq_true rfl) rfl dX5_readRun_5 ?_
  refine g_aload_n C (pc := 8) 0 dX5_readRun_8 rfl rfl ?_
  refine g_get C (pc := 9) lfX5_56 0 rfl rfl dX5_readRun_9 ?_
  refine g_bipush C (pc := 12) dX5_readRun_12 ck_bipush_m8 ?_
  refine g_icmp_eq C (pc := 14) 26 dX5_readRun_14 (by decide) (fun c_14 => ?_) (fun c_14 => ?_)
  · replace hf := (k_if hf).1 c_14
    refine g_iconst C (pc := 26) dX5_readRun_26 ck_iconst_0 ?_
    cases hf
    exact g_zret C E rfl (pc := 27) dX5_readRun_27 ⟨rfl, rfl⟩
  · replace hf := (k_if hf).2 c_14
    refine g_aload_n C (pc := 17) 0 dX5_readRun_17 rfl rfl ?_
    refine g_bipush C (pc := 18) dX5_readRun_18 ck_bipush_42 ?_
    obtain ⟨y_20, h_20, hf⟩ := k_bd hf
    refine g_callA C (pc := 20) (b := qr) (As := [.int (42 : Int32)]) (rest := []) (v1 := (some (.int y_20.1))) (st' := [.int y_20.1]) (w1 := [(qr, .inr (4, [.ref qp, .int y_20.2, .int r_kind, .int r_claim, .int r_how, .int r_x, .int r_y, .int r_k, .int y_2.1, .int r_moves])), (qp, .inr (3, [.int p_n, .ref qp1])), (qp1, .inl ((xy x) 3, 80, .inl p_s))]) 0 lkX5_take lVX5_32 (cX5_take_k (xl x) (xD x) (xy x) qr y_2.2 r_kind r_claim r_how r_x r_y r_k y_2.1 r_moves qp p_n qp1 p_s (42 : Int32) y_20 h_20) rfl ⟨⟨Nat.le_of_ble_eq_true rfl, Nat.le_of_ble_eq_true rfl⟩, ⟨rfl, rfl⟩, ⟨Nat.le_of_ble_eq_true rfl, Nat.le_of_ble_eq_true rfl⟩⟩ rfl rfl rfl (Nat.le_of_ble_eq_true rfl) rfl dX5_readRun_20 ?_
    refine g_if_ne C (pc := 23) 28 dX5_readRun_23 (by decide) (fun c_23 => ?_) (fun c_23 => ?_)
    · replace hf := (k_if hf).2 c_23
      refine g_aload_n C (pc := 28) 0 dX5_readRun_28 rfl rfl ?_
      refine g_aload_n C (pc := 29) 0 dX5_readRun_29 rfl rfl ?_
      obtain ⟨y_30, h_30, hf⟩ := k_bd hf
      refine g_callA C (pc := 30) (b := qr) (As := []) (rest := [.ref qr]) (v1 := (some (.int y_30.1))) (st' := [.int y_30.1, .ref qr]) (w1 := [(qr, .inr (4, [.ref qp, .int y_30.2, .int r_kind, .int r_claim, .int r_how, .int r_x, .int r_y, .int r_k, .int y_2.1, .int r_moves])), (qp, .inr (3, [.int p_n, .ref qp1])), (qp1, .inl ((xy x) 3, 80, .inl p_s))]) 0 lkX5_readNumber lVX5_52 (cX5_readNumber_k (xl x) (xD x) (xy x) qr y_20.2 r_kind r_claim r_how r_x r_y r_k y_2.1 r_moves qp p_n qp1 p_s y_30 h_30) rfl ⟨⟨Nat.le_of_ble_eq_true rfl, Nat.le_of_ble_eq_true rfl⟩, ⟨rfl, rfl⟩, ⟨Nat.le_of_ble_eq_true rfl, Nat.le_of_ble_eq_true rfl⟩⟩ rfl rfl rfl (Nat.le_of_ble_eq_true rfl) rfl dX5_readRun_30 ?_
      refine g_put C (pc := 33) (ws' := [(qr, .inr (4, [.ref qp, .int y_30.2, .int r_kind, .int r_claim, .int r_how, .int r_x, .int r_y, .int r_k, .int y_2.1, .int y_30.1])), (qp, .inr (3, [.int p_n, .ref qp1])), (qp1, .inl ((xy x) 3, 80, .inl p_s))]) lpX5_59 0 rfl rfl rfl rfl (Nat.le_of_ble_eq_true rfl) rfl dX5_readRun_33 ?_
      refine g_aload_n C (pc := 36) 0 dX5_readRun_36 rfl rfl ?_
      refine g_get C (pc := 37) lfX5_59 0 rfl rfl dX5_readRun_37 ?_
      refine g_bipush C (pc := 40) dX5_readRun_40 ck_bipush_m8 ?_
      refine g_icmp_eq C (pc := 42) 49 dX5_readRun_42 (by decide) (fun c_42 => ?_) (fun c_42 => ?_)
      · replace hf := (k_if hf).1 c_42
        refine g_iconst C (pc := 49) dX5_readRun_49 ck_iconst_0 ?_
        cases hf
        exact g_zret C E rfl (pc := 50) dX5_readRun_50 ⟨rfl, rfl⟩
      · replace hf := (k_if hf).2 c_42
        refine g_iconst C (pc := 45) dX5_readRun_45 ck_iconst_1 ?_
        refine g_goto C (pc := 46) (tgt := 50) dX5_readRun_46 (by decide) ?_
        cases hf
        exact g_zret C E rfl (pc := 50) dX5_readRun_50 ⟨rfl, rfl⟩
    · replace hf := (k_if hf).1 c_23
      refine g_iconst C (pc := 26) dX5_readRun_26 ck_iconst_0 ?_
      cases hf
      exact g_zret C E rfl (pc := 27) dX5_readRun_27 ⟨rfl, rfl⟩
set_option maxRecDepth 100000 in
theorem cX5_readRun_k (l : Launch) (D : va_G) (yy : Nat → ClassId) (qr : Nat) (r_at : Int32) (r_kind : Int32) (r_claim : Int32) (r_how : Int32) (r_x : Int32) (r_y : Int32) (r_k : Int32) (r_seed : Int32) (r_moves : Int32) (qp : Nat) (p_n : Int32) (qp1 : Nat) (p_s : Nat → Int32) (o : Int32 × Int32 × Int32 × Int32) (hf : fX5_readRun r_at r_moves p_n p_s = some o) : GMet l yX5_readRun cX5_readRun 1 (some .boolean) rmX5_readRun 0 0 D yy [.ref qr] [(qr, .inr (4, [.ref qp, .int r_at, .int r_kind, .int r_claim, .int r_how, .int r_x, .int r_y, .int r_k, .int r_seed, .int r_moves])), (qp, .inr (3, [.int p_n, .ref qp1])), (qp1, .inl (yy 3, 80, .inl p_s))] (fun zv zw => zv = some (.int o.1) ∧ zw = [(qr, .inr (4, [.ref qp, .int o.2.1, .int r_kind, .int r_claim, .int r_how, .int r_x, .int r_y, .int r_k, .int o.2.2.1, .int o.2.2.2])), (qp, .inr (3, [.int p_n, .ref qp1])), (qp1, .inl (yy 3, 80, .inl p_s))]) :=
  g_met (by decide +kernel) (Nat.le_of_ble_eq_true rfl) (fun x hl hD hy hn C E _ => by subst hD; subst hy; exact eX5_readRun x C hn qr r_at r_kind r_claim r_how r_x r_y r_k r_seed r_moves qp p_n qp1 p_s o E hf)
def rmX5_readClaim : Room := { frames := 4, cells := 0, slots := 0, locals := 86 }
def jX5_readClaim_163 (y_23 : Int32 × Int32) (u132_0 : Int32) (k132_r_at : Int32) (u149_0 : Int32) (u163_0 : Int32) : Option (Int32 × Int32 × Int32) :=
  bd (fX1_encode u149_0 y_23.1 u163_0 u132_0) fun y_165 : Int32 => if u132_0 = (-8 : Int32) then some ((0 : Int32), k132_r_at, y_165) else some ((1 : Int32), k132_r_at, y_165)
set_option maxRecDepth 100000 in
set_option maxHeartbeats 4000000 in
theorem tX5_readClaim_163 (x : GX) (C : GC x cX5_readClaim RX5 rmX5_readClaim) (N : xn x = 7) (qr : Nat) (r_kind : Int32) (r_claim : Int32) (r_how : Int32) (r_x : Int32) (r_y : Int32) (r_k : Int32) (r_seed : Int32) (r_moves : Int32) (qp : Nat) (p_n : Int32) (qp1 : Nat) (p_s : Nat → Int32) (y_23 : Int32 × Int32) (u132_0 : Int32) (k132_r_at : Int32) (u149_0 : Int32) (u163_0 : Int32) (o : Int32 × Int32 × Int32) (E : GE x (some .boolean) 0 0 (fun zv zw => zv = some (.int o.1) ∧ zw = [(qr, .inr (4, [.ref qp, .int o.2.1, .int r_kind, .int o.2.2, .int r_how, .int r_x, .int r_y, .int r_k, .int r_seed, .int r_moves])), (qp, .inr (3, [.int p_n, .ref qp1])), (qp1, .inl ((xy x) 3, 80, .inl p_s))])) (hf : jX5_readClaim_163 y_23 u132_0 k132_r_at u149_0 u163_0 = some o)  : GW x 0 0 [(qr, .inr (4, [.ref qp, .int k132_r_at, .int r_kind, .int r_claim, .int r_how, .int r_x, .int r_y, .int r_k, .int r_seed, .int r_moves])), (qp, .inr (3, [.int p_n, .ref qp1])), (qp1, .inl ((xy x) 3, 80, .inl p_s))] [(6, .int u132_0)] 163 [.int u163_0, .int y_23.1, .int u149_0, .ref qr] := by
  unfold jX5_readClaim_163 at hf
  refine g_iload C (pc := 163) 0 dX5_readClaim_163 rfl ?_
  obtain ⟨y_165, h_165, hf⟩ := k_bd hf
  refine g_callS0 C (pc := 165) (As := [.int u149_0, .int y_23.1, .int u163_0, .int u132_0]) (rest := [.ref qr]) (v1 := (some (.int y_165))) (st' := [.int y_165, .ref qr]) lkX1_encode lSX5_62 (cX1_encode_k (xl x) (xD x) (xy x) u149_0 y_23.1 u163_0 u132_0 y_165 h_165) rfl ⟨⟨Nat.le_of_ble_eq_true rfl, Nat.le_of_ble_eq_true rfl⟩, ⟨rfl, rfl⟩, ⟨Nat.le_of_ble_eq_true rfl, Nat.le_of_ble_eq_true rfl⟩⟩ rfl (Nat.le_of_ble_eq_true rfl) rfl dX5_readClaim_165 ?_
  refine g_put C (pc := 168) (ws' := [(qr, .inr (4, [.ref qp, .int k132_r_at, .int r_kind, .int y_165, .int r_how, .int r_x, .int r_y, .int r_k, .int r_seed, .int r_moves])), (qp, .inr (3, [.int p_n, .ref qp1])), (qp1, .inl ((xy x) 3, 80, .inl p_s))]) lpX5_68 0 rfl rfl rfl rfl (Nat.le_of_ble_eq_true rfl) rfl dX5_readClaim_168 ?_
  refine g_iload C (pc := 171) 0 dX5_readClaim_171 rfl ?_
  refine g_bipush C (pc := 173) dX5_readClaim_173 ck_bipush_m8 ?_
  refine g_icmp_eq C (pc := 175) 182 dX5_readClaim_175 (by decide) (fun c_175 => ?_) (fun c_175 => ?_)
  · replace hf := (k_if hf).1 c_175
    refine g_iconst C (pc := 182) dX5_readClaim_182 ck_iconst_0 ?_
    cases hf
    exact g_zret C E rfl (pc := 183) dX5_readClaim_183 ⟨rfl, rfl⟩
  · replace hf := (k_if hf).2 c_175
    refine g_iconst C (pc := 178) dX5_readClaim_178 ck_iconst_1 ?_
    refine g_goto C (pc := 179) (tgt := 183) dX5_readClaim_179 (by decide) ?_
    cases hf
    exact g_zret C E rfl (pc := 183) dX5_readClaim_183 ⟨rfl, rfl⟩
def jX5_readClaim_149 (y_23 : Int32 × Int32) (u83_0 : Int32) (u132_0 : Int32) (k132_r_at : Int32) (u149_0 : Int32) : Option (Int32 × Int32 × Int32) :=
  if u83_0 = (-8 : Int32) then jX5_readClaim_163 y_23 u132_0 k132_r_at u149_0 (0 : Int32) else jX5_readClaim_163 y_23 u132_0 k132_r_at u149_0 u83_0
set_option maxRecDepth 100000 in
set_option maxHeartbeats 4000000 in
theorem tX5_readClaim_149 (x : GX) (C : GC x cX5_readClaim RX5 rmX5_readClaim) (N : xn x = 7) (qr : Nat) (r_kind : Int32) (r_claim : Int32) (r_how : Int32) (r_x : Int32) (r_y : Int32) (r_k : Int32) (r_seed : Int32) (r_moves : Int32) (qp : Nat) (p_n : Int32) (qp1 : Nat) (p_s : Nat → Int32) (y_23 : Int32 × Int32) (u83_0 : Int32) (u132_0 : Int32) (k132_r_at : Int32) (u149_0 : Int32) (o : Int32 × Int32 × Int32) (E : GE x (some .boolean) 0 0 (fun zv zw => zv = some (.int o.1) ∧ zw = [(qr, .inr (4, [.ref qp, .int o.2.1, .int r_kind, .int o.2.2, .int r_how, .int r_x, .int r_y, .int r_k, .int r_seed, .int r_moves])), (qp, .inr (3, [.int p_n, .ref qp1])), (qp1, .inl ((xy x) 3, 80, .inl p_s))])) (hf : jX5_readClaim_149 y_23 u83_0 u132_0 k132_r_at u149_0 = some o)  : GW x 0 0 [(qr, .inr (4, [.ref qp, .int k132_r_at, .int r_kind, .int r_claim, .int r_how, .int r_x, .int r_y, .int r_k, .int r_seed, .int r_moves])), (qp, .inr (3, [.int p_n, .ref qp1])), (qp1, .inl ((xy x) 3, 80, .inl p_s))] [(1, .int y_23.1), (4, .int u83_0), (6, .int u132_0)] 149 [.int u149_0, .ref qr] := by
  unfold jX5_readClaim_149 at hf
  refine g_iload_n C (pc := 149) 0 dX5_readClaim_149 rfl rfl ?_
  refine g_iload C (pc := 150) 1 dX5_readClaim_150 rfl ?_
  refine g_bipush C (pc := 152) dX5_readClaim_152 ck_bipush_m8 ?_
  refine g_icmp_ne C (pc := 154) 161 dX5_readClaim_154 (by decide) (fun c_154 => ?_) (fun c_154 => ?_)
  · replace hf := (k_if hf).2 c_154
    refine g_iload C (pc := 161) 1 dX5_readClaim_161 rfl ?_
    exact g_lo [2] rfl (tX5_readClaim_163 x C N qr r_kind r_claim r_how r_x r_y r_k r_seed r_moves qp p_n qp1 p_s y_23 u132_0 k132_r_at u149_0 u83_0 o E hf)
  · replace hf := (k_if hf).1 c_154
    refine g_iconst C (pc := 157) dX5_readClaim_157 ck_iconst_0 ?_
    refine g_goto C (pc := 158) (tgt := 163) dX5_readClaim_158 (by decide) ?_
    exact g_lo [2] rfl (tX5_readClaim_163 x C N qr r_kind r_claim r_how r_x r_y r_k r_seed r_moves qp p_n qp1 p_s y_23 u132_0 k132_r_at u149_0 (0 : Int32) o E hf)
def jX5_readClaim_132 (y_23 : Int32 × Int32) (u42_0 : Int32) (u83_0 : Int32) (u114_0 : Int32) (u132_0 : Int32) (k132_r_at : Int32) : Option (Int32 × Int32 × Int32) :=
  if u114_0 = 0 then jX5_readClaim_149 y_23 u83_0 u132_0 k132_r_at u42_0 else jX5_readClaim_149 y_23 u83_0 u132_0 k132_r_at ((u42_0 - (1 : Int32)) + (5 : Int32))
set_option maxRecDepth 100000 in
set_option maxHeartbeats 4000000 in
theorem tX5_readClaim_132 (x : GX) (C : GC x cX5_readClaim RX5 rmX5_readClaim) (N : xn x = 7) (qr : Nat) (r_kind : Int32) (r_claim : Int32) (r_how : Int32) (r_x : Int32) (r_y : Int32) (r_k : Int32) (r_seed : Int32) (r_moves : Int32) (qp : Nat) (p_n : Int32) (qp1 : Nat) (p_s : Nat → Int32) (y_23 : Int32 × Int32) (u42_0 : Int32) (u83_0 : Int32) (u114_0 : Int32) (u132_0 : Int32) (k132_r_at : Int32) (o : Int32 × Int32 × Int32) (E : GE x (some .boolean) 0 0 (fun zv zw => zv = some (.int o.1) ∧ zw = [(qr, .inr (4, [.ref qp, .int o.2.1, .int r_kind, .int o.2.2, .int r_how, .int r_x, .int r_y, .int r_k, .int r_seed, .int r_moves])), (qp, .inr (3, [.int p_n, .ref qp1])), (qp1, .inl ((xy x) 3, 80, .inl p_s))])) (hf : jX5_readClaim_132 y_23 u42_0 u83_0 u114_0 u132_0 k132_r_at = some o)  : GW x 0 0 [(qr, .inr (4, [.ref qp, .int k132_r_at, .int r_kind, .int r_claim, .int r_how, .int r_x, .int r_y, .int r_k, .int r_seed, .int r_moves])), (qp, .inr (3, [.int p_n, .ref qp1])), (qp1, .inl ((xy x) 3, 80, .inl p_s))] [(0, .ref qr), (1, .int y_23.1), (2, .int u42_0), (4, .int u83_0), (5, .int u114_0)] 132 [.int u132_0] := by
  unfold jX5_readClaim_132 at hf
  refine g_istore C (pc := 132) (lo' := [(6, .int u132_0), (0, .ref qr), (1, .int y_23.1), (2, .int u42_0), (4, .int u83_0), (5, .int u114_0)]) dX5_readClaim_132 N rfl rfl ?_
  refine g_aload_n C (pc := 134) 1 dX5_readClaim_134 rfl rfl ?_
  refine g_iload C (pc := 135) 5 dX5_readClaim_135 rfl ?_
  refine g_if_eq C (pc := 137) 148 dX5_readClaim_137 (by decide) (fun c_137 => ?_) (fun c_137 => ?_)
  · replace hf := (k_if hf).1 c_137
    refine g_iload_n C (pc := 148) 3 dX5_readClaim_148 rfl rfl ?_
    exact g_lo [2, 4, 0] rfl (tX5_readClaim_149 x C N qr r_kind r_claim r_how r_x r_y r_k r_seed r_moves qp p_n qp1 p_s y_23 u83_0 u132_0 k132_r_at u42_0 o E hf)
  · replace hf := (k_if hf).2 c_137
    refine g_iload_n C (pc := 140) 3 dX5_readClaim_140 rfl rfl ?_
    refine g_iconst C (pc := 141) dX5_readClaim_141 ck_iconst_1 ?_
    refine g_isub C (pc := 142) dX5_readClaim_142 ?_
    refine g_iconst C (pc := 143) dX5_readClaim_143 ck_iconst_5 ?_
    refine g_iadd C (pc := 144) dX5_readClaim_144 ?_
    refine g_goto C (pc := 145) (tgt := 149) dX5_readClaim_145 (by decide) ?_
    exact g_lo [2, 4, 0] rfl (tX5_readClaim_149 x C N qr r_kind r_claim r_how r_x r_y r_k r_seed r_moves qp p_n qp1 p_s y_23 u83_0 u132_0 k132_r_at ((u42_0 - (1 : Int32)) + (5 : Int32)) o E hf)
def jX5_readClaim_114 (p_n : Int32) (p_s : Nat → Int32) (y_23 : Int32 × Int32) (u42_0 : Int32) (u83_0 : Int32) (k83_r_at : Int32) (u114_0 : Int32) : Option (Int32 × Int32 × Int32) :=
  if u114_0 = 0 then bd (fX5_readDigit k83_r_at p_n p_s) fun y_129 : Int32 × Int32 => jX5_readClaim_132 y_23 u42_0 u83_0 u114_0 y_129.1 y_129.2 else bd (fX5_readOffset k83_r_at p_n p_s) fun y_122 : Int32 × Int32 => jX5_readClaim_132 y_23 u42_0 u83_0 u114_0 y_122.1 y_122.2
set_option maxRecDepth 100000 in
set_option maxHeartbeats 4000000 in
theorem tX5_readClaim_114 (x : GX) (C : GC x cX5_readClaim RX5 rmX5_readClaim) (N : xn x = 7) (qr : Nat) (r_kind : Int32) (r_claim : Int32) (r_how : Int32) (r_x : Int32) (r_y : Int32) (r_k : Int32) (r_seed : Int32) (r_moves : Int32) (qp : Nat) (p_n : Int32) (qp1 : Nat) (p_s : Nat → Int32) (y_23 : Int32 × Int32) (u42_0 : Int32) (u83_0 : Int32) (k83_r_at : Int32) (u114_0 : Int32) (o : Int32 × Int32 × Int32) (E : GE x (some .boolean) 0 0 (fun zv zw => zv = some (.int o.1) ∧ zw = [(qr, .inr (4, [.ref qp, .int o.2.1, .int r_kind, .int o.2.2, .int r_how, .int r_x, .int r_y, .int r_k, .int r_seed, .int r_moves])), (qp, .inr (3, [.int p_n, .ref qp1])), (qp1, .inl ((xy x) 3, 80, .inl p_s))])) (hf : jX5_readClaim_114 p_n p_s y_23 u42_0 u83_0 k83_r_at u114_0 = some o)  : GW x 0 0 [(qr, .inr (4, [.ref qp, .int k83_r_at, .int r_kind, .int r_claim, .int r_how, .int r_x, .int r_y, .int r_k, .int r_seed, .int r_moves])), (qp, .inr (3, [.int p_n, .ref qp1])), (qp1, .inl ((xy x) 3, 80, .inl p_s))] [(0, .ref qr), (1, .int y_23.1), (2, .int u42_0), (4, .int u83_0)] 114 [.int u114_0] := by
  unfold jX5_readClaim_114 at hf
  refine g_istore C (pc := 114) (lo' := [(5, .int u114_0), (0, .ref qr), (1, .int y_23.1), (2, .int u42_0), (4, .int u83_0)]) dX5_readClaim_114 N rfl rfl ?_
  refine g_iload C (pc := 116) 0 dX5_readClaim_116 rfl ?_
  refine g_if_eq C (pc := 118) 128 dX5_readClaim_118 (by decide) (fun c_118 => ?_) (fun c_118 => ?_)
  · replace hf := (k_if hf).1 c_118
    refine g_aload_n C (pc := 128) 1 dX5_readClaim_128 rfl rfl ?_
    obtain ⟨y_129, h_129, hf⟩ := k_bd hf
    refine g_callA C (pc := 129) (b := qr) (As := []) (rest := []) (v1 := (some (.int y_129.1))) (st' := [.int y_129.1]) (w1 := [(qr, .inr (4, [.ref qp, .int y_129.2, .int r_kind, .int r_claim, .int r_how, .int r_x, .int r_y, .int r_k, .int r_seed, .int r_moves])), (qp, .inr (3, [.int p_n, .ref qp1])), (qp1, .inl ((xy x) 3, 80, .inl p_s))]) 0 lkX5_readDigit lVX5_80 (cX5_readDigit_k (xl x) (xD x) (xy x) qr k83_r_at r_kind r_claim r_how r_x r_y r_k r_seed r_moves qp p_n qp1 p_s y_129 h_129) rfl ⟨⟨Nat.le_of_ble_eq_true rfl, Nat.le_of_ble_eq_true rfl⟩, ⟨rfl, rfl⟩, ⟨Nat.le_of_ble_eq_true rfl, Nat.le_of_ble_eq_true rfl⟩⟩ rfl rfl rfl (Nat.le_of_ble_eq_true rfl) rfl dX5_readClaim_129 ?_
    exact g_lo [1, 2, 3, 4, 0] rfl (tX5_readClaim_132 x C N qr r_kind r_claim r_how r_x r_y r_k r_seed r_moves qp p_n qp1 p_s y_23 u42_0 u83_0 u114_0 y_129.1 y_129.2 o E hf)
  · replace hf := (k_if hf).2 c_118
    refine g_aload_n C (pc := 121) 1 dX5_readClaim_121 rfl rfl ?_
    obtain ⟨y_122, h_122, hf⟩ := k_bd hf
    refine g_callA C (pc := 122) (b := qr) (As := []) (rest := []) (v1 := (some (.int y_122.1))) (st' := [.int y_122.1]) (w1 := [(qr, .inr (4, [.ref qp, .int y_122.2, .int r_kind, .int r_claim, .int r_how, .int r_x, .int r_y, .int r_k, .int r_seed, .int r_moves])), (qp, .inr (3, [.int p_n, .ref qp1])), (qp1, .inl ((xy x) 3, 80, .inl p_s))]) 0 lkX5_readOffset lVX5_77 (cX5_readOffset_k (xl x) (xD x) (xy x) qr k83_r_at r_kind r_claim r_how r_x r_y r_k r_seed r_moves qp p_n qp1 p_s y_122 h_122) rfl ⟨⟨Nat.le_of_ble_eq_true rfl, Nat.le_of_ble_eq_true rfl⟩, ⟨rfl, rfl⟩, ⟨Nat.le_of_ble_eq_true rfl, Nat.le_of_ble_eq_true rfl⟩⟩ rfl rfl rfl (Nat.le_of_ble_eq_true rfl) rfl dX5_readClaim_122 ?_
    refine g_goto C (pc := 125) (tgt := 132) dX5_readClaim_125 (by decide) ?_
    exact g_lo [1, 2, 3, 4, 0] rfl (tX5_readClaim_132 x C N qr r_kind r_claim r_how r_x r_y r_k r_seed r_moves qp p_n qp1 p_s y_23 u42_0 u83_0 u114_0 y_122.1 y_122.2 o E hf)
def jX5_readClaim_113 (p_n : Int32) (p_s : Nat → Int32) (y_23 : Int32 × Int32) (u42_0 : Int32) (u83_0 : Int32) (k83_r_at : Int32) : Option (Int32 × Int32 × Int32) :=
  jX5_readClaim_114 p_n p_s y_23 u42_0 u83_0 k83_r_at (0 : Int32)
set_option maxRecDepth 100000 in
set_option maxHeartbeats 4000000 in
theorem tX5_readClaim_113 (x : GX) (C : GC x cX5_readClaim RX5 rmX5_readClaim) (N : xn x = 7) (qr : Nat) (r_kind : Int32) (r_claim : Int32) (r_how : Int32) (r_x : Int32) (r_y : Int32) (r_k : Int32) (r_seed : Int32) (r_moves : Int32) (qp : Nat) (p_n : Int32) (qp1 : Nat) (p_s : Nat → Int32) (y_23 : Int32 × Int32) (u42_0 : Int32) (u83_0 : Int32) (k83_r_at : Int32) (o : Int32 × Int32 × Int32) (E : GE x (some .boolean) 0 0 (fun zv zw => zv = some (.int o.1) ∧ zw = [(qr, .inr (4, [.ref qp, .int o.2.1, .int r_kind, .int o.2.2, .int r_how, .int r_x, .int r_y, .int r_k, .int r_seed, .int r_moves])), (qp, .inr (3, [.int p_n, .ref qp1])), (qp1, .inl ((xy x) 3, 80, .inl p_s))])) (hf : jX5_readClaim_113 p_n p_s y_23 u42_0 u83_0 k83_r_at = some o)  : GW x 0 0 [(qr, .inr (4, [.ref qp, .int k83_r_at, .int r_kind, .int r_claim, .int r_how, .int r_x, .int r_y, .int r_k, .int r_seed, .int r_moves])), (qp, .inr (3, [.int p_n, .ref qp1])), (qp1, .inl ((xy x) 3, 80, .inl p_s))] [(0, .ref qr), (1, .int y_23.1), (2, .int u42_0), (4, .int u83_0)] 113 [] := by
  unfold jX5_readClaim_113 at hf
  refine g_iconst C (pc := 113) dX5_readClaim_113 ck_iconst_0 ?_
  exact tX5_readClaim_114 x C N qr r_kind r_claim r_how r_x r_y r_k r_seed r_moves qp p_n qp1 p_s y_23 u42_0 u83_0 k83_r_at (0 : Int32) o E hf
def jX5_readClaim_98 (p_n : Int32) (p_s : Nat → Int32) (y_23 : Int32 × Int32) (u42_0 : Int32) (u68_0 : Int32) (u83_0 : Int32) (k83_r_at : Int32) : Option (Int32 × Int32 × Int32) :=
  if u68_0 = 0 then if u83_0 = (-8 : Int32) then jX5_readClaim_113 p_n p_s y_23 u42_0 u83_0 k83_r_at else jX5_readClaim_114 p_n p_s y_23 u42_0 u83_0 k83_r_at (1 : Int32) else jX5_readClaim_113 p_n p_s y_23 u42_0 u83_0 k83_r_at
set_option maxRecDepth 100000 in
set_option maxHeartbeats 4000000 in
theorem tX5_readClaim_98 (x : GX) (C : GC x cX5_readClaim RX5 rmX5_readClaim) (N : xn x = 7) (qr : Nat) (r_kind : Int32) (r_claim : Int32) (r_how : Int32) (r_x : Int32) (r_y : Int32) (r_k : Int32) (r_seed : Int32) (r_moves : Int32) (qp : Nat) (p_n : Int32) (qp1 : Nat) (p_s : Nat → Int32) (y_23 : Int32 × Int32) (u42_0 : Int32) (u68_0 : Int32) (u83_0 : Int32) (k83_r_at : Int32) (o : Int32 × Int32 × Int32) (E : GE x (some .boolean) 0 0 (fun zv zw => zv = some (.int o.1) ∧ zw = [(qr, .inr (4, [.ref qp, .int o.2.1, .int r_kind, .int o.2.2, .int r_how, .int r_x, .int r_y, .int r_k, .int r_seed, .int r_moves])), (qp, .inr (3, [.int p_n, .ref qp1])), (qp1, .inl ((xy x) 3, 80, .inl p_s))])) (hf : jX5_readClaim_98 p_n p_s y_23 u42_0 u68_0 u83_0 k83_r_at = some o)  : GW x 0 0 [(qr, .inr (4, [.ref qp, .int k83_r_at, .int r_kind, .int r_claim, .int r_how, .int r_x, .int r_y, .int r_k, .int r_seed, .int r_moves])), (qp, .inr (3, [.int p_n, .ref qp1])), (qp1, .inl ((xy x) 3, 80, .inl p_s))] [(0, .ref qr), (1, .int y_23.1), (2, .int u42_0), (3, .int u68_0), (4, .int u83_0)] 98 [] := by
  unfold jX5_readClaim_98 at hf
  refine g_iload_n C (pc := 98) 3 dX5_readClaim_98 rfl rfl ?_
  refine g_if_ne C (pc := 99) 113 dX5_readClaim_99 (by decide) (fun c_99 => ?_) (fun c_99 => ?_)
  · replace hf := (k_if hf).2 c_99
    exact g_lo [0, 1, 2, 4] rfl (tX5_readClaim_113 x C N qr r_kind r_claim r_how r_x r_y r_k r_seed r_moves qp p_n qp1 p_s y_23 u42_0 u83_0 k83_r_at o E hf)
  · replace hf := (k_if hf).1 c_99
    refine g_iload C (pc := 102) 4 dX5_readClaim_102 rfl ?_
    refine g_bipush C (pc := 104) dX5_readClaim_104 ck_bipush_m8 ?_
    refine g_icmp_eq C (pc := 106) 113 dX5_readClaim_106 (by decide) (fun c_106 => ?_) (fun c_106 => ?_)
    · replace hf := (k_if hf).1 c_106
      exact g_lo [0, 1, 2, 4] rfl (tX5_readClaim_113 x C N qr r_kind r_claim r_how r_x r_y r_k r_seed r_moves qp p_n qp1 p_s y_23 u42_0 u83_0 k83_r_at o E hf)
    · replace hf := (k_if hf).2 c_106
      refine g_iconst C (pc := 109) dX5_readClaim_109 ck_iconst_1 ?_
      refine g_goto C (pc := 110) (tgt := 114) dX5_readClaim_110 (by decide) ?_
      exact g_lo [0, 1, 2, 4] rfl (tX5_readClaim_114 x C N qr r_kind r_claim r_how r_x r_y r_k r_seed r_moves qp p_n qp1 p_s y_23 u42_0 u83_0 k83_r_at (1 : Int32) o E hf)
def jX5_readClaim_83 (r_claim : Int32) (p_n : Int32) (p_s : Nat → Int32) (y_23 : Int32 × Int32) (u42_0 : Int32) (u68_0 : Int32) (u83_0 : Int32) (k83_r_at : Int32) : Option (Int32 × Int32 × Int32) :=
  if u68_0 = 0 then jX5_readClaim_98 p_n p_s y_23 u42_0 u68_0 u83_0 k83_r_at else if u83_0 = (-8 : Int32) then some ((0 : Int32), k83_r_at, r_claim) else jX5_readClaim_98 p_n p_s y_23 u42_0 u68_0 u83_0 k83_r_at
set_option maxRecDepth 100000 in
set_option maxHeartbeats 4000000 in
theorem tX5_readClaim_83 (x : GX) (C : GC x cX5_readClaim RX5 rmX5_readClaim) (N : xn x = 7) (qr : Nat) (r_kind : Int32) (r_claim : Int32) (r_how : Int32) (r_x : Int32) (r_y : Int32) (r_k : Int32) (r_seed : Int32) (r_moves : Int32) (qp : Nat) (p_n : Int32) (qp1 : Nat) (p_s : Nat → Int32) (y_23 : Int32 × Int32) (u42_0 : Int32) (u68_0 : Int32) (u83_0 : Int32) (k83_r_at : Int32) (o : Int32 × Int32 × Int32) (E : GE x (some .boolean) 0 0 (fun zv zw => zv = some (.int o.1) ∧ zw = [(qr, .inr (4, [.ref qp, .int o.2.1, .int r_kind, .int o.2.2, .int r_how, .int r_x, .int r_y, .int r_k, .int r_seed, .int r_moves])), (qp, .inr (3, [.int p_n, .ref qp1])), (qp1, .inl ((xy x) 3, 80, .inl p_s))])) (hf : jX5_readClaim_83 r_claim p_n p_s y_23 u42_0 u68_0 u83_0 k83_r_at = some o)  : GW x 0 0 [(qr, .inr (4, [.ref qp, .int k83_r_at, .int r_kind, .int r_claim, .int r_how, .int r_x, .int r_y, .int r_k, .int r_seed, .int r_moves])), (qp, .inr (3, [.int p_n, .ref qp1])), (qp1, .inl ((xy x) 3, 80, .inl p_s))] [(0, .ref qr), (1, .int y_23.1), (2, .int u42_0), (3, .int u68_0)] 83 [.int u83_0] := by
  unfold jX5_readClaim_83 at hf
  refine g_istore C (pc := 83) (lo' := [(4, .int u83_0), (0, .ref qr), (1, .int y_23.1), (2, .int u42_0), (3, .int u68_0)]) dX5_readClaim_83 N rfl rfl ?_
  refine g_iload_n C (pc := 85) 4 dX5_readClaim_85 rfl rfl ?_
  refine g_if_eq C (pc := 86) 98 dX5_readClaim_86 (by decide) (fun c_86 => ?_) (fun c_86 => ?_)
  · replace hf := (k_if hf).1 c_86
    exact g_lo [1, 2, 3, 4, 0] rfl (tX5_readClaim_98 x C N qr r_kind r_claim r_how r_x r_y r_k r_seed r_moves qp p_n qp1 p_s y_23 u42_0 u68_0 u83_0 k83_r_at o E hf)
  · replace hf := (k_if hf).2 c_86
    refine g_iload C (pc := 89) 0 dX5_readClaim_89 rfl ?_
    refine g_bipush C (pc := 91) dX5_readClaim_91 ck_bipush_m8 ?_
    refine g_icmp_ne C (pc := 93) 98 dX5_readClaim_93 (by decide) (fun c_93 => ?_) (fun c_93 => ?_)
    · replace hf := (k_if hf).2 c_93
      exact g_lo [1, 2, 3, 4, 0] rfl (tX5_readClaim_98 x C N qr r_kind r_claim r_how r_x r_y r_k r_seed r_moves qp p_n qp1 p_s y_23 u42_0 u68_0 u83_0 k83_r_at o E hf)
    · replace hf := (k_if hf).1 c_93
      refine g_iconst C (pc := 96) dX5_readClaim_96 ck_iconst_0 ?_
      cases hf
      exact g_zret C E rfl (pc := 97) dX5_readClaim_97 ⟨rfl, rfl⟩
def jX5_readClaim_68 (r_claim : Int32) (p_n : Int32) (p_s : Nat → Int32) (y_23 : Int32 × Int32) (u42_0 : Int32) (k42_r_at : Int32) (u68_0 : Int32) : Option (Int32 × Int32 × Int32) :=
  if u42_0 = (4 : Int32) then jX5_readClaim_83 r_claim p_n p_s y_23 u42_0 u68_0 (-8 : Int32) k42_r_at else bd (fX5_readVar k42_r_at p_n p_s) fun y_80 : Int32 × Int32 => jX5_readClaim_83 r_claim p_n p_s y_23 u42_0 u68_0 y_80.1 y_80.2
set_option maxRecDepth 100000 in
set_option maxHeartbeats 4000000 in
theorem tX5_readClaim_68 (x : GX) (C : GC x cX5_readClaim RX5 rmX5_readClaim) (N : xn x = 7) (qr : Nat) (r_kind : Int32) (r_claim : Int32) (r_how : Int32) (r_x : Int32) (r_y : Int32) (r_k : Int32) (r_seed : Int32) (r_moves : Int32) (qp : Nat) (p_n : Int32) (qp1 : Nat) (p_s : Nat → Int32) (y_23 : Int32 × Int32) (u42_0 : Int32) (k42_r_at : Int32) (u68_0 : Int32) (o : Int32 × Int32 × Int32) (E : GE x (some .boolean) 0 0 (fun zv zw => zv = some (.int o.1) ∧ zw = [(qr, .inr (4, [.ref qp, .int o.2.1, .int r_kind, .int o.2.2, .int r_how, .int r_x, .int r_y, .int r_k, .int r_seed, .int r_moves])), (qp, .inr (3, [.int p_n, .ref qp1])), (qp1, .inl ((xy x) 3, 80, .inl p_s))])) (hf : jX5_readClaim_68 r_claim p_n p_s y_23 u42_0 k42_r_at u68_0 = some o)  : GW x 0 0 [(qr, .inr (4, [.ref qp, .int k42_r_at, .int r_kind, .int r_claim, .int r_how, .int r_x, .int r_y, .int r_k, .int r_seed, .int r_moves])), (qp, .inr (3, [.int p_n, .ref qp1])), (qp1, .inl ((xy x) 3, 80, .inl p_s))] [(0, .ref qr), (1, .int y_23.1), (2, .int u42_0)] 68 [.int u68_0] := by
  unfold jX5_readClaim_68 at hf
  refine g_istore_n C (pc := 68) (lo' := [(3, .int u68_0), (0, .ref qr), (1, .int y_23.1), (2, .int u42_0)]) dX5_readClaim_68 rfl N rfl rfl ?_
  refine g_iload_n C (pc := 69) 3 dX5_readClaim_69 rfl rfl ?_
  refine g_iconst C (pc := 70) dX5_readClaim_70 ck_iconst_4 ?_
  refine g_icmp_ne C (pc := 71) 79 dX5_readClaim_71 (by decide) (fun c_71 => ?_) (fun c_71 => ?_)
  · replace hf := (k_if hf).2 c_71
    refine g_aload_n C (pc := 79) 1 dX5_readClaim_79 rfl rfl ?_
    obtain ⟨y_80, h_80, hf⟩ := k_bd hf
    refine g_callA C (pc := 80) (b := qr) (As := []) (rest := []) (v1 := (some (.int y_80.1))) (st' := [.int y_80.1]) (w1 := [(qr, .inr (4, [.ref qp, .int y_80.2, .int r_kind, .int r_claim, .int r_how, .int r_x, .int r_y, .int r_k, .int r_seed, .int r_moves])), (qp, .inr (3, [.int p_n, .ref qp1])), (qp1, .inl ((xy x) 3, 80, .inl p_s))]) 0 lkX5_readVar lVX5_71 (cX5_readVar_k (xl x) (xD x) (xy x) qr k42_r_at r_kind r_claim r_how r_x r_y r_k r_seed r_moves qp p_n qp1 p_s y_80 h_80) rfl ⟨⟨Nat.le_of_ble_eq_true rfl, Nat.le_of_ble_eq_true rfl⟩, ⟨rfl, rfl⟩, ⟨Nat.le_of_ble_eq_true rfl, Nat.le_of_ble_eq_true rfl⟩⟩ rfl rfl rfl (Nat.le_of_ble_eq_true rfl) rfl dX5_readClaim_80 ?_
    exact g_lo [1, 2, 3, 0] rfl (tX5_readClaim_83 x C N qr r_kind r_claim r_how r_x r_y r_k r_seed r_moves qp p_n qp1 p_s y_23 u42_0 u68_0 y_80.1 y_80.2 o E hf)
  · replace hf := (k_if hf).1 c_71
    refine g_bipush C (pc := 74) dX5_readClaim_74 ck_bipush_m8 ?_
    refine g_goto C (pc := 76) (tgt := 83) dX5_readClaim_76 (by decide) ?_
    exact g_lo [1, 2, 3, 0] rfl (tX5_readClaim_83 x C N qr r_kind r_claim r_how r_x r_y r_k r_seed r_moves qp p_n qp1 p_s y_23 u42_0 u68_0 (-8 : Int32) k42_r_at o E hf)
def jX5_readClaim_63 (r_claim : Int32) (p_n : Int32) (p_s : Nat → Int32) (y_23 : Int32 × Int32) (u42_0 : Int32) (k42_r_at : Int32) : Option (Int32 × Int32 × Int32) :=
  jX5_readClaim_68 r_claim p_n p_s y_23 u42_0 k42_r_at (1 : Int32)
set_option maxRecDepth 100000 in
set_option maxHeartbeats 4000000 in
theorem tX5_readClaim_63 (x : GX) (C : GC x cX5_readClaim RX5 rmX5_readClaim) (N : xn x = 7) (qr : Nat) (r_kind : Int32) (r_claim : Int32) (r_how : Int32) (r_x : Int32) (r_y : Int32) (r_k : Int32) (r_seed : Int32) (r_moves : Int32) (qp : Nat) (p_n : Int32) (qp1 : Nat) (p_s : Nat → Int32) (y_23 : Int32 × Int32) (u42_0 : Int32) (k42_r_at : Int32) (o : Int32 × Int32 × Int32) (E : GE x (some .boolean) 0 0 (fun zv zw => zv = some (.int o.1) ∧ zw = [(qr, .inr (4, [.ref qp, .int o.2.1, .int r_kind, .int o.2.2, .int r_how, .int r_x, .int r_y, .int r_k, .int r_seed, .int r_moves])), (qp, .inr (3, [.int p_n, .ref qp1])), (qp1, .inl ((xy x) 3, 80, .inl p_s))])) (hf : jX5_readClaim_63 r_claim p_n p_s y_23 u42_0 k42_r_at = some o)  : GW x 0 0 [(qr, .inr (4, [.ref qp, .int k42_r_at, .int r_kind, .int r_claim, .int r_how, .int r_x, .int r_y, .int r_k, .int r_seed, .int r_moves])), (qp, .inr (3, [.int p_n, .ref qp1])), (qp1, .inl ((xy x) 3, 80, .inl p_s))] [(0, .ref qr), (1, .int y_23.1), (2, .int u42_0)] 63 [] := by
  unfold jX5_readClaim_63 at hf
  refine g_iconst C (pc := 63) dX5_readClaim_63 ck_iconst_1 ?_
  refine g_goto C (pc := 64) (tgt := 68) dX5_readClaim_64 (by decide) ?_
  exact tX5_readClaim_68 x C N qr r_kind r_claim r_how r_x r_y r_k r_seed r_moves qp p_n qp1 p_s y_23 u42_0 k42_r_at (1 : Int32) o E hf
def jX5_readClaim_42 (r_claim : Int32) (p_n : Int32) (p_s : Nat → Int32) (y_23 : Int32 × Int32) (u42_0 : Int32) (k42_r_at : Int32) : Option (Int32 × Int32 × Int32) :=
  if u42_0 = (-8 : Int32) then some ((0 : Int32), k42_r_at, r_claim) else if u42_0 = (8 : Int32) then jX5_readClaim_63 r_claim p_n p_s y_23 u42_0 k42_r_at else if u42_0 = (9 : Int32) then jX5_readClaim_63 r_claim p_n p_s y_23 u42_0 k42_r_at else jX5_readClaim_68 r_claim p_n p_s y_23 u42_0 k42_r_at (0 : Int32)
set_option maxRecDepth 100000 in
set_option maxHeartbeats 4000000 in
theorem tX5_readClaim_42 (x : GX) (C : GC x cX5_readClaim RX5 rmX5_readClaim) (N : xn x = 7) (qr : Nat) (r_kind : Int32) (r_claim : Int32) (r_how : Int32) (r_x : Int32) (r_y : Int32) (r_k : Int32) (r_seed : Int32) (r_moves : Int32) (qp : Nat) (p_n : Int32) (qp1 : Nat) (p_s : Nat → Int32) (y_23 : Int32 × Int32) (u42_0 : Int32) (k42_r_at : Int32) (o : Int32 × Int32 × Int32) (E : GE x (some .boolean) 0 0 (fun zv zw => zv = some (.int o.1) ∧ zw = [(qr, .inr (4, [.ref qp, .int o.2.1, .int r_kind, .int o.2.2, .int r_how, .int r_x, .int r_y, .int r_k, .int r_seed, .int r_moves])), (qp, .inr (3, [.int p_n, .ref qp1])), (qp1, .inl ((xy x) 3, 80, .inl p_s))])) (hf : jX5_readClaim_42 r_claim p_n p_s y_23 u42_0 k42_r_at = some o)  : GW x 0 0 [(qr, .inr (4, [.ref qp, .int k42_r_at, .int r_kind, .int r_claim, .int r_how, .int r_x, .int r_y, .int r_k, .int r_seed, .int r_moves])), (qp, .inr (3, [.int p_n, .ref qp1])), (qp1, .inl ((xy x) 3, 80, .inl p_s))] [(0, .ref qr), (1, .int y_23.1)] 42 [.int u42_0] := by
  unfold jX5_readClaim_42 at hf
  refine g_istore_n C (pc := 42) (lo' := [(2, .int u42_0), (0, .ref qr), (1, .int y_23.1)]) dX5_readClaim_42 rfl N rfl rfl ?_
  refine g_iload_n C (pc := 43) 0 dX5_readClaim_43 rfl rfl ?_
  refine g_bipush C (pc := 44) dX5_readClaim_44 ck_bipush_m8 ?_
  refine g_icmp_ne C (pc := 46) 51 dX5_readClaim_46 (by decide) (fun c_46 => ?_) (fun c_46 => ?_)
  · replace hf := (k_if hf).2 c_46
    refine g_iload_n C (pc := 51) 0 dX5_readClaim_51 rfl rfl ?_
    refine g_bipush C (pc := 52) dX5_readClaim_52 ck_bipush_8 ?_
    refine g_icmp_eq C (pc := 54) 63 dX5_readClaim_54 (by decide) (fun c_54 => ?_) (fun c_54 => ?_)
    · replace hf := (k_if hf).1 c_54
      exact g_lo [1, 2, 0] rfl (tX5_readClaim_63 x C N qr r_kind r_claim r_how r_x r_y r_k r_seed r_moves qp p_n qp1 p_s y_23 u42_0 k42_r_at o E hf)
    · replace hf := (k_if hf).2 c_54
      refine g_iload_n C (pc := 57) 0 dX5_readClaim_57 rfl rfl ?_
      refine g_bipush C (pc := 58) dX5_readClaim_58 ck_bipush_9 ?_
      refine g_icmp_ne C (pc := 60) 67 dX5_readClaim_60 (by decide) (fun c_60 => ?_) (fun c_60 => ?_)
      · replace hf := (k_if hf).2 c_60
        refine g_iconst C (pc := 67) dX5_readClaim_67 ck_iconst_0 ?_
        exact g_lo [1, 2, 0] rfl (tX5_readClaim_68 x C N qr r_kind r_claim r_how r_x r_y r_k r_seed r_moves qp p_n qp1 p_s y_23 u42_0 k42_r_at (0 : Int32) o E hf)
      · replace hf := (k_if hf).1 c_60
        exact g_lo [1, 2, 0] rfl (tX5_readClaim_63 x C N qr r_kind r_claim r_how r_x r_y r_k r_seed r_moves qp p_n qp1 p_s y_23 u42_0 k42_r_at o E hf)
  · replace hf := (k_if hf).1 c_46
    refine g_iconst C (pc := 49) dX5_readClaim_49 ck_iconst_0 ?_
    cases hf
    exact g_zret C E rfl (pc := 50) dX5_readClaim_50 ⟨rfl, rfl⟩
def fX5_readClaim (r_at : Int32) (r_claim : Int32) (p_n : Int32) (p_s : Nat → Int32) : Option (Int32 × Int32 × Int32) :=
  bd (fX5_take r_at p_n p_s (42 : Int32)) fun y_3 : Int32 × Int32 => if y_3.1 = 0 then bd (fX5_readVar y_3.2 p_n p_s) fun y_23 : Int32 × Int32 => if y_23.1 = (-8 : Int32) then jX5_readClaim_42 r_claim p_n p_s y_23 (-8 : Int32) y_23.2 else bd (fX5_readForm y_23.2 p_n p_s) fun y_39 : Int32 × Int32 => jX5_readClaim_42 r_claim p_n p_s y_23 y_39.1 y_39.2 else bd (fX1_encode (0 : Int32) (0 : Int32) (0 : Int32) (0 : Int32)) fun y_14 : Int32 => some ((1 : Int32), y_3.2, y_14)
set_option maxRecDepth 100000 in
set_option maxHeartbeats 4000000 in
theorem eX5_readClaim (x : GX) (C : GC x cX5_readClaim RX5 rmX5_readClaim) (N : xn x = 7) (qr : Nat) (r_at : Int32) (r_kind : Int32) (r_claim : Int32) (r_how : Int32) (r_x : Int32) (r_y : Int32) (r_k : Int32) (r_seed : Int32) (r_moves : Int32) (qp : Nat) (p_n : Int32) (qp1 : Nat) (p_s : Nat → Int32) (o : Int32 × Int32 × Int32) (E : GE x (some .boolean) 0 0 (fun zv zw => zv = some (.int o.1) ∧ zw = [(qr, .inr (4, [.ref qp, .int o.2.1, .int r_kind, .int o.2.2, .int r_how, .int r_x, .int r_y, .int r_k, .int r_seed, .int r_moves])), (qp, .inr (3, [.int p_n, .ref qp1])), (qp1, .inl ((xy x) 3, 80, .inl p_s))])) (hf : fX5_readClaim r_at r_claim p_n p_s = some o)  : GW x 0 0 [(qr, .inr (4, [.ref qp, .int r_at, .int r_kind, .int r_claim, .int r_how, .int r_x, .int r_y, .int r_k, .int r_seed, .int r_moves])), (qp, .inr (3, [.int p_n, .ref qp1])), (qp1, .inl ((xy x) 3, 80, .inl p_s))] [(0, .ref qr)] 0 [] := by
  unfold fX5_readClaim at hf
  refine g_aload_n C (pc := 0) 0 dX5_readClaim_0 rfl rfl ?_
  refine g_bipush C (pc := 1) dX5_readClaim_1 ck_bipush_42 ?_
  obtain ⟨y_3, h_3, hf⟩ := k_bd hf
  refine g_callA C (pc := 3) (b := qr) (As := [.int (42 : Int32)]) (rest := []) (v1 := (some (.int y_3.1))) (st' := [.int y_3.1]) (w1 := [(qr, .inr (4, [.ref qp, .int y_3.2, .int r_kind, .int r_claim, .int r_how, .int r_x, .int r_y, .int r_k, .int r_seed, .int r_moves])), (qp, .inr (3, [.int p_n, .ref qp1])), (qp1, .inl ((xy x) 3, 80, .inl p_s))]) 0 lkX5_take lVX5_32 (cX5_take_k (xl x) (xD x) (xy x) qr r_at r_kind r_claim r_how r_x r_y r_k r_seed r_moves qp p_n qp1 p_s (42 : Int32) y_3 h_3) rfl ⟨⟨Nat.le_of_ble_eq_true rfl, Nat.le_of_ble_eq_true rfl⟩, ⟨rfl, rfl⟩, ⟨Nat.le_of_ble_eq_true rfl, Nat.le_of_ble_eq_true rfl⟩⟩ rfl rfl rfl (Nat.le_of_ble_eq_true rfl) rfl dX5_readClaim_3 ?_
  refine g_if_eq C (pc := 6) 22 dX5_readClaim_6 (by decide) (fun c_6 => ?_) (fun c_6 => ?_)
  · replace hf := (k_if hf).1 c_6
    refine g_aload_n C (pc := 22) 0 dX5_readClaim_22 rfl rfl ?_
    obtain ⟨y_23, h_23, hf⟩ := k_bd hf
    refine g_callA C (pc := 23) (b := qr) (As := []) (rest := []) (v1 := (some (.int y_23.1))) (st' := [.int y_23.1]) (w1 := [(qr, .inr (4, [.ref qp, .int y_23.2, .int r_kind, .int r_claim, .int r_how, .int r_x, .int r_y, .int r_k, .int r_seed, .int r_moves])), (qp, .inr (3, [.int p_n, .ref qp1])), (qp1, .inl ((xy x) 3, 80, .inl p_s))]) 0 lkX5_readVar lVX5_71 (cX5_readVar_k (xl x) (xD x) (xy x) qr y_3.2 r_kind r_claim r_how r_x r_y r_k r_seed r_moves qp p_n qp1 p_s y_23 h_23) rfl ⟨⟨Nat.le_of_ble_eq_true rfl, Nat.le_of_ble_eq_true rfl⟩, ⟨rfl, rfl⟩, ⟨Nat.le_of_ble_eq_true rfl, Nat.le_of_ble_eq_true rfl⟩⟩ rfl rfl rfl (Nat.le_of_ble_eq_true rfl) rfl dX5_readClaim_23 ?_
    refine g_istore_n C (pc := 26) (lo' := [(1, .int y_23.1), (0, .ref qr)]) dX5_readClaim_26 rfl N rfl rfl ?_
    refine g_iload_n C (pc := 27) 0 dX5_readClaim_27 rfl rfl ?_
    refine g_bipush C (pc := 28) dX5_readClaim_28 ck_bipush_m8 ?_
    refine g_icmp_ne C (pc := 30) 38 dX5_readClaim_30 (by decide) (fun c_30 => ?_) (fun c_30 => ?_)
    · replace hf := (k_if hf).2 c_30
      refine g_aload_n C (pc := 38) 1 dX5_readClaim_38 rfl rfl ?_
      obtain ⟨y_39, h_39, hf⟩ := k_bd hf
      refine g_callA C (pc := 39) (b := qr) (As := []) (rest := []) (v1 := (some (.int y_39.1))) (st' := [.int y_39.1]) (w1 := [(qr, .inr (4, [.ref qp, .int y_39.2, .int r_kind, .int r_claim, .int r_how, .int r_x, .int r_y, .int r_k, .int r_seed, .int r_moves])), (qp, .inr (3, [.int p_n, .ref qp1])), (qp1, .inl ((xy x) 3, 80, .inl p_s))]) 0 lkX5_readForm lVX5_74 (cX5_readForm_k (xl x) (xD x) (xy x) qr y_23.2 r_kind r_claim r_how r_x r_y r_k r_seed r_moves qp p_n qp1 p_s y_39 h_39) rfl ⟨⟨Nat.le_of_ble_eq_true rfl, Nat.le_of_ble_eq_true rfl⟩, ⟨rfl, rfl⟩, ⟨Nat.le_of_ble_eq_true rfl, Nat.le_of_ble_eq_true rfl⟩⟩ rfl rfl rfl (Nat.le_of_ble_eq_true rfl) rfl dX5_readClaim_39 ?_
      exact g_lo [1, 0] rfl (tX5_readClaim_42 x C N qr r_kind r_claim r_how r_x r_y r_k r_seed r_moves qp p_n qp1 p_s y_23 y_39.1 y_39.2 o E hf)
    · replace hf := (k_if hf).1 c_30
      refine g_bipush C (pc := 33) dX5_readClaim_33 ck_bipush_m8 ?_
      refine g_goto C (pc := 35) (tgt := 42) dX5_readClaim_35 (by decide) ?_
      exact g_lo [1, 0] rfl (tX5_readClaim_42 x C N qr r_kind r_claim r_how r_x r_y r_k r_seed r_moves qp p_n qp1 p_s y_23 (-8 : Int32) y_23.2 o E hf)
  · replace hf := (k_if hf).2 c_6
    refine g_aload_n C (pc := 9) 0 dX5_readClaim_9 rfl rfl ?_
    refine g_iconst C (pc := 10) dX5_readClaim_10 ck_iconst_0 ?_
    refine g_iconst C (pc := 11) dX5_readClaim_11 ck_iconst_0 ?_
    refine g_iconst C (pc := 12) dX5_readClaim_12 ck_iconst_0 ?_
    refine g_iconst C (pc := 13) dX5_readClaim_13 ck_iconst_0 ?_
    obtain ⟨y_14, h_14, hf⟩ := k_bd hf
    refine g_callS0 C (pc := 14) (As := [.int (0 : Int32), .int (0 : Int32), .int (0 : Int32), .int (0 : Int32)]) (rest := [.ref qr]) (v1 := (some (.int y_14))) (st' := [.int y_14, .ref qr]) lkX1_encode lSX5_62 (cX1_encode_k (xl x) (xD x) (xy x) (0 : Int32) (0 : Int32) (0 : Int32) (0 : Int32) y_14 h_14) rfl ⟨⟨Nat.le_of_ble_eq_true rfl, Nat.le_of_ble_eq_true rfl⟩, ⟨rfl, rfl⟩, ⟨Nat.le_of_ble_eq_true rfl, Nat.le_of_ble_eq_true rfl⟩⟩ rfl (Nat.le_of_ble_eq_true rfl) rfl dX5_readClaim_14 ?_
    refine g_put C (pc := 17) (ws' := [(qr, .inr (4, [.ref qp, .int y_3.2, .int r_kind, .int y_14, .int r_how, .int r_x, .int r_y, .int r_k, .int r_seed, .int r_moves])), (qp, .inr (3, [.int p_n, .ref qp1])), (qp1, .inl ((xy x) 3, 80, .inl p_s))]) lpX5_68 0 rfl rfl rfl rfl (Nat.le_of_ble_eq_true rfl) rfl dX5_readClaim_17 ?_
    refine g_iconst C (pc := 20) dX5_readClaim_20 ck_iconst_1 ?_
    cases hf
    exact g_zret C E rfl (pc := 21) dX5_readClaim_21 ⟨rfl, rfl⟩
set_option maxRecDepth 100000 in
theorem cX5_readClaim_k (l : Launch) (D : va_G) (yy : Nat → ClassId) (qr : Nat) (r_at : Int32) (r_kind : Int32) (r_claim : Int32) (r_how : Int32) (r_x : Int32) (r_y : Int32) (r_k : Int32) (r_seed : Int32) (r_moves : Int32) (qp : Nat) (p_n : Int32) (qp1 : Nat) (p_s : Nat → Int32) (o : Int32 × Int32 × Int32) (hf : fX5_readClaim r_at r_claim p_n p_s = some o) : GMet l yX5_readClaim cX5_readClaim 7 (some .boolean) rmX5_readClaim 0 0 D yy [.ref qr] [(qr, .inr (4, [.ref qp, .int r_at, .int r_kind, .int r_claim, .int r_how, .int r_x, .int r_y, .int r_k, .int r_seed, .int r_moves])), (qp, .inr (3, [.int p_n, .ref qp1])), (qp1, .inl (yy 3, 80, .inl p_s))] (fun zv zw => zv = some (.int o.1) ∧ zw = [(qr, .inr (4, [.ref qp, .int o.2.1, .int r_kind, .int o.2.2, .int r_how, .int r_x, .int r_y, .int r_k, .int r_seed, .int r_moves])), (qp, .inr (3, [.int p_n, .ref qp1])), (qp1, .inl (yy 3, 80, .inl p_s))]) :=
  g_met (by decide +kernel) (Nat.le_of_ble_eq_true rfl) (fun x hl hD hy hn C E _ => by subst hD; subst hy; exact eX5_readClaim x C hn qr r_at r_kind r_claim r_how r_x r_y r_k r_seed r_moves qp p_n qp1 p_s o E hf)
def rmX5_readAction : Room := { frames := 4, cells := 0, slots := 0, locals := 86 }
def jX5_readAction_123 (y_2 : Int32 × Int32) (k123_r_at : Int32) (k123_r_how : Int32) (k123_r_y : Int32) (k123_r_k : Int32) : Option (Int32 × Int32 × Int32 × Int32 × Int32 × Int32) :=
  if k123_r_k = (-8 : Int32) then some ((0 : Int32), k123_r_at, k123_r_how, y_2.1, k123_r_y, k123_r_k) else some ((1 : Int32), k123_r_at, k123_r_how, y_2.1, k123_r_y, k123_r_k)
set_option maxRecDepth 100000 in
set_option maxHeartbeats 4000000 in
theorem tX5_readAction_123 (x : GX) (C : GC x cX5_readAction RX5 rmX5_readAction) (N : xn x = 1) (qr : Nat) (r_kind : Int32) (r_claim : Int32) (r_seed : Int32) (r_moves : Int32) (qp : Nat) (p_n : Int32) (qp1 : Nat) (p_s : Nat → Int32) (y_2 : Int32 × Int32) (k123_r_at : Int32) (k123_r_how : Int32) (k123_r_y : Int32) (k123_r_k : Int32) (o : Int32 × Int32 × Int32 × Int32 × Int32 × Int32) (E : GE x (some .boolean) 0 0 (fun zv zw => zv = some (.int o.1) ∧ zw = [(qr, .inr (4, [.ref qp, .int o.2.1, .int r_kind, .int r_claim, .int o.2.2.1, .int o.2.2.2.1, .int o.2.2.2.2.1, .int o.2.2.2.2.2, .int r_seed, .int r_moves])), (qp, .inr (3, [.int p_n, .ref qp1])), (qp1, .inl ((xy x) 3, 80, .inl p_s))])) (hf : jX5_readAction_123 y_2 k123_r_at k123_r_how k123_r_y k123_r_k = some o)  : GW x 0 0 [(qr, .inr (4, [.ref qp, .int k123_r_at, .int r_kind, .int r_claim, .int k123_r_how, .int y_2.1, .int k123_r_y, .int k123_r_k, .int r_seed, .int r_moves])), (qp, .inr (3, [.int p_n, .ref qp1])), (qp1, .inl ((xy x) 3, 80, .inl p_s))] [(0, .ref qr)] 123 [] := by
  unfold jX5_readAction_123 at hf
  refine g_aload_n C (pc := 123) 0 dX5_readAction_123 rfl rfl ?_
  refine g_get C (pc := 124) lfX5_95 0 rfl rfl dX5_readAction_124 ?_
  refine g_bipush C (pc := 127) dX5_readAction_127 ck_bipush_m8 ?_
  refine g_icmp_eq C (pc := 129) 136 dX5_readAction_129 (by decide) (fun c_129 => ?_) (fun c_129 => ?_)
  · replace hf := (k_if hf).1 c_129
    refine g_iconst C (pc := 136) dX5_readAction_136 ck_iconst_0 ?_
    cases hf
    exact g_zret C E rfl (pc := 137) dX5_readAction_137 ⟨rfl, rfl⟩
  · replace hf := (k_if hf).2 c_129
    refine g_iconst C (pc := 132) dX5_readAction_132 ck_iconst_1 ?_
    refine g_goto C (pc := 133) (tgt := 137) dX5_readAction_133 (by decide) ?_
    cases hf
    exact g_zret C E rfl (pc := 137) dX5_readAction_137 ⟨rfl, rfl⟩
def fX5_readAction (r_at : Int32) (r_how : Int32) (r_y : Int32) (r_k : Int32) (p_n : Int32) (p_s : Nat → Int32) : Option (Int32 × Int32 × Int32 × Int32 × Int32 × Int32) :=
  bd (fX5_readVar r_at p_n p_s) fun y_2 : Int32 × Int32 => if y_2.1 = (-8 : Int32) then some ((0 : Int32), y_2.2, r_how, y_2.1, r_y, r_k) else bd (fX5_take y_2.2 p_n p_s (126 : Int32)) fun y_22 : Int32 × Int32 => if y_22.1 = 0 then bd (fX5_take y_22.2 p_n p_s (61 : Int32)) fun y_64 : Int32 × Int32 => if y_64.1 = 0 then some ((0 : Int32), y_64.2, r_how, y_2.1, r_y, r_k) else bd (fX5_readVar y_64.2 p_n p_s) fun y_74 : Int32 × Int32 => if y_74.1 = (-8 : Int32) then bd (fX5_readDigit y_74.2 p_n p_s) fun y_101 : Int32 × Int32 => jX5_readAction_123 y_2 y_101.2 (0 : Int32) (0 : Int32) y_101.1 else bd (fX5_readOffset y_74.2 p_n p_s) fun y_117 : Int32 × Int32 => jX5_readAction_123 y_2 y_117.2 (1 : Int32) y_74.1 y_117.1 else bd (fX5_readVar y_22.2 p_n p_s) fun y_35 : Int32 × Int32 => if y_35.1 = (-8 : Int32) then some ((0 : Int32), y_35.2, (2 : Int32), y_2.1, y_35.1, (0 : Int32)) else some ((1 : Int32), y_35.2, (2 : Int32), y_2.1, y_35.1, (0 : Int32))
set_option maxRecDepth 100000 in
set_option maxHeartbeats 4000000 in
theorem eX5_readAction (x : GX) (C : GC x cX5_readAction RX5 rmX5_readAction) (N : xn x = 1) (qr : Nat) (r_at : Int32) (r_kind : Int32) (r_claim : Int32) (r_how : Int32) (r_x : Int32) (r_y : Int32) (r_k : Int32) (r_seed : Int32) (r_moves : Int32) (qp : Nat) (p_n : Int32) (qp1 : Nat) (p_s : Nat → Int32) (o : Int32 × Int32 × Int32 × Int32 × Int32 × Int32) (E : GE x (some .boolean) 0 0 (fun zv zw => zv = some (.int o.1) ∧ zw = [(qr, .inr (4, [.ref qp, .int o.2.1, .int r_kind, .int r_claim, .int o.2.2.1, .int o.2.2.2.1, .int o.2.2.2.2.1, .int o.2.2.2.2.2, .int r_seed, .int r_moves])), (qp, .inr (3, [.int p_n, .ref qp1])), (qp1, .inl ((xy x) 3, 80, .inl p_s))])) (hf : fX5_readAction r_at r_how r_y r_k p_n p_s = some o)  : GW x 0 0 [(qr, .inr (4, [.ref qp, .int r_at, .int r_kind, .int r_claim, .int r_how, .int r_x, .int r_y, .int r_k, .int r_seed, .int r_moves])), (qp, .inr (3, [.int p_n, .ref qp1])), (qp1, .inl ((xy x) 3, 80, .inl p_s))] [(0, .ref qr)] 0 [] := by
  unfold fX5_readAction at hf
  refine g_aload_n C (pc := 0) 0 dX5_readAction_0 rfl rfl ?_
  refine g_aload_n C (pc := 1) 0 dX5_readAction_1 rfl rfl ?_
  obtain ⟨y_2, h_2, hf⟩ := k_bd hf
  refine g_callA C (pc := 2) (b := qr) (As := []) (rest := [.ref qr]) (v1 := (some (.int y_2.1))) (st' := [.int y_2.1, .ref qr]) (w1 := [(qr, .inr (4, [.ref qp, .int y_2.2, .int r_kind, .int r_claim, .int r_how, .int r_x, .int r_y, .int r_k, .int r_seed, .int r_moves])), (qp, .inr (3, [.int p_n, .ref qp1])), (qp1, .inl ((xy x) 3, 80, .inl p_s))]) 0 lkX5_readVar lVX5_71 (cX5_readVar_k (xl x) (xD x) (xy x) qr r_at r_kind r_claim r_how r_x r_y r_k r_seed r_moves qp p_n qp1 p_s y_2 h_2) rfl ⟨⟨Nat.le_of_ble_eq_true rfl, Nat.le_of_ble_eq_true rfl⟩, ⟨rfl, rfl⟩, ⟨Nat.le_of_ble_eq_true rfl, Nat.le_of_ble_eq_true rfl⟩⟩ rfl rfl rfl (Nat.le_of_ble_eq_true rfl) rfl dX5_readAction_2 ?_
  refine g_put C (pc := 5) (ws' := [(qr, .inr (4, [.ref qp, .int y_2.2, .int r_kind, .int r_claim, .int r_how, .int y_2.1, .int r_y, .int r_k, .int r_seed, .int r_moves])), (qp, .inr (3, [.int p_n, .ref qp1])), (qp1, .inl ((xy x) 3, 80, .inl p_s))]) lpX5_86 0 rfl rfl rfl rfl (Nat.le_of_ble_eq_true rfl) rfl dX5_readAction_5 ?_
  refine g_aload_n C (pc := 8) 0 dX5_readAction_8 rfl rfl ?_
  refine g_get C (pc := 9) lfX5_86 0 rfl rfl dX5_readAction_9 ?_
  refine g_bipush C (pc := 12) dX5_readAction_12 ck_bipush_m8 ?_
  refine g_icmp_ne C (pc := 14) 19 dX5_readAction_14 (by decide) (fun c_14 => ?_) (fun c_14 => ?_)
  · replace hf := (k_if hf).2 c_14
    refine g_aload_n C (pc := 19) 0 dX5_readAction_19 rfl rfl ?_
    refine g_bipush C (pc := 20) dX5_readAction_20 ck_bipush_126 ?_
    obtain ⟨y_22, h_22, hf⟩ := k_bd hf
    refine g_callA C (pc := 22) (b := qr) (As := [.int (126 : Int32)]) (rest := []) (v1 := (some (.int y_22.1))) (st' := [.int y_22.1]) (w1 := [(qr, .inr (4, [.ref qp, .int y_22.2, .int r_kind, .int r_claim, .int r_how, .int y_2.1, .int r_y, .int r_k, .int r_seed, .int r_moves])), (qp, .inr (3, [.int p_n, .ref qp1])), (qp1, .inl ((xy x) 3, 80, .inl p_s))]) 0 lkX5_take lVX5_32 (cX5_take_k (xl x) (xD x) (xy x) qr y_2.2 r_kind r_claim r_how y_2.1 r_y r_k r_seed r_moves qp p_n qp1 p_s (126 : Int32) y_22 h_22) rfl ⟨⟨Nat.le_of_ble_eq_true rfl, Nat.le_of_ble_eq_true rfl⟩, ⟨rfl, rfl⟩, ⟨Nat.le_of_ble_eq_true rfl, Nat.le_of_ble_eq_true rfl⟩⟩ rfl rfl rfl (Nat.le_of_ble_eq_true rfl) rfl dX5_readAction_22 ?_
    refine g_if_eq C (pc := 25) 61 dX5_readAction_25 (by decide) (fun c_25 => ?_) (fun c_25 => ?_)
    · replace hf := (k_if hf).1 c_25
      refine g_aload_n C (pc := 61) 0 dX5_readAction_61 rfl rfl ?_
      refine g_bipush C (pc := 62) dX5_readAction_62 ck_bipush_61 ?_
      obtain ⟨y_64, h_64, hf⟩ := k_bd hf
      refine g_callA C (pc := 64) (b := qr) (As := [.int (61 : Int32)]) (rest := []) (v1 := (some (.int y_64.1))) (st' := [.int y_64.1]) (w1 := [(qr, .inr (4, [.ref qp, .int y_64.2, .int r_kind, .int r_claim, .int r_how, .int y_2.1, .int r_y, .int r_k, .int r_seed, .int r_moves])), (qp, .inr (3, [.int p_n, .ref qp1])), (qp1, .inl ((xy x) 3, 80, .inl p_s))]) 0 lkX5_take lVX5_32 (cX5_take_k (xl x) (xD x) (xy x) qr y_22.2 r_kind r_claim r_how y_2.1 r_y r_k r_seed r_moves qp p_n qp1 p_s (61 : Int32) y_64 h_64) rfl ⟨⟨Nat.le_of_ble_eq_true rfl, Nat.le_of_ble_eq_true rfl⟩, ⟨rfl, rfl⟩, ⟨Nat.le_of_ble_eq_true rfl, Nat.le_of_ble_eq_true rfl⟩⟩ rfl rfl rfl (Nat.le_of_ble_eq_true rfl) rfl dX5_readAction_64 ?_
      refine g_if_ne C (pc := 67) 72 dX5_readAction_67 (by decide) (fun c_67 => ?_) (fun c_67 => ?_)
      · replace hf := (k_if hf).2 c_67
        refine g_aload_n C (pc := 72) 0 dX5_readAction_72 rfl rfl ?_
        refine g_aload_n C (pc := 73) 0 dX5_readAction_73 rfl rfl ?_
        obtain ⟨y_74, h_74, hf⟩ := k_bd hf
        refine g_callA C (pc := 74) (b := qr) (As := []) (rest := [.ref qr]) (v1 := (some (.int y_74.1))) (st' := [.int y_74.1, .ref qr]) (w1 := [(qr, .inr (4, [.ref qp, .int y_74.2, .int r_kind, .int r_claim, .int r_how, .int y_2.1, .int r_y, .int r_k, .int r_seed, .int r_moves])), (qp, .inr (3, [.int p_n, .ref qp1])), (qp1, .inl ((xy x) 3, 80, .inl p_s))]) 0 lkX5_readVar lVX5_71 (cX5_readVar_k (xl x) (xD x) (xy x) qr y_64.2 r_kind r_claim r_how y_2.1 r_y r_k r_seed r_moves qp p_n qp1 p_s y_74 h_74) rfl ⟨⟨Nat.le_of_ble_eq_true rfl, Nat.le_of_ble_eq_true rfl⟩, ⟨rfl, rfl⟩, ⟨Nat.le_of_ble_eq_true rfl, Nat.le_of_ble_eq_true rfl⟩⟩ rfl rfl rfl (Nat.le_of_ble_eq_true rfl) rfl dX5_readAction_74 ?_
        refine g_put C (pc := 77) (ws' := [(qr, .inr (4, [.ref qp, .int y_74.2, .int r_kind, .int r_claim, .int r_how, .int y_2.1, .int y_74.1, .int r_k, .int r_seed, .int r_moves])), (qp, .inr (3, [.int p_n, .ref qp1])), (qp1, .inl ((xy x) 3, 80, .inl p_s))]) lpX5_92 0 rfl rfl rfl rfl (Nat.le_of_ble_eq_true rfl) rfl dX5_readAction_77 ?_
        refine g_aload_n C (pc := 80) 0 dX5_readAction_80 rfl rfl ?_
        refine g_get C (pc := 81) lfX5_92 0 rfl rfl dX5_readAction_81 ?_
        refine g_bipush C (pc := 84) dX5_readAction_84 ck_bipush_m8 ?_
        refine g_icmp_ne C (pc := 86) 110 dX5_readAction_86 (by decide) (fun c_86 => ?_) (fun c_86 => ?_)
        · replace hf := (k_if hf).2 c_86
          refine g_aload_n C (pc := 110) 0 dX5_readAction_110 rfl rfl ?_
          refine g_iconst C (pc := 111) dX5_readAction_111 ck_iconst_1 ?_
          refine g_put C (pc := 112) (ws' := [(qr, .inr (4, [.ref qp, .int y_74.2, .int r_kind, .int r_claim, .int (1 : Int32), .int y_2.1, .int y_74.1, .int r_k, .int r_seed, .int r_moves])), (qp, .inr (3, [.int p_n, .ref qp1])), (qp1, .inl ((xy x) 3, 80, .inl p_s))]) lpX5_89 0 rfl rfl rfl rfl (Nat.le_of_ble_eq_true rfl) rfl dX5_readAction_112 ?_
          refine g_aload_n C (pc := 115) 0 dX5_readAction_115 rfl rfl ?_
          refine g_aload_n C (pc := 116) 0 dX5_readAction_116 rfl rfl ?_
          obtain ⟨y_117, h_117, hf⟩ := k_bd hf
          refine g_callA C (pc := 117) (b := qr) (As := []) (rest := [.ref qr]) (v1 := (some (.int y_117.1))) (st' := [.int y_117.1, .ref qr]) (w1 := [(qr, .inr (4, [.ref qp, .int y_117.2, .int r_kind, .int r_claim, .int (1 : Int32), .int y_2.1, .int y_74.1, .int r_k, .int r_seed, .int r_moves])), (qp, .inr (3, [.int p_n, .ref qp1])), (qp1, .inl ((xy x) 3, 80, .inl p_s))]) 0 lkX5_readOffset lVX5_77 (cX5_readOffset_k (xl x) (xD x) (xy x) qr y_74.2 r_kind r_claim (1 : Int32) y_2.1 y_74.1 r_k r_seed r_moves qp p_n qp1 p_s y_117 h_117) rfl ⟨⟨Nat.le_of_ble_eq_true rfl, Nat.le_of_ble_eq_true rfl⟩, ⟨rfl, rfl⟩, ⟨Nat.le_of_ble_eq_true rfl, Nat.le_of_ble_eq_true rfl⟩⟩ rfl rfl rfl (Nat.le_of_ble_eq_true rfl) rfl dX5_readAction_117 ?_
          refine g_put C (pc := 120) (ws' := [(qr, .inr (4, [.ref qp, .int y_117.2, .int r_kind, .int r_claim, .int (1 : Int32), .int y_2.1, .int y_74.1, .int y_117.1, .int r_seed, .int r_moves])), (qp, .inr (3, [.int p_n, .ref qp1])), (qp1, .inl ((xy x) 3, 80, .inl p_s))]) lpX5_95 0 rfl rfl rfl rfl (Nat.le_of_ble_eq_true rfl) rfl dX5_readAction_120 ?_
          exact tX5_readAction_123 x C N qr r_kind r_claim r_seed r_moves qp p_n qp1 p_s y_2 y_117.2 (1 : Int32) y_74.1 y_117.1 o E hf
        · replace hf := (k_if hf).1 c_86
          refine g_aload_n C (pc := 89) 0 dX5_readAction_89 rfl rfl ?_
          refine g_iconst C (pc := 90) dX5_readAction_90 ck_iconst_0 ?_
          refine g_put C (pc := 91) (ws' := [(qr, .inr (4, [.ref qp, .int y_74.2, .int r_kind, .int r_claim, .int (0 : Int32), .int y_2.1, .int y_74.1, .int r_k, .int r_seed, .int r_moves])), (qp, .inr (3, [.int p_n, .ref qp1])), (qp1, .inl ((xy x) 3, 80, .inl p_s))]) lpX5_89 0 rfl rfl rfl rfl (Nat.le_of_ble_eq_true rfl) rfl dX5_readAction_91 ?_
          refine g_aload_n C (pc := 94) 0 dX5_readAction_94 rfl rfl ?_
          refine g_iconst C (pc := 95) dX5_readAction_95 ck_iconst_0 ?_
          refine g_put C (pc := 96) (ws' := [(qr, .inr (4, [.ref qp, .int y_74.2, .int r_kind, .int r_claim, .int (0 : Int32), .int y_2.1, .int (0 : Int32), .int r_k, .int r_seed, .int r_moves])), (qp, .inr (3, [.int p_n, .ref qp1])), (qp1, .inl ((xy x) 3, 80, .inl p_s))]) lpX5_92 0 rfl rfl rfl rfl (Nat.le_of_ble_eq_true rfl) rfl dX5_readAction_96 ?_
          refine g_aload_n C (pc := 99) 0 dX5_readAction_99 rfl rfl ?_
          refine g_aload_n C (pc := 100) 0 dX5_readAction_100 rfl rfl ?_
          obtain ⟨y_101, h_101, hf⟩ := k_bd hf
          refine g_callA C (pc := 101) (b := qr) (As := []) (rest := [.ref qr]) (v1 := (some (.int y_101.1))) (st' := [.int y_101.1, .ref qr]) (w1 := [(qr, .inr (4, [.ref qp, .int y_101.2, .int r_kind, .int r_claim, .int (0 : Int32), .int y_2.1, .int (0 : Int32), .int r_k, .int r_seed, .int r_moves])), (qp, .inr (3, [.int p_n, .ref qp1])), (qp1, .inl ((xy x) 3, 80, .inl p_s))]) 0 lkX5_readDigit lVX5_80 (cX5_readDigit_k (xl x) (xD x) (xy x) qr y_74.2 r_kind r_claim (0 : Int32) y_2.1 (0 : Int32) r_k r_seed r_moves qp p_n qp1 p_s y_101 h_101) rfl ⟨⟨Nat.le_of_ble_eq_true rfl, Nat.le_of_ble_eq_true rfl⟩, ⟨rfl, rfl⟩, ⟨Nat.le_of_ble_eq_true rfl, Nat.le_of_ble_eq_true rfl⟩⟩ rfl rfl rfl (Nat.le_of_ble_eq_true rfl) rfl dX5_readAction_101 ?_
          refine g_put C (pc := 104) (ws' := [(qr, .inr (4, [.ref qp, .int y_101.2, .int r_kind, .int r_claim, .int (0 : Int32), .int y_2.1, .int (0 : Int32), .int y_101.1, .int r_seed, .int r_moves])), (qp, .inr (3, [.int p_n, .ref qp1])), (qp1, .inl ((xy x) 3, 80, .inl p_s))]) lpX5_95 0 rfl rfl rfl rfl (Nat.le_of_ble_eq_true rfl) rfl dX5_readAction_104 ?_
          refine g_goto C (pc := 107) (tgt := 123) dX5_readAction_107 (by decide) ?_
          exact tX5_readAction_123 x C N qr r_kind r_claim r_seed r_moves qp p_n qp1 p_s y_2 y_101.2 (0 : Int32) (0 : Int32) y_101.1 o E hf
      · replace hf := (k_if hf).1 c_67
        refine g_iconst C (pc := 70) dX5_readAction_70 ck_iconst_0 ?_
        cases hf
        exact g_zret C E rfl (pc := 71) dX5_readAction_71 ⟨rfl, rfl⟩
    · replace hf := (k_if hf).2 c_25
      refine g_aload_n C (pc := 28) 0 dX5_readAction_28 rfl rfl ?_
      refine g_iconst C (pc := 29) dX5_readAction_29 ck_iconst_2 ?_
      refine g_put C (pc := 30) (ws' := [(qr, .inr (4, [.ref qp, .int y_22.2, .int r_kind, .int r_claim, .int (2 : Int32), .int y_2.1, .int r_y, .int r_k, .int r_seed, .int r_moves])), (qp, .inr (3, [.int p_n, .ref qp1])), (qp1, .inl ((xy x) 3, 80, .inl p_s))]) lpX5_89 0 rfl rfl rfl rfl (Nat.le_of_ble_eq_true rfl) rfl dX5_readAction_30 ?_
      refine g_aload_n C (pc := 33) 0 dX5_readAction_33 rfl rfl ?_
      refine g_aload_n C (pc := 34) 0 dX5_readAction_34 rfl rfl ?_
      obtain ⟨y_35, h_35, hf⟩ := k_bd hf
      refine g_callA C (pc := 35) (b := qr) (As := []) (rest := [.ref qr]) (v1 := (some (.int y_35.1))) (st' := [.int y_35.1, .ref qr]) (w1 := [(qr, .inr (4, [.ref qp, .int y_35.2, .int r_kind, .int r_claim, .int (2 : Int32), .int y_2.1, .int r_y, .int r_k, .int r_seed, .int r_moves])), (qp, .inr (3, [.int p_n, .ref qp1])), (qp1, .inl ((xy x) 3, 80, .inl p_s))]) 0 lkX5_readVar lVX5_71 (cX5_readVar_k (xl x) (xD x) (xy x) qr y_22.2 r_kind r_claim (2 : Int32) y_2.1 r_y r_k r_seed r_moves qp p_n qp1 p_s y_35 h_35) rfl ⟨⟨Nat.le_of_ble_eq_true rfl, Nat.le_of_ble_eq_true rfl⟩, ⟨rfl, rfl⟩, ⟨Nat.le_of_ble_eq_true rfl, Nat.le_of_ble_eq_true rfl⟩⟩ rfl rfl rfl (Nat.le_of_ble_eq_true rfl) rfl dX5_readAction_35 ?_
      refine g_put C (pc := 38) (ws' := [(qr, .inr (4, [.ref qp, .int y_35.2, .int r_kind, .int r_claim, .int (2 : Int32), .int y_2.1, .int y_35.1, .int r_k, .int r_seed, .int r_moves])), (qp, .inr (3, [.int p_n, .ref qp1])), (qp1, .inl ((xy x) 3, 80, .inl p_s))]) lpX5_92 0 rfl rfl rfl rfl (Nat.le_of_ble_eq_true rfl) rfl dX5_readAction_38 ?_
      refine g_aload_n C (pc := 41) 0 dX5_readAction_41 rfl rfl ?_
      refine g_iconst C (pc := 42) dX5_readAction_42 ck_iconst_0 ?_
      refine g_put C (pc := 43) (ws' := [(qr, .inr (4, [.ref qp, .int y_35.2, .int r_kind, .int r_claim, .int (2 : Int32), .int y_2.1, .int y_35.1, .int (0 : Int32), .int r_seed, .int r_moves])), (qp, .inr (3, [.int p_n, .ref qp1])), (qp1, .inl ((xy x) 3, 80, .inl p_s))]) lpX5_95 0 rfl rfl rfl rfl (Nat.le_of_ble_eq_true rfl) rfl dX5_readAction_43 ?_
      refine g_aload_n C (pc := 46) 0 dX5_readAction_46 rfl rfl ?_
      refine g_get C (pc := 47) lfX5_92 0 rfl rfl dX5_readAction_47 ?_
      refine g_bipush C (pc := 50) dX5_readAction_50 ck_bipush_m8 ?_
      refine g_icmp_eq C (pc := 52) 59 dX5_readAction_52 (by decide) (fun c_52 => ?_) (fun c_52 => ?_)
      · replace hf := (k_if hf).1 c_52
        refine g_iconst C (pc := 59) dX5_readAction_59 ck_iconst_0 ?_
        cases hf
        exact g_zret C E rfl (pc := 60) dX5_readAction_60 ⟨rfl, rfl⟩
      · replace hf := (k_if hf).2 c_52
        refine g_iconst C (pc := 55) dX5_readAction_55 ck_iconst_1 ?_
        refine g_goto C (pc := 56) (tgt := 60) dX5_readAction_56 (by decide) ?_
        cases hf
        exact g_zret C E rfl (pc := 60) dX5_readAction_60 ⟨rfl, rfl⟩
  · replace hf := (k_if hf).1 c_14
    refine g_iconst C (pc := 17) dX5_readAction_17 ck_iconst_0 ?_
    cases hf
    exact g_zret C E rfl (pc := 18) dX5_readAction_18 ⟨rfl, rfl⟩
set_option maxRecDepth 100000 in
theorem cX5_readAction_k (l : Launch) (D : va_G) (yy : Nat → ClassId) (qr : Nat) (r_at : Int32) (r_kind : Int32) (r_claim : Int32) (r_how : Int32) (r_x : Int32) (r_y : Int32) (r_k : Int32) (r_seed : Int32) (r_moves : Int32) (qp : Nat) (p_n : Int32) (qp1 : Nat) (p_s : Nat → Int32) (o : Int32 × Int32 × Int32 × Int32 × Int32 × Int32) (hf : fX5_readAction r_at r_how r_y r_k p_n p_s = some o) : GMet l yX5_readAction cX5_readAction 1 (some .boolean) rmX5_readAction 0 0 D yy [.ref qr] [(qr, .inr (4, [.ref qp, .int r_at, .int r_kind, .int r_claim, .int r_how, .int r_x, .int r_y, .int r_k, .int r_seed, .int r_moves])), (qp, .inr (3, [.int p_n, .ref qp1])), (qp1, .inl (yy 3, 80, .inl p_s))] (fun zv zw => zv = some (.int o.1) ∧ zw = [(qr, .inr (4, [.ref qp, .int o.2.1, .int r_kind, .int r_claim, .int o.2.2.1, .int o.2.2.2.1, .int o.2.2.2.2.1, .int o.2.2.2.2.2, .int r_seed, .int r_moves])), (qp, .inr (3, [.int p_n, .ref qp1])), (qp1, .inl (yy 3, 80, .inl p_s))]) :=
  g_met (by decide +kernel) (Nat.le_of_ble_eq_true rfl) (fun x hl hD hy hn C E _ => by subst hD; subst hy; exact eX5_readAction x C hn qr r_at r_kind r_claim r_how r_x r_y r_k r_seed r_moves qp p_n qp1 p_s o E hf)
def rmX5_readNextOrder : Room := { frames := 5, cells := 0, slots := 0, locals := 112 }
def jX5_readNextOrder_18 (r_claim : Int32) (r_how : Int32) (r_x : Int32) (r_y : Int32) (r_k : Int32) (r_seed : Int32) (r_moves : Int32) (p_n : Int32) (p_s : Nat → Int32) (k18_r_at : Int32) : Option (Int32 × Int32 × Int32 × Int32 × Int32 × Int32 × Int32 × Int32 × Int32 × Int32) :=
  bd (fX4_signAt p_n p_s k18_r_at) fun y_27 : Int32 => if y_27 = 99 then bd (fX5_readClaim (k18_r_at + (1 : Int32)) r_claim p_n p_s) fun y_91 : Int32 × Int32 × Int32 => gd (isB y_91.1) (some (y_91.1, y_91.2.1, y_27, y_91.2.2, r_how, r_x, r_y, r_k, r_seed, r_moves)) else if y_27 = 107 then some ((1 : Int32), k18_r_at + (1 : Int32), y_27, r_claim, r_how, r_x, r_y, r_k, r_seed, r_moves) else if y_27 = 114 then bd (fX5_readRun (k18_r_at + (1 : Int32)) r_moves p_n p_s) fun y_145 : Int32 × Int32 × Int32 × Int32 => gd (isB y_145.1) (some (y_145.1, y_145.2.1, y_27, r_claim, r_how, r_x, r_y, r_k, y_145.2.2.1, y_145.2.2.2)) else if y_27 = 115 then bd (fX5_readClaim (k18_r_at + (1 : Int32)) r_claim p_n p_s) fun y_106 : Int32 × Int32 × Int32 => if y_106.1 = 0 then some ((0 : Int32), y_106.2.1, y_27, y_106.2.2, r_how, r_x, r_y, r_k, r_seed, r_moves) else bd (fX5_take y_106.2.1 p_n p_s (58 : Int32)) fun y_115 : Int32 × Int32 => if y_115.1 = 0 then some ((0 : Int32), y_115.2, y_27, y_106.2.2, r_how, r_x, r_y, r_k, r_seed, r_moves) else bd (fX5_readAction y_115.2 r_how r_y r_k p_n p_s) fun y_122 : Int32 × Int32 × Int32 × Int32 × Int32 × Int32 => if y_122.1 = 0 then some ((0 : Int32), y_122.2.1, y_27, y_106.2.2, y_122.2.2.1, y_122.2.2.2.1, y_122.2.2.2.2.1, y_122.2.2.2.2.2, r_seed, r_moves) else some ((1 : Int32), y_122.2.1, y_27, y_106.2.2, y_122.2.2.1, y_122.2.2.2.1, y_122.2.2.2.2.1, y_122.2.2.2.2.2, r_seed, r_moves) else some ((0 : Int32), k18_r_at, y_27, r_claim, r_how, r_x, r_y, r_k, r_seed, r_moves)
set_option maxRecDepth 100000 in
set_option maxHeartbeats 4000000 in
theorem tX5_readNextOrder_18 (x : GX) (C : GC x cX5_readNextOrder RX5 rmX5_readNextOrder) (N : xn x = 1) (qr : Nat) (r_kind : Int32) (r_claim : Int32) (r_how : Int32) (r_x : Int32) (r_y : Int32) (r_k : Int32) (r_seed : Int32) (r_moves : Int32) (qp : Nat) (p_n : Int32) (qp1 : Nat) (p_s : Nat → Int32) (k18_r_at : Int32) (o : Int32 × Int32 × Int32 × Int32 × Int32 × Int32 × Int32 × Int32 × Int32 × Int32) (E : GE x (some .boolean) 0 0 (fun zv zw => zv = some (.int o.1) ∧ zw = [(qr, .inr (4, [.ref qp, .int o.2.1, .int o.2.2.1, .int o.2.2.2.1, .int o.2.2.2.2.1, .int o.2.2.2.2.2.1, .int o.2.2.2.2.2.2.1, .int o.2.2.2.2.2.2.2.1, .int o.2.2.2.2.2.2.2.2.1, .int o.2.2.2.2.2.2.2.2.2])), (qp, .inr (3, [.int p_n, .ref qp1])), (qp1, .inl ((xy x) 3, 80, .inl p_s))])) (hf : jX5_readNextOrder_18 r_claim r_how r_x r_y r_k r_seed r_moves p_n p_s k18_r_at = some o)  : GW x 0 0 [(qr, .inr (4, [.ref qp, .int k18_r_at, .int r_kind, .int r_claim, .int r_how, .int r_x, .int r_y, .int r_k, .int r_seed, .int r_moves])), (qp, .inr (3, [.int p_n, .ref qp1])), (qp1, .inl ((xy x) 3, 80, .inl p_s))] [(0, .ref qr)] 18 [] := by
  unfold jX5_readNextOrder_18 at hf
  refine g_aload_n C (pc := 18) 0 dX5_readNextOrder_18 rfl rfl ?_
  refine g_aload_n C (pc := 19) 0 dX5_readNextOrder_19 rfl rfl ?_
  refine g_get C (pc := 20) lfX5_12 0 rfl rfl dX5_readNextOrder_20 ?_
  refine g_aload_n C (pc := 23) 0 dX5_readNextOrder_23 rfl rfl ?_
  refine g_get C (pc := 24) lfX5_18 0 rfl rfl dX5_readNextOrder_24 ?_
  obtain ⟨y_27, h_27, hf⟩ := k_bd hf
  refine g_callV C (pc := 27) (b := qp) (As := [.int k18_r_at]) (rest := [.ref qr]) (v1 := (some (.int y_27))) (st' := [.int y_27, .ref qr]) (wc := [(qp, .inr (3, [.int p_n, .ref qp1])), (qp1, .inl ((xy x) 3, 80, .inl p_s))]) (w1 := [(qp, .inr (3, [.int p_n, .ref qp1])), (qp1, .inl ((xy x) 3, 80, .inl p_s))]) (wr := [(qr, .inr (4, [.ref qp, .int k18_r_at, .int r_kind, .int r_claim, .int r_how, .int r_x, .int r_y, .int r_k, .int r_seed, .int r_moves]))]) (ws' := [(qr, .inr (4, [.ref qp, .int k18_r_at, .int r_kind, .int r_claim, .int r_how, .int r_x, .int r_y, .int r_k, .int r_seed, .int r_moves])), (qp, .inr (3, [.int p_n, .ref qp1])), (qp1, .inl ((xy x) 3, 80, .inl p_s))]) 0 [1, 2] [0] [0, 1, 2] lkX4_signAt lVX5_36 (cX4_signAt_k (xl x) (xD x) (xy x) qp p_n qp1 p_s k18_r_at y_27 h_27) rfl ⟨⟨Nat.le_of_ble_eq_true rfl, Nat.le_of_ble_eq_true rfl⟩, ⟨rfl, rfl⟩, ⟨Nat.le_of_ble_eq_true rfl, Nat.le_of_ble_eq_true rfl⟩⟩ rfl rfl rfl rfl rfl rfl rfl (Nat.le_of_ble_eq_true rfl) rfl dX5_readNextOrder_27 ?_
  refine g_put C (pc := 30) (ws' := [(qr, .inr (4, [.ref qp, .int k18_r_at, .int y_27, .int r_claim, .int r_how, .int r_x, .int r_y, .int r_k, .int r_seed, .int r_moves])), (qp, .inr (3, [.int p_n, .ref qp1])), (qp1, .inl ((xy x) 3, 80, .inl p_s))]) lpX5_40 0 rfl rfl rfl rfl (Nat.le_of_ble_eq_true rfl) rfl dX5_readNextOrder_30 ?_
  refine g_aload_n C (pc := 33) 0 dX5_readNextOrder_33 rfl rfl ?_
  refine g_get C (pc := 34) lfX5_40 0 rfl rfl dX5_readNextOrder_34 ?_
  by_cases s_37_0 : y_27 = 99
  · replace hf := (k_if hf).1 s_37_0
    refine g_lsw C (pc := 37) (off := 43) 80 dX5_readNextOrder_37 (by decide +kernel) (by rw [s_37_0] <;> rfl) (by decide) ?_
    refine g_aload_n C (pc := 80) 0 dX5_readNextOrder_80 rfl rfl ?_
    refine g_dup C (pc := 81) dX5_readNextOrder_81 rfl ?_
    refine g_get C (pc := 82) lfX5_18 0 rfl rfl dX5_readNextOrder_82 ?_
    refine g_iconst C (pc := 85) dX5_readNextOrder_85 ck_iconst_1 ?_
    refine g_iadd C (pc := 86) dX5_readNextOrder_86 ?_
    refine g_put C (pc := 87) (ws' := [(qr, .inr (4, [.ref qp, .int (k18_r_at + (1 : Int32)), .int y_27, .int r_claim, .int r_how, .int r_x, .int r_y, .int r_k, .int r_seed, .int r_moves])), (qp, .inr (3, [.int p_n, .ref qp1])), (qp1, .inl ((xy x) 3, 80, .inl p_s))]) lpX5_18 0 rfl rfl rfl rfl (Nat.le_of_ble_eq_true rfl) rfl dX5_readNextOrder_87 ?_
    refine g_aload_n C (pc := 90) 0 dX5_readNextOrder_90 rfl rfl ?_
    obtain ⟨y_91, h_91, hf⟩ := k_bd hf
    refine g_callA C (pc := 91) (b := qr) (As := []) (rest := []) (v1 := (some (.int y_91.1))) (st' := [.int y_91.1]) (w1 := [(qr, .inr (4, [.ref qp, .int y_91.2.1, .int y_27, .int y_91.2.2, .int r_how, .int r_x, .int r_y, .int r_k, .int r_seed, .int r_moves])), (qp, .inr (3, [.int p_n, .ref qp1])), (qp1, .inl ((xy x) 3, 80, .inl p_s))]) 0 lkX5_readClaim lVX5_43 (cX5_readClaim_k (xl x) (xD x) (xy x) qr (k18_r_at + (1 : Int32)) y_27 r_claim r_how r_x r_y r_k r_seed r_moves qp p_n qp1 p_s y_91 h_91) rfl ⟨⟨Nat.le_of_ble_eq_true rfl, Nat.le_of_ble_eq_true rfl⟩, ⟨rfl, rfl⟩, ⟨Nat.le_of_ble_eq_true rfl, Nat.le_of_ble_eq_true rfl⟩⟩ rfl rfl rfl (Nat.le_of_ble_eq_true rfl) rfl dX5_readNextOrder_91 ?_
    obtain ⟨z_94, hf⟩ := k_gd hf
    cases hf
    exact g_zret C E (isB_nar z_94) (pc := 94) dX5_readNextOrder_94 ⟨rfl, rfl⟩
  replace hf := (k_if hf).2 s_37_0
  by_cases s_37_1 : y_27 = 107
  · replace hf := (k_if hf).1 s_37_1
    refine g_lsw C (pc := 37) (off := 112) 149 dX5_readNextOrder_37 (by decide +kernel) (by rw [s_37_1] <;> rfl) (by decide) ?_
    refine g_aload_n C (pc := 149) 0 dX5_readNextOrder_149 rfl rfl ?_
    refine g_dup C (pc := 150) dX5_readNextOrder_150 rfl ?_
    refine g_get C (pc := 151) lfX5_18 0 rfl rfl dX5_readNextOrder_151 ?_
    refine g_iconst C (pc := 154) dX5_readNextOrder_154 ck_iconst_1 ?_
    refine g_iadd C (pc := 155) dX5_readNextOrder_155 ?_
    refine g_put C (pc := 156) (ws' := [(qr, .inr (4, [.ref qp, .int (k18_r_at + (1 : Int32)), .int y_27, .int r_claim, .int r_how, .int r_x, .int r_y, .int r_k, .int r_seed, .int r_moves])), (qp, .inr (3, [.int p_n, .ref qp1])), (qp1, .inl ((xy x) 3, 80, .inl p_s))]) lpX5_18 0 rfl rfl rfl rfl (Nat.le_of_ble_eq_true rfl) rfl dX5_readNextOrder_156 ?_
    refine g_iconst C (pc := 159) dX5_readNextOrder_159 ck_iconst_1 ?_
    cases hf
    exact g_zret C E rfl (pc := 160) dX5_readNextOrder_160 ⟨rfl, rfl⟩
  replace hf := (k_if hf).2 s_37_1
  by_cases s_37_2 : y_27 = 114
  · replace hf := (k_if hf).1 s_37_2
    refine g_lsw C (pc := 37) (off := 97) 134 dX5_readNextOrder_37 (by decide +kernel) (by rw [s_37_2] <;> rfl) (by decide) ?_
    refine g_aload_n C (pc := 134) 0 dX5_readNextOrder_134 rfl rfl ?_
    refine g_dup C (pc := 135) dX5_readNextOrder_135 rfl ?_
    refine g_get C (pc := 136) lfX5_18 0 rfl rfl dX5_readNextOrder_136 ?_
    refine g_iconst C (pc := 139) dX5_readNextOrder_139 ck_iconst_1 ?_
    refine g_iadd C (pc := 140) dX5_readNextOrder_140 ?_
    refine g_put C (pc := 141) (ws' := [(qr, .inr (4, [.ref qp, .int (k18_r_at + (1 : Int32)), .int y_27, .int r_claim, .int r_how, .int r_x, .int r_y, .int r_k, .int r_seed, .int r_moves])), (qp, .inr (3, [.int p_n, .ref qp1])), (qp1, .inl ((xy x) 3, 80, .inl p_s))]) lpX5_18 0 rfl rfl rfl rfl (Nat.le_of_ble_eq_true rfl) rfl dX5_readNextOrder_141 ?_
    refine g_aload_n C (pc := 144) 0 dX5_readNextOrder_144 rfl rfl ?_
    obtain ⟨y_145, h_145, hf⟩ := k_bd hf
    refine g_callA C (pc := 145) (b := qr) (As := []) (rest := []) (v1 := (some (.int y_145.1))) (st' := [.int y_145.1]) (w1 := [(qr, .inr (4, [.ref qp, .int y_145.2.1, .int y_27, .int r_claim, .int r_how, .int r_x, .int r_y, .int r_k, .int y_145.2.2.1, .int y_145.2.2.2])), (qp, .inr (3, [.int p_n, .ref qp1])), (qp1, .inl ((xy x) 3, 80, .inl p_s))]) 0 lkX5_readRun lVX5_49 (cX5_readRun_k (xl x) (xD x) (xy x) qr (k18_r_at + (1 : Int32)) y_27 r_claim r_how r_x r_y r_k r_seed r_moves qp p_n qp1 p_s y_145 h_145) rfl ⟨⟨Nat.le_of_ble_eq_true rfl, Nat.le_of_ble_eq_true rfl⟩, ⟨rfl, rfl⟩, ⟨Nat.le_of_ble_eq_true rfl, Nat.le_of_ble_eq_true rfl⟩⟩ rfl rfl rfl (Nat.le_of_ble_eq_true rfl) rfl dX5_readNextOrder_145 ?_
    obtain ⟨z_148, hf⟩ := k_gd hf
    cases hf
    exact g_zret C E (isB_nar z_148) (pc := 148) dX5_readNextOrder_148 ⟨rfl, rfl⟩
  replace hf := (k_if hf).2 s_37_2
  by_cases s_37_3 : y_27 = 115
  · replace hf := (k_if hf).1 s_37_3
    refine g_lsw C (pc := 37) (off := 58) 95 dX5_readNextOrder_37 (by decide +kernel) (by rw [s_37_3] <;> rfl) (by decide) ?_
    refine g_aload_n C (pc := 95) 0 dX5_readNextOrder_95 rfl rfl ?_
    refine g_dup C (pc := 96) dX5_readNextOrder_96 rfl ?_
    refine g_get C (pc := 97) lfX5_18 0 rfl rfl dX5_readNextOrder_97 ?_
    refine g_iconst C (pc := 100) dX5_readNextOrder_100 ck_iconst_1 ?_
    refine g_iadd C (pc := 101) dX5_readNextOrder_101 ?_
    refine g_put C (pc := 102) (ws' := [(qr, .inr (4, [.ref qp, .int (k18_r_at + (1 : Int32)), .int y_27, .int r_claim, .int r_how, .int r_x, .int r_y, .int r_k, .int r_seed, .int r_moves])), (qp, .inr (3, [.int p_n, .ref qp1])), (qp1, .inl ((xy x) 3, 80, .inl p_s))]) lpX5_18 0 rfl rfl rfl rfl (Nat.le_of_ble_eq_true rfl) rfl dX5_readNextOrder_102 ?_
    refine g_aload_n C (pc := 105) 0 dX5_readNextOrder_105 rfl rfl ?_
    obtain ⟨y_106, h_106, hf⟩ := k_bd hf
    refine g_callA C (pc := 106) (b := qr) (As := []) (rest := []) (v1 := (some (.int y_106.1))) (st' := [.int y_106.1]) (w1 := [(qr, .inr (4, [.ref qp, .int y_106.2.1, .int y_27, .int y_106.2.2, .int r_how, .int r_x, .int r_y, .int r_k, .int r_seed, .int r_moves])), (qp, .inr (3, [.int p_n, .ref qp1])), (qp1, .inl ((xy x) 3, 80, .inl p_s))]) 0 lkX5_readClaim lVX5_43 (cX5_readClaim_k (xl x) (xD x) (xy x) qr (k18_r_at + (1 : Int32)) y_27 r_claim r_how r_x r_y r_k r_seed r_moves qp p_n qp1 p_s y_106 h_106) rfl ⟨⟨Nat.le_of_ble_eq_true rfl, Nat.le_of_ble_eq_true rfl⟩, ⟨rfl, rfl⟩, ⟨Nat.le_of_ble_eq_true rfl, Nat.le_of_ble_eq_true rfl⟩⟩ rfl rfl rfl (Nat.le_of_ble_eq_true rfl) rfl dX5_readNextOrder_106 ?_
    refine g_if_eq C (pc := 109) 132 dX5_readNextOrder_109 (by decide) (fun c_109 => ?_) (fun c_109 => ?_)
    · replace hf := (k_if hf).1 c_109
      refine g_iconst C (pc := 132) dX5_readNextOrder_132 ck_iconst_0 ?_
      cases hf
      exact g_zret C E rfl (pc := 133) dX5_readNextOrder_133 ⟨rfl, rfl⟩
    · replace hf := (k_if hf).2 c_109
      refine g_aload_n C (pc := 112) 0 dX5_readNextOrder_112 rfl rfl ?_
      refine g_bipush C (pc := 113) dX5_readNextOrder_113 ck_bipush_58 ?_
      obtain ⟨y_115, h_115, hf⟩ := k_bd hf
      refine g_callA C (pc := 115) (b := qr) (As := [.int (58 : Int32)]) (rest := []) (v1 := (some (.int y_115.1))) (st' := [.int y_115.1]) (w1 := [(qr, .inr (4, [.ref qp, .int y_115.2, .int y_27, .int y_106.2.2, .int r_how, .int r_x, .int r_y, .int r_k, .int r_seed, .int r_moves])), (qp, .inr (3, [.int p_n, .ref qp1])), (qp1, .inl ((xy x) 3, 80, .inl p_s))]) 0 lkX5_take lVX5_32 (cX5_take_k (xl x) (xD x) (xy x) qr y_106.2.1 y_27 y_106.2.2 r_how r_x r_y r_k r_seed r_moves qp p_n qp1 p_s (58 : Int32) y_115 h_115) rfl ⟨⟨Nat.le_of_ble_eq_true rfl, Nat.le_of_ble_eq_true rfl⟩, ⟨rfl, rfl⟩, ⟨Nat.le_of_ble_eq_true rfl, Nat.le_of_ble_eq_true rfl⟩⟩ rfl rfl rfl (Nat.le_of_ble_eq_true rfl) rfl dX5_readNextOrder_115 ?_
      refine g_if_eq C (pc := 118) 132 dX5_readNextOrder_118 (by decide) (fun c_118 => ?_) (fun c_118 => ?_)
      · replace hf := (k_if hf).1 c_118
        refine g_iconst C (pc := 132) dX5_readNextOrder_132 ck_iconst_0 ?_
        cases hf
        exact g_zret C E rfl (pc := 133) dX5_readNextOrder_133 ⟨rfl, rfl⟩
      · replace hf := (k_if hf).2 c_118
        refine g_aload_n C (pc := 121) 0 dX5_readNextOrder_121 rfl rfl ?_
        obtain ⟨y_122, h_122, hf⟩ := k_bd hf
        refine g_callA C (pc := 122) (b := qr) (As := []) (rest := []) (v1 := (some (.int y_122.1))) (st' := [.int y_122.1]) (w1 := [(qr, .inr (4, [.ref qp, .int y_122.2.1, .int y_27, .int y_106.2.2, .int y_122.2.2.1, .int y_122.2.2.2.1, .int y_122.2.2.2.2.1, .int y_122.2.2.2.2.2, .int r_seed, .int r_moves])), (qp, .inr (3, [.int p_n, .ref qp1])), (qp1, .inl ((xy x) 3, 80, .inl p_s))]) 0 lkX5_readAction lVX5_46 (cX5_readAction_k (xl x) (xD x) (xy x) qr y_115.2 y_27 y_106.2.2 r_how r_x r_y r_k r_seed r_moves qp p_n qp1 p_s y_122 h_122) rfl ⟨⟨Nat.le_of_ble_eq_true rfl, Nat.le_of_ble_eq_true rfl⟩, ⟨rfl, rfl⟩, ⟨Nat.le_of_ble_eq_true rfl, Nat.le_of_ble_eq_true rfl⟩⟩ rfl rfl rfl (Nat.le_of_ble_eq_true rfl) rfl dX5_readNextOrder_122 ?_
        refine g_if_eq C (pc := 125) 132 dX5_readNextOrder_125 (by decide) (fun c_125 => ?_) (fun c_125 => ?_)
        · replace hf := (k_if hf).1 c_125
          refine g_iconst C (pc := 132) dX5_readNextOrder_132 ck_iconst_0 ?_
          cases hf
          exact g_zret C E rfl (pc := 133) dX5_readNextOrder_133 ⟨rfl, rfl⟩
        · replace hf := (k_if hf).2 c_125
          refine g_iconst C (pc := 128) dX5_readNextOrder_128 ck_iconst_1 ?_
          refine g_goto C (pc := 129) (tgt := 133) dX5_readNextOrder_129 (by decide) ?_
          cases hf
          exact g_zret C E rfl (pc := 133) dX5_readNextOrder_133 ⟨rfl, rfl⟩
  replace hf := (k_if hf).2 s_37_3
  refine g_lsw C (pc := 37) (off := 124) 161 dX5_readNextOrder_37 (by decide +kernel) ((lv_osw s_37_0 (by decide +kernel)).trans ((lv_osw s_37_1 (by decide +kernel)).trans ((lv_osw s_37_2 (by decide +kernel)).trans ((lv_osw s_37_3 (by decide +kernel)).trans rfl)))) (by decide) ?_
  refine g_iconst C (pc := 161) dX5_readNextOrder_161 ck_iconst_0 ?_
  cases hf
  exact g_zret C E rfl (pc := 162) dX5_readNextOrder_162 ⟨rfl, rfl⟩
def fX5_readNextOrder (r_at : Int32) (r_kind : Int32) (r_claim : Int32) (r_how : Int32) (r_x : Int32) (r_y : Int32) (r_k : Int32) (r_seed : Int32) (r_moves : Int32) (p_n : Int32) (p_s : Nat → Int32) : Option (Int32 × Int32 × Int32 × Int32 × Int32 × Int32 × Int32 × Int32 × Int32 × Int32) :=
  if r_at ≤ 0 then jX5_readNextOrder_18 r_claim r_how r_x r_y r_k r_seed r_moves p_n p_s r_at else bd (fX5_take r_at p_n p_s (59 : Int32)) fun y_10 : Int32 × Int32 => if y_10.1 = 0 then some ((0 : Int32), y_10.2, r_kind, r_claim, r_how, r_x, r_y, r_k, r_seed, r_moves) else jX5_readNextOrder_18 r_claim r_how r_x r_y r_k r_seed r_moves p_n p_s y_10.2
set_option maxRecDepth 100000 in
set_option maxHeartbeats 4000000 in
theorem eX5_readNextOrder (x : GX) (C : GC x cX5_readNextOrder RX5 rmX5_readNextOrder) (N : xn x = 1) (qr : Nat) (r_at : Int32) (r_kind : Int32) (r_claim : Int32) (r_how : Int32) (r_x : Int32) (r_y : Int32) (r_k : Int32) (r_seed : Int32) (r_moves : Int32) (qp : Nat) (p_n : Int32) (qp1 : Nat) (p_s : Nat → Int32) (o : Int32 × Int32 × Int32 × Int32 × Int32 × Int32 × Int32 × Int32 × Int32 × Int32) (E : GE x (some .boolean) 0 0 (fun zv zw => zv = some (.int o.1) ∧ zw = [(qr, .inr (4, [.ref qp, .int o.2.1, .int o.2.2.1, .int o.2.2.2.1, .int o.2.2.2.2.1, .int o.2.2.2.2.2.1, .int o.2.2.2.2.2.2.1, .int o.2.2.2.2.2.2.2.1, .int o.2.2.2.2.2.2.2.2.1, .int o.2.2.2.2.2.2.2.2.2])), (qp, .inr (3, [.int p_n, .ref qp1])), (qp1, .inl ((xy x) 3, 80, .inl p_s))])) (hf : fX5_readNextOrder r_at r_kind r_claim r_how r_x r_y r_k r_seed r_moves p_n p_s = some o)  : GW x 0 0 [(qr, .inr (4, [.ref qp, .int r_at, .int r_kind, .int r_claim, .int r_how, .int r_x, .int r_y, .int r_k, .int r_seed, .int r_moves])), (qp, .inr (3, [.int p_n, .ref qp1])), (qp1, .inl ((xy x) 3, 80, .inl p_s))] [(0, .ref qr)] 0 [] := by
  unfold fX5_readNextOrder at hf
  refine g_aload_n C (pc := 0) 0 dX5_readNextOrder_0 rfl rfl ?_
  refine g_get C (pc := 1) lfX5_18 0 rfl rfl dX5_readNextOrder_1 ?_
  refine g_if_le C (pc := 4) 18 dX5_readNextOrder_4 (by decide) (fun c_4 => ?_) (fun c_4 => ?_)
  · replace hf := (k_if hf).1 c_4
    exact tX5_readNextOrder_18 x C N qr r_kind r_claim r_how r_x r_y r_k r_seed r_moves qp p_n qp1 p_s r_at o E hf
  · replace hf := (k_if hf).2 c_4
    refine g_aload_n C (pc := 7) 0 dX5_readNextOrder_7 rfl rfl ?_
    refine g_bipush C (pc := 8) dX5_readNextOrder_8 ck_bipush_59 ?_
    obtain ⟨y_10, h_10, hf⟩ := k_bd hf
    refine g_callA C (pc := 10) (b := qr) (As := [.int (59 : Int32)]) (rest := []) (v1 := (some (.int y_10.1))) (st' := [.int y_10.1]) (w1 := [(qr, .inr (4, [.ref qp, .int y_10.2, .int r_kind, .int r_claim, .int r_how, .int r_x, .int r_y, .int r_k, .int r_seed, .int r_moves])), (qp, .inr (3, [.int p_n, .ref qp1])), (qp1, .inl ((xy x) 3, 80, .inl p_s))]) 0 lkX5_take lVX5_32 (cX5_take_k (xl x) (xD x) (xy x) qr r_at r_kind r_claim r_how r_x r_y r_k r_seed r_moves qp p_n qp1 p_s (59 : Int32) y_10 h_10) rfl ⟨⟨Nat.le_of_ble_eq_true rfl, Nat.le_of_ble_eq_true rfl⟩, ⟨rfl, rfl⟩, ⟨Nat.le_of_ble_eq_true rfl, Nat.le_of_ble_eq_true rfl⟩⟩ rfl rfl rfl (Nat.le_of_ble_eq_true rfl) rfl dX5_readNextOrder_10 ?_
    refine g_if_ne C (pc := 13) 18 dX5_readNextOrder_13 (by decide) (fun c_13 => ?_) (fun c_13 => ?_)
    · replace hf := (k_if hf).2 c_13
      exact tX5_readNextOrder_18 x C N qr r_kind r_claim r_how r_x r_y r_k r_seed r_moves qp p_n qp1 p_s y_10.2 o E hf
    · replace hf := (k_if hf).1 c_13
      refine g_iconst C (pc := 16) dX5_readNextOrder_16 ck_iconst_0 ?_
      cases hf
      exact g_zret C E rfl (pc := 17) dX5_readNextOrder_17 ⟨rfl, rfl⟩
set_option maxRecDepth 100000 in
theorem cX5_readNextOrder_k (l : Launch) (D : va_G) (yy : Nat → ClassId) (qr : Nat) (r_at : Int32) (r_kind : Int32) (r_claim : Int32) (r_how : Int32) (r_x : Int32) (r_y : Int32) (r_k : Int32) (r_seed : Int32) (r_moves : Int32) (qp : Nat) (p_n : Int32) (qp1 : Nat) (p_s : Nat → Int32) (o : Int32 × Int32 × Int32 × Int32 × Int32 × Int32 × Int32 × Int32 × Int32 × Int32) (hf : fX5_readNextOrder r_at r_kind r_claim r_how r_x r_y r_k r_seed r_moves p_n p_s = some o) : GMet l yX5_readNextOrder cX5_readNextOrder 1 (some .boolean) rmX5_readNextOrder 0 0 D yy [.ref qr] [(qr, .inr (4, [.ref qp, .int r_at, .int r_kind, .int r_claim, .int r_how, .int r_x, .int r_y, .int r_k, .int r_seed, .int r_moves])), (qp, .inr (3, [.int p_n, .ref qp1])), (qp1, .inl (yy 3, 80, .inl p_s))] (fun zv zw => zv = some (.int o.1) ∧ zw = [(qr, .inr (4, [.ref qp, .int o.2.1, .int o.2.2.1, .int o.2.2.2.1, .int o.2.2.2.2.1, .int o.2.2.2.2.2.1, .int o.2.2.2.2.2.2.1, .int o.2.2.2.2.2.2.2.1, .int o.2.2.2.2.2.2.2.2.1, .int o.2.2.2.2.2.2.2.2.2])), (qp, .inr (3, [.int p_n, .ref qp1])), (qp1, .inl (yy 3, 80, .inl p_s))]) :=
  g_met (by decide +kernel) (Nat.le_of_ble_eq_true rfl) (fun x hl hD hy hn C E _ => by subst hD; subst hy; exact eX5_readNextOrder x C hn qr r_at r_kind r_claim r_how r_x r_y r_k r_seed r_moves qp p_n qp1 p_s o E hf)
def rmX5_findFault : Room := { frames := 6, cells := 0, slots := 0, locals := 132 }
def gX5_findFault_6 (p_n : Int32) (p_s : Nat → Int32) (a_6 : Int32 × Int32 × Int32 × Int32 × Int32 × Int32 × Int32 × Int32 × Int32 × Int32) : Option ((Int32 × Int32 × Int32 × Int32 × Int32 × Int32 × Int32 × Int32 × Int32 × Int32) ⊕ ((Int32 × Int32 × Int32 × Int32 × Int32 × Int32 × Int32 × Int32 × Int32 × Int32) ⊕ (Int32 × Int32 × Int32 × Int32 × Int32 × Int32 × Int32 × Int32 × Int32 × Int32))) :=
  if (80 : Int32) ≤ a_6.1 then some (.inr (.inl (a_6.1, a_6.2.1, a_6.2.2.1, a_6.2.2.2.1, a_6.2.2.2.2.1, a_6.2.2.2.2.2.1, a_6.2.2.2.2.2.2.1, a_6.2.2.2.2.2.2.2.1, a_6.2.2.2.2.2.2.2.2.1, a_6.2.2.2.2.2.2.2.2.2))) else bd (fX5_readNextOrder a_6.2.1 a_6.2.2.1 a_6.2.2.2.1 a_6.2.2.2.2.1 a_6.2.2.2.2.2.1 a_6.2.2.2.2.2.2.1 a_6.2.2.2.2.2.2.2.1 a_6.2.2.2.2.2.2.2.2.1 a_6.2.2.2.2.2.2.2.2.2 p_n p_s) fun y_13 : Int32 × Int32 × Int32 × Int32 × Int32 × Int32 × Int32 × Int32 × Int32 × Int32 => if y_13.1 = 0 then some (.inr (.inr (y_13.2.1, y_13.2.1, y_13.2.2.1, y_13.2.2.2.1, y_13.2.2.2.2.1, y_13.2.2.2.2.2.1, y_13.2.2.2.2.2.2.1, y_13.2.2.2.2.2.2.2.1, y_13.2.2.2.2.2.2.2.2.1, y_13.2.2.2.2.2.2.2.2.2))) else if y_13.2.1 < p_n then some (.inl (a_6.1 + 1, y_13.2.1, y_13.2.2.1, y_13.2.2.2.1, y_13.2.2.2.2.1, y_13.2.2.2.2.2.1, y_13.2.2.2.2.2.2.1, y_13.2.2.2.2.2.2.2.1, y_13.2.2.2.2.2.2.2.2.1, y_13.2.2.2.2.2.2.2.2.2)) else some (.inr (.inr ((-6 : Int32), y_13.2.1, y_13.2.2.1, y_13.2.2.2.1, y_13.2.2.2.2.1, y_13.2.2.2.2.2.1, y_13.2.2.2.2.2.2.1, y_13.2.2.2.2.2.2.2.1, y_13.2.2.2.2.2.2.2.2.1, y_13.2.2.2.2.2.2.2.2.2)))
set_option maxRecDepth 100000 in
set_option maxHeartbeats 4000000 in
theorem bX5_findFault_6 (x : GX) (C : GC x cX5_findFault RX5 rmX5_findFault) (N : xn x = 2) (qr : Nat) (qp : Nat) (p_n : Int32) (qp1 : Nat) (p_s : Nat → Int32) (a_6 : Int32 × Int32 × Int32 × Int32 × Int32 × Int32 × Int32 × Int32 × Int32 × Int32) (o : Int32 × Int32 × Int32 × Int32 × Int32 × Int32 × Int32 × Int32 × Int32 × Int32) (r : (Int32 × Int32 × Int32 × Int32 × Int32 × Int32 × Int32 × Int32 × Int32 × Int32) ⊕ ((Int32 × Int32 × Int32 × Int32 × Int32 × Int32 × Int32 × Int32 × Int32 × Int32) ⊕ (Int32 × Int32 × Int32 × Int32 × Int32 × Int32 × Int32 × Int32 × Int32 × Int32))) (E : GE x (some .int) 0 0 (fun zv zw => zv = some (.int o.1) ∧ zw = [(qr, .inr (4, [.ref qp, .int o.2.1, .int o.2.2.1, .int o.2.2.2.1, .int o.2.2.2.2.1, .int o.2.2.2.2.2.1, .int o.2.2.2.2.2.2.1, .int o.2.2.2.2.2.2.2.1, .int o.2.2.2.2.2.2.2.2.1, .int o.2.2.2.2.2.2.2.2.2])), (qp, .inr (3, [.int p_n, .ref qp1])), (qp1, .inl ((xy x) 3, 80, .inl p_s))])) (hf : gX5_findFault_6 p_n p_s a_6 = some r) (kn : ∀ e : Int32 × Int32 × Int32 × Int32 × Int32 × Int32 × Int32 × Int32 × Int32 × Int32, r = .inl e → GW x 0 0 [(qr, .inr (4, [.ref qp, .int e.2.1, .int e.2.2.1, .int e.2.2.2.1, .int e.2.2.2.2.1, .int e.2.2.2.2.2.1, .int e.2.2.2.2.2.2.1, .int e.2.2.2.2.2.2.2.1, .int e.2.2.2.2.2.2.2.2.1, .int e.2.2.2.2.2.2.2.2.2])), (qp, .inr (3, [.int p_n, .ref qp1])), (qp1, .inl ((xy x) 3, 80, .inl p_s))] [(0, .ref qr), (1, .int e.1)] 6 []) (kx : ∀ e : Int32 × Int32 × Int32 × Int32 × Int32 × Int32 × Int32 × Int32 × Int32 × Int32, r = .inr (.inl e) → GW x 0 0 [(qr, .inr (4, [.ref qp, .int e.2.1, .int e.2.2.1, .int e.2.2.2.1, .int e.2.2.2.2.1, .int e.2.2.2.2.2.1, .int e.2.2.2.2.2.2.1, .int e.2.2.2.2.2.2.2.1, .int e.2.2.2.2.2.2.2.2.1, .int e.2.2.2.2.2.2.2.2.2])), (qp, .inr (3, [.int p_n, .ref qp1])), (qp1, .inl ((xy x) 3, 80, .inl p_s))] [(0, .ref qr)] 47 []) (kr : ∀ o' : Int32 × Int32 × Int32 × Int32 × Int32 × Int32 × Int32 × Int32 × Int32 × Int32, r = .inr (.inr o') → o' = o) : GW x 0 0 [(qr, .inr (4, [.ref qp, .int a_6.2.1, .int a_6.2.2.1, .int a_6.2.2.2.1, .int a_6.2.2.2.2.1, .int a_6.2.2.2.2.2.1, .int a_6.2.2.2.2.2.2.1, .int a_6.2.2.2.2.2.2.2.1, .int a_6.2.2.2.2.2.2.2.2.1, .int a_6.2.2.2.2.2.2.2.2.2])), (qp, .inr (3, [.int p_n, .ref qp1])), (qp1, .inl ((xy x) 3, 80, .inl p_s))] [(0, .ref qr), (1, .int a_6.1)] 6 [] := by
  unfold gX5_findFault_6 at hf
  refine g_iload_n C (pc := 6) 1 dX5_findFault_6 rfl rfl ?_
  refine g_bipush C (pc := 7) dX5_findFault_7 ck_bipush_80 ?_
  refine g_icmp_ge C (pc := 9) 47 dX5_findFault_9 (by decide) (fun c_9 => ?_) (fun c_9 => ?_)
  · replace hf := (k_if hf).1 c_9
    cases hf
    exact g_lo [0] rfl (kx (a_6.1, a_6.2.1, a_6.2.2.1, a_6.2.2.2.1, a_6.2.2.2.2.1, a_6.2.2.2.2.2.1, a_6.2.2.2.2.2.2.1, a_6.2.2.2.2.2.2.2.1, a_6.2.2.2.2.2.2.2.2.1, a_6.2.2.2.2.2.2.2.2.2) rfl)
  · replace hf := (k_if hf).2 c_9
    refine g_aload_n C (pc := 12) 0 dX5_findFault_12 rfl rfl ?_
    obtain ⟨y_13, h_13, hf⟩ := k_bd hf
    refine g_callA C (pc := 13) (b := qr) (As := []) (rest := []) (v1 := (some (.int y_13.1))) (st' := [.int y_13.1]) (w1 := [(qr, .inr (4, [.ref qp, .int y_13.2.1, .int y_13.2.2.1, .int y_13.2.2.2.1, .int y_13.2.2.2.2.1, .int y_13.2.2.2.2.2.1, .int y_13.2.2.2.2.2.2.1, .int y_13.2.2.2.2.2.2.2.1, .int y_13.2.2.2.2.2.2.2.2.1, .int y_13.2.2.2.2.2.2.2.2.2])), (qp, .inr (3, [.int p_n, .ref qp1])), (qp1, .inl ((xy x) 3, 80, .inl p_s))]) 0 lkX5_readNextOrder lVX5_25 (cX5_readNextOrder_k (xl x) (xD x) (xy x) qr a_6.2.1 a_6.2.2.1 a_6.2.2.2.1 a_6.2.2.2.2.1 a_6.2.2.2.2.2.1 a_6.2.2.2.2.2.2.1 a_6.2.2.2.2.2.2.2.1 a_6.2.2.2.2.2.2.2.2.1 a_6.2.2.2.2.2.2.2.2.2 qp p_n qp1 p_s y_13 h_13) rfl ⟨⟨Nat.le_of_ble_eq_true rfl, Nat.le_of_ble_eq_true rfl⟩, ⟨rfl, rfl⟩, ⟨Nat.le_of_ble_eq_true rfl, Nat.le_of_ble_eq_true rfl⟩⟩ rfl rfl rfl (Nat.le_of_ble_eq_true rfl) rfl dX5_findFault_13 ?_
    refine g_if_ne C (pc := 16) 24 dX5_findFault_16 (by decide) (fun c_16 => ?_) (fun c_16 => ?_)
    · replace hf := (k_if hf).2 c_16
      refine g_aload_n C (pc := 24) 0 dX5_findFault_24 rfl rfl ?_
      refine g_get C (pc := 25) lfX5_18 0 rfl rfl dX5_findFault_25 ?_
      refine g_aload_n C (pc := 28) 0 dX5_findFault_28 rfl rfl ?_
      refine g_get C (pc := 29) lfX5_12 0 rfl rfl dX5_findFault_29 ?_
      refine g_get C (pc := 32) lfX5_29 1 rfl rfl dX5_findFault_32 ?_
      refine g_icmp_lt C (pc := 35) 41 dX5_findFault_35 (by decide) (fun c_35 => ?_) (fun c_35 => ?_)
      · replace hf := (k_if hf).1 c_35
        refine g_iinc C (pc := 41) (v := a_6.1 + 1) (lo' := [(1, .int (a_6.1 + 1)), (0, .ref qr)]) 1 dX5_findFault_41 rfl (congrArg (HAdd.hAdd _) ck_iinc_1) N rfl rfl ?_
        refine g_goto C (pc := 44) (tgt := 6) dX5_findFault_44 (by decide) ?_
        cases hf
        exact g_lo [1, 0] rfl (kn (a_6.1 + 1, y_13.2.1, y_13.2.2.1, y_13.2.2.2.1, y_13.2.2.2.2.1, y_13.2.2.2.2.2.1, y_13.2.2.2.2.2.2.1, y_13.2.2.2.2.2.2.2.1, y_13.2.2.2.2.2.2.2.2.1, y_13.2.2.2.2.2.2.2.2.2) rfl)
      · replace hf := (k_if hf).2 c_35
        refine g_bipush C (pc := 38) dX5_findFault_38 ck_bipush_m6 ?_
        cases hf
        have ho := kr _ rfl
        cases ho
        exact g_iret C E (pc := 40) dX5_findFault_40 ⟨rfl, rfl⟩
    · replace hf := (k_if hf).1 c_16
      refine g_aload_n C (pc := 19) 0 dX5_findFault_19 rfl rfl ?_
      refine g_get C (pc := 20) lfX5_18 0 rfl rfl dX5_findFault_20 ?_
      cases hf
      have ho := kr _ rfl
      cases ho
      exact g_iret C E (pc := 23) dX5_findFault_23 ⟨rfl, rfl⟩
def fX5_findFault (r_kind : Int32) (r_claim : Int32) (r_how : Int32) (r_x : Int32) (r_y : Int32) (r_k : Int32) (r_seed : Int32) (r_moves : Int32) (p_n : Int32) (p_s : Nat → Int32) : Option (Int32 × Int32 × Int32 × Int32 × Int32 × Int32 × Int32 × Int32 × Int32 × Int32) :=
  bd (fX5_begin) fun y_1 : Int32 => bd (iter (gX5_findFault_6 p_n p_s) FU ((0 : Int32), y_1, r_kind, r_claim, r_how, r_x, r_y, r_k, r_seed, r_moves)) fun b_6 : (Int32 × Int32 × Int32 × Int32 × Int32 × Int32 × Int32 × Int32 × Int32 × Int32) ⊕ (Int32 × Int32 × Int32 × Int32 × Int32 × Int32 × Int32 × Int32 × Int32 × Int32) => Sum.elim (fun e_6 : Int32 × Int32 × Int32 × Int32 × Int32 × Int32 × Int32 × Int32 × Int32 × Int32 => some (e_6.2.1, e_6.2.1, e_6.2.2.1, e_6.2.2.2.1, e_6.2.2.2.2.1, e_6.2.2.2.2.2.1, e_6.2.2.2.2.2.2.1, e_6.2.2.2.2.2.2.2.1, e_6.2.2.2.2.2.2.2.2.1, e_6.2.2.2.2.2.2.2.2.2)) (fun o_6 : Int32 × Int32 × Int32 × Int32 × Int32 × Int32 × Int32 × Int32 × Int32 × Int32 => some o_6) b_6
set_option maxRecDepth 100000 in
set_option maxHeartbeats 4000000 in
theorem eX5_findFault (x : GX) (C : GC x cX5_findFault RX5 rmX5_findFault) (N : xn x = 2) (qr : Nat) (r_at : Int32) (r_kind : Int32) (r_claim : Int32) (r_how : Int32) (r_x : Int32) (r_y : Int32) (r_k : Int32) (r_seed : Int32) (r_moves : Int32) (qp : Nat) (p_n : Int32) (qp1 : Nat) (p_s : Nat → Int32) (o : Int32 × Int32 × Int32 × Int32 × Int32 × Int32 × Int32 × Int32 × Int32 × Int32) (E : GE x (some .int) 0 0 (fun zv zw => zv = some (.int o.1) ∧ zw = [(qr, .inr (4, [.ref qp, .int o.2.1, .int o.2.2.1, .int o.2.2.2.1, .int o.2.2.2.2.1, .int o.2.2.2.2.2.1, .int o.2.2.2.2.2.2.1, .int o.2.2.2.2.2.2.2.1, .int o.2.2.2.2.2.2.2.2.1, .int o.2.2.2.2.2.2.2.2.2])), (qp, .inr (3, [.int p_n, .ref qp1])), (qp1, .inl ((xy x) 3, 80, .inl p_s))])) (hf : fX5_findFault r_kind r_claim r_how r_x r_y r_k r_seed r_moves p_n p_s = some o)  : GW x 0 0 [(qr, .inr (4, [.ref qp, .int r_at, .int r_kind, .int r_claim, .int r_how, .int r_x, .int r_y, .int r_k, .int r_seed, .int r_moves])), (qp, .inr (3, [.int p_n, .ref qp1])), (qp1, .inl ((xy x) 3, 80, .inl p_s))] [(0, .ref qr)] 0 [] := by
  unfold fX5_findFault at hf
  refine g_aload_n C (pc := 0) 0 dX5_findFault_0 rfl rfl ?_
  obtain ⟨y_1, h_1, hf⟩ := k_bd hf
  refine g_callA C (pc := 1) (b := qr) (As := []) (rest := []) (v1 := none) (st' := []) (w1 := [(qr, .inr (4, [.ref qp, .int y_1, .int r_kind, .int r_claim, .int r_how, .int r_x, .int r_y, .int r_k, .int r_seed, .int r_moves])), (qp, .inr (3, [.int p_n, .ref qp1])), (qp1, .inl ((xy x) 3, 80, .inl p_s))]) 0 lkX5_begin lVX5_22 (cX5_begin_k (xl x) (xD x) (xy x) qr r_at r_kind r_claim r_how r_x r_y r_k r_seed r_moves qp p_n qp1 p_s y_1 h_1) rfl ⟨⟨Nat.le_of_ble_eq_true rfl, Nat.le_of_ble_eq_true rfl⟩, ⟨rfl, rfl⟩, ⟨Nat.le_of_ble_eq_true rfl, Nat.le_of_ble_eq_true rfl⟩⟩ rfl rfl rfl (Nat.le_of_ble_eq_true rfl) rfl dX5_findFault_1 ?_
  refine g_iconst C (pc := 4) dX5_findFault_4 ck_iconst_0 ?_
  refine g_istore_n C (pc := 5) (lo' := [(1, .int (0 : Int32)), (0, .ref qr)]) dX5_findFault_5 rfl N rfl rfl ?_
  obtain ⟨b_6, hb_6, hf⟩ := k_bd hf
  refine g_lo [1, 0] rfl ?_
  refine g_loop (g := (gX5_findFault_6 p_n p_s)) (fun e : Int32 × Int32 × Int32 × Int32 × Int32 × Int32 × Int32 × Int32 × Int32 × Int32 => [(qr, .inr (4, [.ref qp, .int e.2.1, .int e.2.2.1, .int e.2.2.2.1, .int e.2.2.2.2.1, .int e.2.2.2.2.2.1, .int e.2.2.2.2.2.2.1, .int e.2.2.2.2.2.2.2.1, .int e.2.2.2.2.2.2.2.2.1, .int e.2.2.2.2.2.2.2.2.2])), (qp, .inr (3, [.int p_n, .ref qp1])), (qp1, .inl ((xy x) 3, 80, .inl p_s))]) (fun e : Int32 × Int32 × Int32 × Int32 × Int32 × Int32 × Int32 × Int32 × Int32 × Int32 => [(0, .ref qr), (1, .int e.1)]) 6 (fun b : (Int32 × Int32 × Int32 × Int32 × Int32 × Int32 × Int32 × Int32 × Int32 × Int32) ⊕ (Int32 × Int32 × Int32 × Int32 × Int32 × Int32 × Int32 × Int32 × Int32 × Int32) => (∀ e : Int32 × Int32 × Int32 × Int32 × Int32 × Int32 × Int32 × Int32 × Int32 × Int32, b = .inl e → GW x 0 0 [(qr, .inr (4, [.ref qp, .int e.2.1, .int e.2.2.1, .int e.2.2.2.1, .int e.2.2.2.2.1, .int e.2.2.2.2.2.1, .int e.2.2.2.2.2.2.1, .int e.2.2.2.2.2.2.2.1, .int e.2.2.2.2.2.2.2.2.1, .int e.2.2.2.2.2.2.2.2.2])), (qp, .inr (3, [.int p_n, .ref qp1])), (qp1, .inl ((xy x) 3, 80, .inl p_s))] [(0, .ref qr)] 47 []) ∧ (∀ o' : Int32 × Int32 × Int32 × Int32 × Int32 × Int32 × Int32 × Int32 × Int32 × Int32, b = .inr o' → o' = o)) (fun a r hg kn kx => bX5_findFault_6 x C N qr qp p_n qp1 p_s a o r E hg kn (fun e he => (kx _ he).1 e rfl) (fun z he => (kx _ he).2 z rfl)) FU _ b_6 hb_6 ?_
  refine ⟨fun e_6 he => ?_, fun o_6 he => ?_⟩ <;> subst he
  · replace hf := k_eliml hf
    refine g_aload_n C (pc := 47) 0 dX5_findFault_47 rfl rfl ?_
    refine g_get C (pc := 48) lfX5_18 0 rfl rfl dX5_findFault_48 ?_
    cases hf
    exact g_iret C E (pc := 51) dX5_findFault_51 ⟨rfl, rfl⟩
  · replace hf := k_elimr hf
    exact k_some hf
set_option maxRecDepth 100000 in
theorem cX5_findFault_k (l : Launch) (D : va_G) (yy : Nat → ClassId) (qr : Nat) (r_at : Int32) (r_kind : Int32) (r_claim : Int32) (r_how : Int32) (r_x : Int32) (r_y : Int32) (r_k : Int32) (r_seed : Int32) (r_moves : Int32) (qp : Nat) (p_n : Int32) (qp1 : Nat) (p_s : Nat → Int32) (o : Int32 × Int32 × Int32 × Int32 × Int32 × Int32 × Int32 × Int32 × Int32 × Int32) (hf : fX5_findFault r_kind r_claim r_how r_x r_y r_k r_seed r_moves p_n p_s = some o) : GMet l yX5_findFault cX5_findFault 2 (some .int) rmX5_findFault 0 0 D yy [.ref qr] [(qr, .inr (4, [.ref qp, .int r_at, .int r_kind, .int r_claim, .int r_how, .int r_x, .int r_y, .int r_k, .int r_seed, .int r_moves])), (qp, .inr (3, [.int p_n, .ref qp1])), (qp1, .inl (yy 3, 80, .inl p_s))] (fun zv zw => zv = some (.int o.1) ∧ zw = [(qr, .inr (4, [.ref qp, .int o.2.1, .int o.2.2.1, .int o.2.2.2.1, .int o.2.2.2.2.1, .int o.2.2.2.2.2.1, .int o.2.2.2.2.2.2.1, .int o.2.2.2.2.2.2.2.1, .int o.2.2.2.2.2.2.2.2.1, .int o.2.2.2.2.2.2.2.2.2])), (qp, .inr (3, [.int p_n, .ref qp1])), (qp1, .inl (yy 3, 80, .inl p_s))]) :=
  g_met (by decide +kernel) (Nat.le_of_ble_eq_true rfl) (fun x hl hD hy hn C E _ => by subst hD; subst hy; exact eX5_findFault x C hn qr r_at r_kind r_claim r_how r_x r_y r_k r_seed r_moves qp p_n qp1 p_s o E hf)
