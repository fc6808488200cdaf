/-! ===== the drawn run: what was seen, by the pictures that are kept ===== -/
def HW (was : Nat → Int64) : Nat → List RW → Prop
  | _, [] => True
  | m, u :: us => 1 ≤ m ∧ SF u = was (m - 1) ∧ HW was (m - 1) us
theorem upl_s {f : Nat → Int64} {k : Nat} {x : Int64} : vp_updL f k x k = x := by unfold vp_updL; rw [if_pos rfl]
theorem upl_o {f : Nat → Int64} {k j : Nat} {x : Int64} (h : ¬ j = k) : vp_updL f k x j = f j := by unfold vp_updL; rw [if_neg h]
theorem HW.upd {was : Nat → Int64} {k : Nat} {x : Int64} : ∀ {rl : List RW} {m : Nat}, HW was m rl → m ≤ k → HW (vp_updL was k x) m rl
  | [], _, _, _ => trivial
  | _ :: _, _, h, hk => ⟨h.1, by rw [upl_o (by have := h.1; omega)]; exact h.2.1, h.2.2.upd (by omega)⟩
theorem HW.take {was : Nat → Int64} : ∀ {rl : List RW} {m : Nat} (n : Nat), HW was m rl → HW was m (rl.take n)
  | [], _, n, _ => by cases n <;> trivial
  | _ :: _, _, 0, _ => trivial
  | _ :: _, _, n + 1, h => ⟨h.1, h.2.1, h.2.2.take n⟩
theorem HW.push {was : Nat → Int64} {rl : List RW} {m : Nat} {t : RW} (h : HW was m rl) (ht : SF t = was m) : HW was (m + 1) ((t :: rl).take 6) := HW.take 6 (show HW was (m + 1) (t :: rl) from ⟨Nat.succ_le_succ (Nat.zero_le m), ht, h⟩)
theorem push_rev {L : List RW} {t : RW} (h : L.length ≤ 6) : (push L t).reverse = (t :: L.reverse).take 6 := by
  unfold push
  by_cases c : L.length < 6
  · rw [if_pos c, List.reverse_append]
    show t :: L.reverse = _
    rw [List.take_of_length_le (by rw [List.length_cons, List.length_reverse]; omega)]
  · rw [if_neg c]
    have h6 : L.length = 6 := by omega
    match L, h6 with
    | [a, b, c, d, e, f], _ => rfl
def DI (k : Nat) (a : Int32 × Int32 × CS × (Nat → Int64)) : Prop := ∃ (m : Nat) (t : RW) (Ls : List RW), m ≤ k ∧ a.1 = nI m ∧ a.2.1 = nI k ∧ IC k (t, Ls, A0.2.2) a.2.2.1 ∧ vOK t ∧ HW a.2.2.2 m Ls.reverse
theorem J356 {k m : Nat} {t : RW} {Ls : List RW} {a : Int32 × Int32 × CS × (Nat → Int64)} {y71 : Int64 × CS} {y78 : Int32 × CS} {o : Int32 × CS} (hk : k < 24) (hm : m ≤ k) (h1 : a.1 = nI m) (h2 : a.2.1 = nI k) (hL : Ls.length ≤ 6) (hV : vOK t) (hW : HW a.2.2.2 m Ls.reverse) (h71 : y71.1 = SF t) (h78 : y78.1 = nI Ls.length) (h : OP k t Ls o) : ∃ a', jL_law_44b356 y71 y78 o.1 o.2 a = some (.inl a') ∧ DI (k + 1) a' := by
  obtain ⟨a1, a2, ac, aw⟩ := a
  dsimp only at h1 h2 hW
  subst h1; subst h2
  unfold jL_law_44b356
  dsimp only
  rcases h with ⟨q, I⟩ | ⟨q, t', I, hV'⟩
  · have q' : ¬ (0 : Int32) ≤ o.1 := by rw [le_toInt, tI0]; rw [lt_toInt, tI0] at q; omega
    obtain ⟨o1, e1, f1, I1⟩ := C_count I 12
    obtain ⟨o2, e2, v2, I2⟩ := seen_F I1
    rw [if_neg q', e1, bd_some, if_pos ((aq_v f1 cnt12).trans h78.symm), e2, bd_some, gd_nI (by omega) (by decide), ixn (by omega), upl_s, if_pos (lc_t (v2.trans h71.symm))]
    unfold jL_law_44b387
    dsimp only
    rw [if_neg q', ixn (by omega)]
    exact ⟨_, rfl, m, t, Ls, by omega, Int32.add_zero _, nI1 k, I2, hV, hW.upd (Nat.le_refl m)⟩
  · rw [if_pos q]
    unfold jL_law_44b387
    dsimp only
    rw [if_pos q, ixn (by omega)]
    exact ⟨_, rfl, m + 1, t', push Ls t, by omega, nI1 m, nI1 k, I, hV', by rw [push_rev hL]; exact (hW.upd (Nat.le_refl m)).push (by rw [upl_s, h71])⟩
theorem part_some (p : Int32) {n : Int32} (hn : nzi n = true) : ∃ v, fL_part p n = some v := ⟨_, by unfold fL_part; rw [hn, gd_tr]⟩
theorem drawn_some {L k : Nat} (hL : L ≤ 260) (hk : k < 24) (sv : Nat → Int32) : ∃ v, fL_drawn L sv (nI k) = some v := by
  unfold fL_drawn
  by_cases h0 : Int32.ofNat L = 0
  · rw [if_pos h0]; exact ⟨_, rfl⟩
  · have hz : nzi (Int32.ofNat L) = true := by unfold nzi; rw [beq_false_of_ne h0]; rfl
    have hL0 : 0 < L := Nat.pos_of_ne_zero (fun e => h0 (by rw [e]; rfl))
    have hr : nI k - nI k / (Int32.ofNat L) * (Int32.ofNat L) = nI (k % L) := pk_rem (by omega) hL0 (by omega)
    rw [if_neg h0, hz, gd_tr, hr, gd_nI (Nat.mod_lt k hL0) (by omega), gd_tr]
    exact ⟨_, rfl⟩
theorem J212 {k m : Nat} {t : RW} {Ls : List RW} {a : Int32 × Int32 × CS × (Nat → Int64)} {y71 : Int64 × CS} {y78 y114 : Int32 × CS} {x : Int32} (u : Int32) (hk : k < 24) (hm : m ≤ k) (h1 : a.1 = nI m) (h2 : a.2.1 = nI k) (hL : Ls.length ≤ 6) (hV : vOK t) (hW : HW a.2.2.2 m Ls.reverse) (h71 : y71.1 = SF t) (h78 : y78.1 = nI Ls.length) (h : IC k (t, Ls, A0.2.2) y114.2) : ∃ a', jL_law_44b212 x y71 y78 y114 u a = some (.inl a') ∧ DI (k + 1) a' := by
  unfold jL_law_44b212
  obtain ⟨v1, p1⟩ := part_some (x >>> ((5 : Int32) &&& 31)) (n := 3) (by decide)
  obtain ⟨v2, p2⟩ := part_some (x >>> ((7 : Int32) &&& 31)) (n := 3) (by decide)
  obtain ⟨v3, p3⟩ := part_some (x >>> ((9 : Int32) &&& 31)) (n := 15) (by decide)
  obtain ⟨o, e, r⟩ := OP_step (by omega) h hV u 1 v1 v2 (v3 - 7)
  rw [p1, bd_some, p2, bd_some, p3, bd_some, e, bd_some]
  exact J356 hk hm h1 h2 hL hV hW h71 h78 r
theorem J193 {k m : Nat} {t : RW} {Ls : List RW} {a : Int32 × Int32 × CS × (Nat → Int64)} {y71 : Int64 × CS} {y78 y114 : Int32 × CS} {x : Int32} (hk : k < 24) (hm : m ≤ k) (h1 : a.1 = nI m) (h2 : a.2.1 = nI k) (hL : Ls.length ≤ 6) (hV : vOK t) (hW : HW a.2.2.2 m Ls.reverse) (h71 : y71.1 = SF t) (h78 : y78.1 = nI Ls.length) (h : IC k (t, Ls, A0.2.2) y114.2) : ∃ a', jL_law_44b193 x y71 y78 y114 a = some (.inl a') ∧ DI (k + 1) a' := by
  unfold jL_law_44b193
  obtain ⟨v1, p1⟩ := part_some (x >>> ((3 : Int32) &&& 31)) (n := 2) (by decide)
  rw [p1, bd_some]
  by_cases c : v1 = 0
  · rw [if_pos c]; exact J212 7 hk hm h1 h2 hL hV hW h71 h78 h
  · rw [if_neg c]; exact J212 y114.1 hk hm h1 h2 hL hV hW h71 h78 h
theorem J346 {k m : Nat} {t : RW} {Ls : List RW} {a : Int32 × Int32 × CS × (Nat → Int64)} {y71 : Int64 × CS} {y78 y114 : Int32 × CS} (u : Int32) (hk : k < 24) (hm : m ≤ k) (h1 : a.1 = nI m) (h2 : a.2.1 = nI k) (hL : Ls.length ≤ 6) (hV : vOK t) (hW : HW a.2.2.2 m Ls.reverse) (h71 : y71.1 = SF t) (h78 : y78.1 = nI Ls.length) (h : IC k (t, Ls, A0.2.2) y114.2) : ∃ a', jL_law_44b346 y71 y78 y114 u a = some (.inl a') ∧ DI (k + 1) a' := by
  unfold jL_law_44b346
  obtain ⟨o, e, r⟩ := OP_guess (by omega) h hV u
  rw [e, bd_some]
  exact J356 hk hm h1 h2 hL hV hW h71 h78 r
theorem drawn_step {L k : Nat} {sv : Nat → Int32} {a : Int32 × Int32 × CS × (Nat → Int64)} (hL : L ≤ 260) (hk : k < 24) (h : DI k a) : ∃ a', gL_law_44 L sv a = some (.inl a') ∧ DI (k + 1) a' := by
  obtain ⟨m, t, Ls, hm, h1, h2, I, hV, hW⟩ := h
  have hLs : Ls.length ≤ 6 := I.2.1.1
  obtain ⟨x, hx⟩ := drawn_some hL hk sv
  obtain ⟨kd, p0⟩ := part_some x (n := 9) (by decide)
  obtain ⟨o1, e1, v1, I1⟩ := seen_F I
  obtain ⟨o2, e2, f2, I2⟩ := C_count I1 12
  obtain ⟨x1, p1⟩ := part_some (x >>> ((4 : Int32) &&& 31)) (n := 4) (by decide)
  obtain ⟨x2, p2⟩ := part_some (x >>> ((6 : Int32) &&& 31)) (n := 3) (by decide)
  obtain ⟨x3, p3⟩ := part_some (x >>> ((8 : Int32) &&& 31)) (n := 8) (by decide)
  obtain ⟨o3, e3, f3, I3⟩ := C_claim I2 (1 + x1) x2 0 x3
  have h78 : o2.1 = nI Ls.length := aq_v f2 cnt12
  unfold gL_law_44
  rw [h2, if_neg (c_ge (N := 24) (n := 24) rfl hk (by decide)), hx, bd_some, p0, bd_some, e1, bd_some, h1, gd_nI (by omega) (by decide), e2, bd_some, p1, bd_some, p2, bd_some, p3, bd_some, e3, bd_some]
  by_cases c0 : kd = 0
  · rw [if_pos c0]
    obtain ⟨w1, q1⟩ := part_some (x >>> ((4 : Int32) &&& 31)) (n := 8) (by decide)
    obtain ⟨w2, q2⟩ := part_some (x >>> ((7 : Int32) &&& 31)) (n := 8) (by decide)
    obtain ⟨w3, q3⟩ := part_some (x >>> ((10 : Int32) &&& 31)) (n := 8) (by decide)
    obtain ⟨o, e, r⟩ := OP_start (by omega) I3 hV w1 w2 w3
    rw [q1, bd_some, q2, bd_some, q3, bd_some, e, bd_some]
    exact J356 hk hm h1 h2 hLs hV hW v1 h78 r
  rw [if_neg c0]
  by_cases c1 : kd = 1
  · rw [if_pos c1]
    obtain ⟨w1, q1⟩ := part_some (x >>> ((4 : Int32) &&& 31)) (n := 2) (by decide)
    obtain ⟨o, e, r⟩ := OP_wrap (by omega) I3 hV w1
    rw [q1, bd_some, e, bd_some]
    exact J356 hk hm h1 h2 hLs hV hW v1 h78 r
  rw [if_neg c1]
  by_cases c2 : kd = 2
  · rw [if_pos c2]
    exact J193 hk hm h1 h2 hLs hV hW v1 h78 I3
  rw [if_neg c2]
  by_cases c3 : kd = 3
  · rw [if_pos c3]
    exact J193 hk hm h1 h2 hLs hV hW v1 h78 I3
  rw [if_neg c3]
  by_cases c4 : kd = 4
  · rw [if_pos c4]
    obtain ⟨w1, q1⟩ := part_some (x >>> ((4 : Int32) &&& 31)) (n := 3) (by decide)
    obtain ⟨o, e, r⟩ := OP_drop (by omega) I3 hV w1
    rw [q1, bd_some, e, bd_some]
    exact J356 hk hm h1 h2 hLs hV hW v1 h78 r
  rw [if_neg c4]
  by_cases c5 : kd = 5
  · rw [if_pos c5]
    obtain ⟨o, e, r⟩ := OP_candidate (by omega) I3 hV o3.1
    rw [e, bd_some]
    exact J356 hk hm h1 h2 hLs hV hW v1 h78 r
  rw [if_neg c5]
  by_cases c6 : kd = 6
  · rw [if_pos c6]
    obtain ⟨w1, q1⟩ := part_some (x >>> ((4 : Int32) &&& 31)) (n := 1000) (by decide)
    obtain ⟨w2, q2⟩ := part_some (x >>> ((6 : Int32) &&& 31)) (n := 12) (by decide)
    obtain ⟨o, e, r⟩ := OP_run (by omega) I3 hV w1 (1 + w2)
    rw [q1, bd_some, q2, bd_some, e, bd_some]
    exact J356 hk hm h1 h2 hLs hV hW v1 h78 r
  rw [if_neg c6]
  by_cases c7 : kd = 7
  · rw [if_pos c7]
    obtain ⟨w1, q1⟩ := part_some (x >>> ((4 : Int32) &&& 31)) (n := 2) (by decide)
    rw [q1, bd_some]
    by_cases c : w1 = 0
    · rw [if_pos c]; exact J346 5 hk hm h1 h2 hLs hV hW v1 h78 I3
    · rw [if_neg c]; exact J346 9 hk hm h1 h2 hLs hV hW v1 h78 I3
  rw [if_neg c7]
  obtain ⟨o, e, r⟩ := OP_strike (by omega) I3 hV
  rw [e, bd_some]
  exact J356 hk hm h1 h2 hLs hV hW v1 h78 r
theorem T0_ok : vOK T0 := ⟨0, by decide, rfl, fun i hi => absurd hi (Nat.not_lt_zero i)⟩
theorem drawn_loop {L : Nat} {sv : Nat → Int32} {c : CS} (hL : L ≤ 260) (h : IC 0 A0 c) : ∃ e, iter (gL_law_44 L sv) FU ((0 : Int32), (0 : Int32), c, (fun _ => (0 : Int64))) = some (.inl e) ∧ DI 24 e := by
  obtain ⟨b, hb, e, rfl, hd⟩ := iter0 (g := gL_law_44 L sv) DI (fun (b : (Int32 × Int32 × CS × (Nat → Int64)) ⊕ Int32) => ∃ e, b = .inl e ∧ DI 24 e) 24 ((0 : Int32), (0 : Int32), c, (fun _ => (0 : Int64))) (by decide) ⟨0, T0, [], Nat.le_refl 0, rfl, rfl, h, T0_ok, trivial⟩ (fun i a hi hI => Or.inl (drawn_step hL hi hI)) (fun a hI => by
    have h2 : a.2.1 = nI 24 := by obtain ⟨m, t, Ls, -, -, h2, -⟩ := hI; exact h2
    unfold gL_law_44
    rw [if_pos (show (24 : Int32) ≤ a.2.1 by rw [h2]; decide)]
    exact ⟨_, rfl, a, rfl, hI⟩)
  exact ⟨e, hb, hd⟩
