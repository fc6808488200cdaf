/-! ===== save and restore ===== -/
def RSl (B : Nat) (slots fi tf : Nat → Int32) (SL : Nat → MS) : Prop := ∀ q, q < 2 → fi q = tf q ∧ (fi q = 0 ∨ RM B (fun j => slots (1271 * q + j)) (SL q))
theorem RSl.up {B B' : Nat} {slots fi tf : Nat → Int32} {SL : Nat → MS} (h : RSl B slots fi tf SL) (hB : B ≤ B') : RSl B' slots fi tf SL := fun q hq => ⟨(h q hq).1, (h q hq).2.imp id (fun z => z.up hB)⟩
theorem in_01c (p : Int32) : (fX11_in p 0 1 = some 0 ∧ (p < 0 ∨ ¬ p < 0 ∧ ¬ p < 2)) ∨ (fX11_in p 0 1 = some 1 ∧ ¬ p < 0 ∧ p < 2 ∧ ∃ q : Nat, q < 2 ∧ p = nI q) := by
  rcases in_01 p 0 1 with ⟨e, h⟩ | ⟨e, h1, h2⟩
  · left
    refine ⟨e, ?_⟩
    rw [tI0, tI1] at h
    rw [lt_toInt, lt_toInt, tI0, tI2]; omega
  · right
    rw [tI0] at h1; rw [tI1] at h2
    obtain ⟨d, hd, rfl⟩ : ∃ d : Nat, d < 2 ^ 31 ∧ p = nI d := nI_of (by rw [lt_toInt, tI0]; omega)
    rw [nI_toInt hd] at h1 h2
    refine ⟨e, ?_, ?_, d, by omega, rfl⟩
    · rw [lt_toInt, tI0, nI_toInt hd]; omega
    · rw [lt_toInt, tI2, nI_toInt hd]; omega
theorem save14 {t slots : Nat → Int32} {q : Nat} (hq : q < 2) : ∃ b, iter (gX11_save_14 t (nI q)) FU ((0 : Int32), slots) = some b ∧ (∀ j, j < 1271 → b.2 (1271 * q + j) = t j) ∧ ∀ p, (p < 1271 * q ∨ 1271 * q + 1271 ≤ p) → b.2 p = slots p := by
  refine iter0 (fun (i : Nat) (a : Int32 × (Nat → Int32)) => a.1 = nI i ∧ (∀ j, j < i → a.2 (1271 * q + j) = t j) ∧ ∀ p, (p < 1271 * q ∨ 1271 * q + 1271 ≤ p) → a.2 p = slots p) (fun (b : Int32 × (Nat → Int32)) => (∀ j, j < 1271 → b.2 (1271 * q + j) = t j) ∧ ∀ p, (p < 1271 * q ∨ 1271 * q + 1271 ≤ p) → b.2 p = slots p) 1271 _ (by decide) ⟨rfl, fun j hj => absurd hj (Nat.not_lt_zero _), fun p _ => rfl⟩ (fun i a hi hI => Or.inl ?_) (fun a hI => ?_)
  · obtain ⟨x, w⟩ := a
    obtain ⟨e, h1, h2⟩ := hI
    dsimp only at e h1 h2
    subst e
    unfold gX11_save_14
    dsimp only
    rw [if_neg (c_ge (N := 1271) (n := 1271) rfl hi (by decide)), e1271, gd_nI hi (by decide), gd_nI (by omega) (by decide), ixn (by omega), ixn (by omega)]
    refine ⟨_, rfl, nI1 i, fun j hj => ?_, fun p hp => ?_⟩
    · dsimp only
      by_cases e : j = i
      · subst e; rw [upd_s]
      · rw [upd_o (by omega)]; exact h1 j (by omega)
    · dsimp only
      rw [upd_o (by omega)]; exact h2 p hp
  · obtain ⟨x, w⟩ := a
    obtain ⟨e, h1, h2⟩ := hI
    dsimp only at e h1 h2
    subst e
    unfold gX11_save_14
    dsimp only
    rw [if_pos (c_le (N := 1271) (n := 1271) rfl (Nat.le_refl _) (by decide))]
    exact ⟨_, rfl, h1, h2⟩
theorem restore30 {t slots : Nat → Int32} {q : Nat} (hq : q < 2) : ∃ b, iter (gX11_restore_30 slots (nI q)) FU ((0 : Int32), t) = some b ∧ ∀ j, j < 1271 → b.2 j = slots (1271 * q + j) := by
  refine iter0 (fun (i : Nat) (a : Int32 × (Nat → Int32)) => a.1 = nI i ∧ ∀ j, j < i → a.2 j = slots (1271 * q + j)) (fun (b : Int32 × (Nat → Int32)) => ∀ j, j < 1271 → b.2 j = slots (1271 * q + j)) 1271 _ (by decide) ⟨rfl, fun j hj => absurd hj (Nat.not_lt_zero _)⟩ (fun i a hi hI => Or.inl ?_) (fun a hI => ?_)
  · obtain ⟨x, w⟩ := a
    obtain ⟨e, h1⟩ := hI
    dsimp only at e h1
    subst e
    unfold gX11_restore_30
    dsimp only
    rw [if_neg (c_ge (N := 1271) (n := 1271) rfl hi (by decide)), e1271, gd_nI (by omega) (by decide), gd_nI hi (by decide), ixn (by omega), ixn (by omega)]
    refine ⟨_, rfl, nI1 i, fun j hj => ?_⟩
    dsimp only
    by_cases e : j = i
    · subst e; rw [upd_s]
    · rw [upd_o e]; exact h1 j (by omega)
  · obtain ⟨x, w⟩ := a
    obtain ⟨e, h1⟩ := hI
    dsimp only at e h1
    subst e
    unfold gX11_restore_30
    dsimp only
    rw [if_pos (c_le (N := 1271) (n := 1271) rfl (Nat.le_refl _) (by decide))]
    exact ⟨_, rfl, h1⟩
theorem op_save {B : Nat} {t slots fi tf : Nat → Int32} {SL : Nat → MS} {M : MS} (hM : RM B t M) (hS : RSl B slots fi tf SL) (p0 : Int32) :
    ∃ ans fi' SL' slots' tf', fX10_save (M.1 0) (M.1 1) (M.1 2) (M.1 3) (M.1 4) (M.2.1 0) (M.2.1 1) (M.2.1 2) (M.2.1 3) (M.2.1 4) (M.1 5) (M.2.1 5) (M.2.1 6) (M.2.1 7) (M.2.1 8) (M.2.1 9) (M.1 6) (M.2.1 10) M.2.2 fi SL p0 = some (ans, fi', SL') ∧ fX11_save t slots tf p0 = some (ans, slots', tf') ∧ RSl B slots' fi' tf' SL' := by
  unfold fX10_save fX11_save
  rcases in_01c p0 with ⟨e, h⟩ | ⟨e, h1, h2, q, hq, rfl⟩
  · rw [e, bd_some, if_pos rfl]
    rcases h with h | ⟨h1, h2⟩
    · rw [if_pos h]; exact ⟨_, _, _, _, _, rfl, rfl, hS⟩
    · rw [if_neg h1, if_neg h2]; exact ⟨_, _, _, _, _, rfl, rfl, hS⟩
  · obtain ⟨ns, nc, e4, e5, S, C⟩ := hM.ok
    obtain ⟨v, -, d1, w, d2, d3⟩ := cstand_eq C
    obtain ⟨R, k1, k2⟩ := kcopy_eq (SL q) hM.sn
    obtain ⟨b, g1, g2, g3⟩ := save14 (t := t) (slots := slots) hq
    rw [e, bd_some, if_neg i0ne1, if_neg h1, if_pos h2]
    simp only [gd_nI hq (show 2 < 2 ^ 31 by decide), ixn (show q < 2 ^ 31 by omega)]
    rw [k1, bd_some, e5, d1, bd_some, g1, bd_some, d2, bd_some, d3, bd_some]
    refine ⟨_, _, _, _, _, rfl, rfl, fun p hp => ?_⟩
    have h1n : vp_nar .boolean (1 : Int32) = 1 := nar_b true
    rw [h1n]
    by_cases c : p = q
    · subst c
      rw [upd_s, upd_s, upK_s]
      exact ⟨rfl, Or.inr (k2.t (fun j hj => g2 j hj))⟩
    · rw [upd_o c, upd_o c, upK_o c]
      obtain ⟨q1, q2⟩ := hS p hp
      refine ⟨q1, q2.imp id (fun z => z.t (fun j hj => ?_))⟩
      exact g3 _ (by omega)
theorem op_restore {B : Nat} {t was slots fi tf : Nat → Int32} {sv h_n : Int32} {K SL : Nat → MS} {M : MS} (hM : RM B t M) (hH : RH B was sv h_n K) (hS : RSl B slots fi tf SL) (p0 : Int32) :
    ∃ (ans hn' : Int32) (N : MS) (K' : Nat → MS) (t' was' : Nat → Int32) (sv' : Int32), fX10_restore h_n (M.1 0) (M.1 1) (M.1 2) (M.1 3) (M.1 4) (M.2.1 0) (M.2.1 1) (M.2.1 2) (M.2.1 3) (M.2.1 4) (M.1 5) (M.2.1 5) (M.2.1 6) (M.2.1 7) (M.2.1 8) (M.2.1 9) (M.1 6) (M.2.1 10) M.2.2 fi K SL p0 = some (ans, hn', N.1 0, N.1 1, N.1 2, N.1 3, N.1 4, N.2.1 0, N.2.1 1, N.2.1 2, N.2.1 3, N.2.1 4, N.1 5, N.2.1 5, N.2.1 6, N.2.1 7, N.2.1 8, N.2.1 9, N.1 6, N.2.1 10, N.2.2, K') ∧ fX11_restore t was sv slots tf 0 p0 = some (ans, sv', t', was') ∧ RM B t' N ∧ RH B was' sv' hn' K' := by
  unfold fX10_restore fX11_restore
  rcases in_01c p0 with ⟨e, h⟩ | ⟨e, h1, h2, q, hq, rfl⟩
  · rw [e, bd_some, if_pos rfl]
    rcases h with h | ⟨h1, h2⟩
    · rw [if_pos h]; exact ⟨_, _, M, _, t, was, sv, rfl, rfl, hM, hH⟩
    · rw [if_neg h1, if_neg h2]; exact ⟨_, _, M, _, t, was, sv, rfl, rfl, hM, hH⟩
  · obtain ⟨s1, s2⟩ := hS q hq
    rw [e, bd_some, if_neg i0ne1, if_neg h1, if_pos h2]
    simp only [gd_nI hq (show 2 < 2 ^ 31 by decide), ixn (show q < 2 ^ 31 by omega)]
    rw [← s1]
    by_cases hf : fi q = 0
    · rw [if_pos hf, if_pos hf]; exact ⟨_, _, M, _, t, was, sv, rfl, rfl, hM, hH⟩
    · obtain ⟨K1, k1, k2, was1, sv1, k3, k4⟩ := prep_eq hH hM.sn
      obtain ⟨R, r1, r2⟩ := kcopy_eq (snap (M.1 0) (M.1 1) (M.1 2) (M.1 3) (M.1 4) (M.2.1 0) (M.2.1 1) (M.2.1 2) (M.2.1 3) (M.2.1 4) (M.1 5) (M.2.1 5) (M.2.1 6) (M.2.1 7) (M.2.1 8) (M.2.1 9) (M.1 6) (M.2.1 10) M.2.2) (s2.resolve_left hf)
      obtain ⟨b, g1, g2⟩ := restore30 (t := t) (slots := slots) hq
      have hR : RM B b.2 R := r2.t (fun j hj => g2 j hj)
      obtain ⟨ns, nc, e4, e5, S, C⟩ := hR.ok
      obtain ⟨v, hv, d1, w, d2, d3⟩ := cstand_eq C
      obtain ⟨h', K2, k5, k6⟩ := k4 (nI v) (by rw [le_toInt, tI0, nI_toInt (by omega)]; omega)
      rw [if_neg hf, if_neg hf, k1, bd_some, r1, bd_some, e5, d1, bd_some, k5, bd_some, k3, bd_some, g1, bd_some, d2, bd_some, d3, bd_some]
      rw [← e5]
      exact ⟨_, _, R, _, _, _, _, rfl, rfl, hR, k6⟩
