theorem undo22_eq {t was : Nat → Int32} {h : Nat} (hh : h < 6) : ∃ b, iter (gX11_undo_22 was (nI (h + 1))) FU ((0 : Int32), t) = some b ∧ ∀ j, j < 1271 → b.2 j = was (1271 * h + j) := by
  refine iter0 (fun i (a : Int32 × (Nat → Int32)) => a.1 = nI i ∧ ∀ j, j < i → a.2 j = was (1271 * h + j)) (fun (b : Int32 × (Nat → Int32)) => ∀ j, j < 1271 → b.2 j = was (1271 * h + j)) 1271 _ (by decide) ⟨rfl, fun j hj => absurd hj (Nat.not_lt_zero _)⟩ (fun i a hi hI => Or.inl ?_) (fun a hI => ?_)
  · obtain ⟨x, w⟩ := a
    obtain ⟨rfl, h1⟩ := hI
    unfold gX11_undo_22
    dsimp only at h1 ⊢
    rw [if_neg (c_ge (N := 1271) (n := 1271) rfl hi (by decide)), nI_p, e1271, gd_nI (by omega) (by decide), gd_nI hi (by decide), ixn (by omega), ixn (by omega)]
    refine ⟨_, rfl, nI1 i, fun j hj => ?_⟩
    show upd w i _ j = _
    by_cases e : j = i
    · subst e; rw [upd_s]
    · rw [upd_o e]; exact h1 j (by omega)
  · obtain ⟨x, w⟩ := a
    obtain ⟨rfl, h1⟩ := hI
    unfold gX11_undo_22
    dsimp only at h1 ⊢
    rw [if_pos (c_le (N := 1271) (n := 1271) rfl (Nat.le_refl _) (by decide))]
    exact ⟨_, rfl, h1⟩
theorem takeBack_eq {B : Nat} {t was : Nat → Int32} {sv h_n : Int32} {K : Nat → MS} {M : MS} (hM : RM B t M) (hH : RH B was sv h_n K) :
    (fX2_takeBack h_n K M = some (0, h_n, M) ∧ fX11_undo t was sv = some (-5, sv, t)) ∨ (∃ hn' R t' sv', fX2_takeBack h_n K M = some (1, hn', R) ∧ fX11_undo t was sv = some (hn', sv', t') ∧ RM B t' R ∧ RH B was sv' hn' K) := by
  obtain ⟨hn, h1, rfl, rfl, h4⟩ := hH
  unfold fX2_takeBack fX11_undo
  by_cases h0 : hn = 0
  · subst h0
    left
    rw [if_neg (show ¬ 0 < nI 0 by decide), if_pos (show nI 0 = 0 from rfl)]
    exact ⟨rfl, rfl⟩
  · obtain ⟨h, rfl⟩ : ∃ h, hn = h + 1 := ⟨hn - 1, by omega⟩
    right
    obtain ⟨R, e, hR⟩ := kcopy_eq M (h4 h (by omega))
    obtain ⟨b, hb, hp⟩ := undo22_eq (t := t) (was := was) (h := h) (by omega)
    rw [if_pos (show 0 < nI (h + 1) by rw [lt_toInt, nI_toInt (by omega), tI0]; omega), if_neg (show ¬ nI (h + 1) = 0 from fun q => by have := nI_inj (b := 0) (by omega) (by decide) q; omega), nI_p, gd_nI (by omega) (by decide), ixn (by omega), e, bd_some, hb, bd_some]
    exact ⟨_, _, _, _, rfl, rfl, hR.t (fun j hj => hp j hj), h, by omega, rfl, rfl, fun i hi => h4 i (by omega)⟩
theorem op_undo {B : Nat} {t was : Nat → Int32} {sv h_n : Int32} {K : Nat → MS} {M : MS} (hM : RM B t M) (hH : RH B was sv h_n K) :
    ∃ (ans hn' : Int32) (N : MS) (t' : Nat → Int32) (sv' : Int32), fX10_undo h_n (M.1 0) (M.1 1) (M.1 2) (M.1 3) (M.1 4) (M.2.1 0) (M.2.1 1) (M.2.1 2) (M.2.1 3) (M.2.1 4) (M.1 5) (M.2.1 5) (M.2.1 6) (M.2.1 7) (M.2.1 8) (M.2.1 9) (M.1 6) (M.2.1 10) M.2.2 K = some (ans, hn', N.1 0, N.1 1, N.1 2, N.1 3, N.1 4, N.2.1 0, N.2.1 1, N.2.1 2, N.2.1 3, N.2.1 4, N.1 5, N.2.1 5, N.2.1 6, N.2.1 7, N.2.1 8, N.2.1 9, N.1 6, N.2.1 10, N.2.2) ∧ fX11_undo t was sv = some (ans, sv', t') ∧ RM B t' N ∧ RH B was sv' hn' K := by
  unfold fX10_undo
  rcases takeBack_eq hM.sn hH with ⟨e1, e2⟩ | ⟨hn', R, t', sv', e1, e2, e3, e4⟩
  · rw [e1, bd_some, if_pos (show (0 : Int32) = 0 from rfl)]
    exact ⟨_, _, _, t, sv, rfl, e2, hM.sn, hH⟩
  · rw [e1, bd_some, if_neg (show ¬ (1 : Int32) = 0 from i0ne1)]
    exact ⟨_, _, _, t', sv', rfl, e2, e3, e4⟩
