/-! ===== dropping a step ===== -/
theorem drop31_eq {t : Nat → Int32} {p ns : Nat} (hp : p ≤ ns) (hn : ns < 8) (h2 : t 2 = nI ns) : ∃ b, iter gX11_drop_31 FU (nI (7 + 5 * p), t) = some b ∧ (∀ c, 7 + 5 * p ≤ c → c < 7 + 5 * ns → b.2 c = t (c + 5)) ∧ (∀ c, (c < 7 + 5 * p ∨ 7 + 5 * ns ≤ c) → b.2 c = t c) := by
  refine iter_up (fun i (a : Int32 × (Nat → Int32)) => a.1 = nI i ∧ (7 + 5 * p ≤ i) ∧ (∀ c, 7 + 5 * p ≤ c → c < i → a.2 c = t (c + 5)) ∧ (∀ c, (c < 7 + 5 * p ∨ i ≤ c) → a.2 c = t c)) (fun (b : Int32 × (Nat → Int32)) => (∀ c, 7 + 5 * p ≤ c → c < 7 + 5 * ns → b.2 c = t (c + 5)) ∧ (∀ c, (c < 7 + 5 * p ∨ 7 + 5 * ns ≤ c) → b.2 c = t c)) (7 + 5 * ns) (fun i a hi hI => Or.inl ?_) (fun a hI => ?_) (5 * ns - 5 * p) (7 + 5 * p) _ FU (by omega) (show 5 * ns - 5 * p < 100000 by omega) ⟨rfl, Nat.le_refl _, fun c h1 h2 => absurd h2 (by omega), fun c _ => rfl⟩
  · obtain ⟨x, w⟩ := a
    obtain ⟨rfl, h0, h1, h3⟩ := hI
    unfold gX11_drop_31
    dsimp only at h1 h3 ⊢
    rw [gg2, gd_tr, ii2, if_neg (show ¬ (7 : Int32) + (5 : Int32) * w 2 ≤ nI i by rw [h3 2 (Or.inl (by omega)), h2, e5_7]; exact c_ge (n := 7 + 5 * ns) rfl hi (by omega)), show (5 : Int32) = nI 5 from rfl, nI_add, gd_nI (by omega) (by decide), gd_nI (by omega) (by decide), ixn (by omega), ixn (by omega)]
    refine ⟨_, rfl, nI1 i, by omega, fun c c1 c2 => ?_, fun c hc => ?_⟩
    · show upd w i _ c = _
      by_cases e : c = i
      · subst e; rw [upd_s]; exact h3 _ (Or.inr (by omega))
      · rw [upd_o e]; exact h1 c c1 (by omega)
    · show upd w i _ c = _
      rw [upd_o (by omega)]; exact h3 c (by omega)
  · obtain ⟨x, w⟩ := a
    obtain ⟨rfl, h0, h1, h3⟩ := hI
    unfold gX11_drop_31
    dsimp only at h1 h3 ⊢
    rw [gg2, gd_tr, ii2, if_pos (show (7 : Int32) + (5 : Int32) * w 2 ≤ nI (7 + 5 * ns) by rw [h3 2 (Or.inl (by omega)), h2, e5_7]; exact c_le (n := 7 + 5 * ns) rfl (Nat.le_refl _) (by omega))]
    exact ⟨_, rfl, h1, h3⟩
