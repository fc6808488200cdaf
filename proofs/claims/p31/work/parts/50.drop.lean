/-! ===== dropping a step ===== -/
theorem drop31_eq {t : Nat → Int32} {p ns : Nat} (hp : p ≤ ns) (hn : ns < 8) (h2 : t 2 = nI ns) : ∃ b, iter gX11_drop_31 FU (nI (7 + 5 * p), t) = some b ∧ (∀ c, 7 + 5 * p ≤ c → c < 7 + 5 * ns → b.2 c = t (c + 5)) ∧ (∀ c, (c < 7 + 5 * p ∨ 7 + 5 * ns ≤ c) → b.2 c = t c) := by
  refine iter_up (fun i (a : Int32 × (Nat → Int32)) => a.1 = nI i ∧ (7 + 5 * p ≤ i) ∧ (∀ c, 7 + 5 * p ≤ c → c < i → a.2 c = t (c + 5)) ∧ (∀ c, (c < 7 + 5 * p ∨ i ≤ c) → a.2 c = t c)) (fun (b : Int32 × (Nat → Int32)) => (∀ c, 7 + 5 * p ≤ c → c < 7 + 5 * ns → b.2 c = t (c + 5)) ∧ (∀ c, (c < 7 + 5 * p ∨ 7 + 5 * ns ≤ c) → b.2 c = t c)) (7 + 5 * ns) (fun i a hi hI => Or.inl ?_) (fun a hI => ?_) (5 * ns - 5 * p) (7 + 5 * p) _ FU (by omega) (show 5 * ns - 5 * p < 100000 by omega) ⟨rfl, Nat.le_refl _, fun c h1 h2 => absurd h2 (by omega), fun c _ => rfl⟩
  · obtain ⟨x, w⟩ := a
    obtain ⟨rfl, h0, h1, h3⟩ := hI
    unfold gX11_drop_31
    dsimp only at h1 h3 ⊢
    rw [gg2, gd_tr, ii2, if_neg (show ¬ (7 : Int32) + (5 : Int32) * w 2 ≤ nI i by rw [h3 2 (Or.inl (by omega)), h2, e5_7]; exact c_ge (n := 7 + 5 * ns) rfl hi (by omega)), show (5 : Int32) = nI 5 from rfl, nI_add, gd_nI (by omega) (by decide), gd_nI (by omega) (by decide), ixn (by omega), ixn (by omega)]
    refine ⟨_, rfl, nI1 i, by omega, fun c c1 c2 => ?_, fun c hc => ?_⟩
    · show upd w i _ c = _
      by_cases e : c = i
      · subst e; rw [upd_s]; exact h3 _ (Or.inr (by omega))
      · rw [upd_o e]; exact h1 c c1 (by omega)
    · show upd w i _ c = _
      rw [upd_o (by omega)]; exact h3 c (by omega)
  · obtain ⟨x, w⟩ := a
    obtain ⟨rfl, h0, h1, h3⟩ := hI
    unfold gX11_drop_31
    dsimp only at h1 h3 ⊢
    rw [gg2, gd_tr, ii2, if_pos (show (7 : Int32) + (5 : Int32) * w 2 ≤ nI (7 + 5 * ns) by rw [h3 2 (Or.inl (by omega)), h2, e5_7]; exact c_le (n := 7 + 5 * ns) rfl (Nat.le_refl _) (by omega))]
    exact ⟨_, rfl, h1, h3⟩
theorem remove14_eq {g h x y k : Nat → Int32} {p ns : Nat} (hp : p < ns) (hn : ns ≤ 8) : ∃ b, iter (gX8_remove_14 (nI ns)) FU (nI (p + 1), g, h, x, y, k) = some b ∧ ∀ q, q + 1 < ns → b.2.1 q = g (if q < p then q else q + 1) ∧ b.2.2.1 q = h (if q < p then q else q + 1) ∧ b.2.2.2.1 q = x (if q < p then q else q + 1) ∧ b.2.2.2.2.1 q = y (if q < p then q else q + 1) ∧ b.2.2.2.2.2 q = k (if q < p then q else q + 1) := by
  refine iter_up (fun i (a : Int32 × (Nat → Int32) × (Nat → Int32) × (Nat → Int32) × (Nat → Int32) × (Nat → Int32)) => a.1 = nI i ∧ p + 1 ≤ i ∧ ∀ q, a.2.1 q = g (if q < p ∨ i ≤ q + 1 then q else q + 1) ∧ a.2.2.1 q = h (if q < p ∨ i ≤ q + 1 then q else q + 1) ∧ a.2.2.2.1 q = x (if q < p ∨ i ≤ q + 1 then q else q + 1) ∧ a.2.2.2.2.1 q = y (if q < p ∨ i ≤ q + 1 then q else q + 1) ∧ a.2.2.2.2.2 q = k (if q < p ∨ i ≤ q + 1 then q else q + 1)) (fun (b : Int32 × (Nat → Int32) × (Nat → Int32) × (Nat → Int32) × (Nat → Int32) × (Nat → Int32)) => ∀ q, q + 1 < ns → b.2.1 q = g (if q < p then q else q + 1) ∧ b.2.2.1 q = h (if q < p then q else q + 1) ∧ b.2.2.2.1 q = x (if q < p then q else q + 1) ∧ b.2.2.2.2.1 q = y (if q < p then q else q + 1) ∧ b.2.2.2.2.2 q = k (if q < p then q else q + 1)) ns (fun i a hi hI => Or.inl ?_) (fun a hI => ?_) (ns - (p + 1)) (p + 1) _ FU (by omega) (show ns - (p + 1) < 100000 by omega) ⟨rfl, Nat.le_refl _, fun q => by
      rw [if_pos (show q < p ∨ p + 1 ≤ q + 1 by omega)]; exact ⟨rfl, rfl, rfl, rfl, rfl⟩⟩
  · obtain ⟨v, g', h', x', y', k'⟩ := a
    obtain ⟨rfl, h0, hh⟩ := hI
    obtain ⟨i, rfl⟩ : ∃ j, i = j + 1 := ⟨i - 1, by omega⟩
    unfold gX8_remove_14 fX8_copySteps
    dsimp only at hh ⊢
    have gz : ∀ q : Option ((Nat → Int32) × (Nat → Int32) × (Nat → Int32) × (Nat → Int32) × (Nat → Int32)), gd (gi (nI (i + 1)) 8) q = q := fun q => gd_nI (by omega) (by decide)
    have gy : ∀ q : Option ((Nat → Int32) × (Nat → Int32) × (Nat → Int32) × (Nat → Int32) × (Nat → Int32)), gd (gi (nI i) 8) q = q := fun q => gd_nI (by omega) (by decide)
    rw [if_neg (c_ge (n := ns) rfl hi (by omega)), nI_p, gz, gy, gz, gy, gz, gy, gz, gy, gz, gy, ixn (by omega), ixn (by omega), bd_some]
    refine ⟨_, rfl, nI1 (i + 1), by omega, fun q => ?_⟩
    show upd g' i _ q = _ ∧ upd h' i _ q = _ ∧ upd x' i _ q = _ ∧ upd y' i _ q = _ ∧ upd k' i _ q = _
    by_cases e : q = i
    · subst e
      obtain ⟨r1, r2, r3, r4, r5⟩ := hh (q + 1)
      rw [upd_s, upd_s, upd_s, upd_s, upd_s, if_neg (show ¬ (q < p ∨ q + 1 + 1 ≤ q + 1) by omega)]
      rw [if_pos (show q + 1 < p ∨ q + 1 ≤ q + 1 + 1 by omega)] at r1 r2 r3 r4 r5
      exact ⟨r1, r2, r3, r4, r5⟩
    · obtain ⟨r1, r2, r3, r4, r5⟩ := hh q
      rw [upd_o e, upd_o e, upd_o e, upd_o e, upd_o e]
      have : (if q < p ∨ i + 1 + 1 ≤ q + 1 then q else q + 1) = (if q < p ∨ i + 1 ≤ q + 1 then q else q + 1) := by
        by_cases c : q < p ∨ i + 1 ≤ q + 1
        · rw [if_pos c, if_pos (by omega)]
        · rw [if_neg c, if_neg (by omega)]
      rw [this]
      exact ⟨r1, r2, r3, r4, r5⟩
  · obtain ⟨v, g', h', x', y', k'⟩ := a
    obtain ⟨rfl, h0, hh⟩ := hI
    unfold gX8_remove_14
    dsimp only at hh ⊢
    rw [if_pos (c_le (n := ns) rfl (Nat.le_refl _) (by omega))]
    refine ⟨_, rfl, fun q hq => ?_⟩
    obtain ⟨r1, r2, r3, r4, r5⟩ := hh q
    have : (if q < p ∨ ns ≤ q + 1 then q else q + 1) = (if q < p then q else q + 1) := by
      by_cases c : q < p
      · rw [if_pos c, if_pos (by omega)]
      · rw [if_neg c, if_neg (by omega)]
    rw [this] at r1 r2 r3 r4 r5
    exact ⟨r1, r2, r3, r4, r5⟩
