/-! ===== beginning anew ===== -/
theorem g1271 {k : Nat} {K : Int32} (hK : K = nI k) (h : k < 1271) : gi K 1271 = true := by subst hK; exact gi_nI h (by decide)
/-- the model judges all candidates -/
theorem begins48_eq {t : Nat → Int32} {z r : Nat → Nat} {n nc : Nat} {kc : Nat → Int32} (hn1 : 1 ≤ n) (hn : n ≤ 512) (hc : nc ≤ 40) (h3 : t 3 = nI nc) (h4 : t 4 = nI n) (hz : ∀ j, j < n → t (247 + j) = nI (z j)) (hr : ∀ j, j < n → 1 ≤ j → t (759 + j) = nI (r j)) (hk : ∀ c, c < nc → t (47 + 5 * c) = kc c) :
    ∃ b, iter gX11_begins_48 FU ((0 : Int32), t) = some b ∧ (∀ j, (j < 47 ∨ 247 ≤ j) → b.2 j = t j) ∧ (∀ c, c < nc → b.2 (47 + 5 * c) = kc c ∧ b.2 (47 + 5 * c + 1) = (vd z r (fms n z (kc c))).1 ∧ b.2 (47 + 5 * c + 2) = (vd z r (fms n z (kc c))).2.1 ∧ b.2 (47 + 5 * c + 3) = (vd z r (fms n z (kc c))).2.2.1 ∧ b.2 (47 + 5 * c + 4) = (vd z r (fms n z (kc c))).2.2.2) := by
  refine iter0 (fun i (a : Int32 × (Nat → Int32)) => a.1 = nI i ∧ (∀ j, (j < 47 ∨ 247 ≤ j) → a.2 j = t j) ∧ (∀ c, c < nc → a.2 (47 + 5 * c) = kc c) ∧ (∀ c, c < i → a.2 (47 + 5 * c + 1) = (vd z r (fms n z (kc c))).1 ∧ a.2 (47 + 5 * c + 2) = (vd z r (fms n z (kc c))).2.1 ∧ a.2 (47 + 5 * c + 3) = (vd z r (fms n z (kc c))).2.2.1 ∧ a.2 (47 + 5 * c + 4) = (vd z r (fms n z (kc c))).2.2.2)) (fun (b : Int32 × (Nat → Int32)) => (∀ j, (j < 47 ∨ 247 ≤ j) → b.2 j = t j) ∧ (∀ c, c < nc → b.2 (47 + 5 * c) = kc c ∧ b.2 (47 + 5 * c + 1) = (vd z r (fms n z (kc c))).1 ∧ b.2 (47 + 5 * c + 2) = (vd z r (fms n z (kc c))).2.1 ∧ b.2 (47 + 5 * c + 3) = (vd z r (fms n z (kc c))).2.2.1 ∧ b.2 (47 + 5 * c + 4) = (vd z r (fms n z (kc c))).2.2.2)) nc _ (by omega) ⟨rfl, fun j _ => rfl, hk, fun c hc => absurd hc (Nat.not_lt_zero _)⟩ (fun i a hi hI => Or.inl ?_) (fun a hI => ?_)
  · obtain ⟨x, w⟩ := a
    obtain ⟨rfl, h1, h2, hd⟩ := hI
    unfold gX11_begins_48
    dsimp only at h1 h2 hd ⊢
    rw [g1271 (k := 3) rfl (by decide), gd_tr, show ix 3 = 3 from ixn (k := 3) (by decide), h1 3 (Or.inl (by decide)), h3, if_neg (c_ge (n := nc) rfl hi (by omega)), weighs_eq (z := z) (r := r) (n := n) (k := kc i) (by omega) hn1 hn (by rw [h1 4 (Or.inl (by decide)), h4]) (fun j hj => by rw [h1 _ (Or.inr (by omega)), hz j hj]) (fun j hj hj1 => by rw [h1 _ (Or.inr (by omega)), hr j hj hj1]) (h2 i hi), bd_some]
    refine ⟨_, rfl, nI1 i, fun j hj => ?_, fun c hc => ?_, fun c hc' => ?_⟩
    · show jrow w i _ j = _
      rw [jrow_o (by omega), h1 j hj]
    · show jrow w i _ _ = _
      rw [jrow_o (by omega), h2 c hc]
    · show jrow w i _ _ = _ ∧ jrow w i _ _ = _ ∧ jrow w i _ _ = _ ∧ jrow w i _ _ = _
      by_cases e : c = i
      · subst e
        refine ⟨?_, ?_, ?_, ?_⟩
        · unfold jrow; rw [if_neg (by omega), if_neg (by omega), if_neg (by omega), if_pos rfl]
        · unfold jrow; rw [if_neg (by omega), if_neg (by omega), if_pos rfl]
        · unfold jrow; rw [if_neg (by omega), if_pos rfl]
        · unfold jrow; rw [if_pos rfl]
      · obtain ⟨q1, q2, q3, q4⟩ := hd c (by omega)
        rw [jrow_o (by omega), jrow_o (by omega), jrow_o (by omega), jrow_o (by omega)]
        exact ⟨q1, q2, q3, q4⟩
  · obtain ⟨x, w⟩ := a
    obtain ⟨rfl, h1, h2, hd⟩ := hI
    unfold gX11_begins_48
    dsimp only at h1 h2 hd ⊢
    rw [g1271 (k := 3) rfl (by decide), gd_tr, show ix 3 = 3 from ixn (k := 3) (by decide), h1 3 (Or.inl (by decide)), h3, if_pos (c_le (n := nc) rfl (Nat.le_refl _) (by omega))]
    exact ⟨_, rfl, h1, fun c hc => ⟨h2 c hc, hd c hc⟩⟩
/-- the class judges all candidates -/
theorem beginAnew23_eq {c_c c_f c_s c_m c_r : Nat → Int32} {z r : Nat → Nat} {n nc : Nat} {y : Int32 × (Nat → Int32) × (Nat → Int64)} (hn : n ≤ 512) (hc : nc ≤ 40) (hy : y.1 = nI n) (ho : ∀ j, j < n → y.2.1 j = nI (512 * r j + z j) ∧ z j < 512 ∧ r j < 4000000) (hk : ∀ c, c < nc → ∃ k, k < 1350 ∧ c_c c = nI k) :
    ∃ b, iter (gX3_beginAnew_23 (nI (z 0)) (nI nc) c_c y) FU ((0 : Int32), c_f, c_s, c_m, c_r) = some b ∧ (∀ c, c < nc → b.2.1 c = (vd z r (fms n z (c_c c))).1 ∧ b.2.2.1 c = (vd z r (fms n z (c_c c))).2.1 ∧ b.2.2.2.1 c = (vd z r (fms n z (c_c c))).2.2.1 ∧ b.2.2.2.2 c = (vd z r (fms n z (c_c c))).2.2.2) := by
  refine iter0 (fun i (a : Int32 × (Nat → Int32) × (Nat → Int32) × (Nat → Int32) × (Nat → Int32)) => a.1 = nI i ∧ (∀ c, c < i → a.2.1 c = (vd z r (fms n z (c_c c))).1 ∧ a.2.2.1 c = (vd z r (fms n z (c_c c))).2.1 ∧ a.2.2.2.1 c = (vd z r (fms n z (c_c c))).2.2.1 ∧ a.2.2.2.2 c = (vd z r (fms n z (c_c c))).2.2.2)) (fun (b : Int32 × (Nat → Int32) × (Nat → Int32) × (Nat → Int32) × (Nat → Int32)) => (∀ c, c < nc → b.2.1 c = (vd z r (fms n z (c_c c))).1 ∧ b.2.2.1 c = (vd z r (fms n z (c_c c))).2.1 ∧ b.2.2.2.1 c = (vd z r (fms n z (c_c c))).2.2.1 ∧ b.2.2.2.2 c = (vd z r (fms n z (c_c c))).2.2.2)) nc _ (by omega) ⟨rfl, fun c hc => absurd hc (Nat.not_lt_zero _)⟩ (fun i a hi hI => Or.inl ?_) (fun a hI => ?_)
  · obtain ⟨x, f, s, m, q⟩ := a
    obtain ⟨rfl, hd⟩ := hI
    obtain ⟨k, hk1, hk2⟩ := hk i hi
    unfold gX3_beginAnew_23
    dsimp only at hd ⊢
    rw [if_neg (c_ge (n := nc) rfl hi (by omega)), hy, judge_eq (z := z) (r := r) (by omega) hk1 hn hk2 ho, bd_some]
    refine ⟨_, rfl, nI1 i, fun c hc' => ?_⟩
    show upd f i _ c = _ ∧ upd s i _ c = _ ∧ upd m i _ c = _ ∧ upd q i _ c = _
    by_cases e : c = i
    · subst e
      rw [upd_s, upd_s, upd_s, upd_s, hk2]
      exact ⟨rfl, rfl, rfl, rfl⟩
    · rw [upd_o e, upd_o e, upd_o e, upd_o e]
      exact hd c (by omega)
  · obtain ⟨x, f, s, m, q⟩ := a
    obtain ⟨rfl, hd⟩ := hI
    unfold gX3_beginAnew_23
    dsimp only at hd ⊢
    rw [if_pos (c_le (n := nc) rfl (Nat.le_refl _) (by omega))]
    exact ⟨_, rfl, hd⟩
