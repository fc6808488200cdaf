/-! ===== beginning anew ===== -/
theorem g1271 {k : Nat} {K : Int32} (hK : K = nI k) (h : k < 1271) : gi K 1271 = true := by subst hK; exact gi_nI h (by decide)
theorem gg0 : gi 0 1271 = true := g1271 (k := 0) rfl (by decide)
theorem ii0 : ix 0 = 0 := ixn (k := 0) (by decide)
theorem gg2 : gi 2 1271 = true := g1271 (k := 2) rfl (by decide)
theorem ii2 : ix 2 = 2 := ixn (k := 2) (by decide)
theorem gg3 : gi 3 1271 = true := g1271 (k := 3) rfl (by decide)
theorem ii3 : ix 3 = 3 := ixn (k := 3) (by decide)
theorem gg4 : gi 4 1271 = true := g1271 (k := 4) rfl (by decide)
theorem ii4 : ix 4 = 4 := ixn (k := 4) (by decide)
theorem gg5 : gi 5 1271 = true := g1271 (k := 5) rfl (by decide)
theorem ii5 : ix 5 = 5 := ixn (k := 5) (by decide)
theorem gg6 : gi 6 1271 = true := g1271 (k := 6) rfl (by decide)
theorem ii6 : ix 6 = 6 := ixn (k := 6) (by decide)
theorem gg247 : gi 247 1271 = true := g1271 (k := 247) rfl (by decide)
theorem ii247 : ix 247 = 247 := ixn (k := 247) (by decide)
theorem gg759 : gi 759 1271 = true := g1271 (k := 759) rfl (by decide)
theorem ii759 : ix 759 = 759 := ixn (k := 759) (by decide)
/-- the model judges all candidates -/
theorem begins48_eq {t : Nat → Int32} {z r : Nat → Nat} {n nc : Nat} {kc : Nat → Int32} (hn1 : 1 ≤ n) (hn : n ≤ 512) (hc : nc ≤ 40) (h3 : t 3 = nI nc) (h4 : t 4 = nI n) (hz : ∀ j, j < n → t (247 + j) = nI (z j)) (hr : ∀ j, j < n → 1 ≤ j → t (759 + j) = nI (r j)) (hk : ∀ c, c < nc → t (47 + 5 * c) = kc c) :
    ∃ b, iter gX11_begins_48 FU ((0 : Int32), t) = some b ∧ (∀ j, (j < 47 ∨ 247 ≤ j) → b.2 j = t j) ∧ (∀ c, c < nc → b.2 (47 + 5 * c) = kc c ∧ b.2 (47 + 5 * c + 1) = (vd z r (fms n z (kc c))).1 ∧ b.2 (47 + 5 * c + 2) = (vd z r (fms n z (kc c))).2.1 ∧ b.2 (47 + 5 * c + 3) = (vd z r (fms n z (kc c))).2.2.1 ∧ b.2 (47 + 5 * c + 4) = (vd z r (fms n z (kc c))).2.2.2) := by
  refine iter0 (fun i (a : Int32 × (Nat → Int32)) => a.1 = nI i ∧ (∀ j, (j < 47 ∨ 247 ≤ j) → a.2 j = t j) ∧ (∀ c, c < nc → a.2 (47 + 5 * c) = kc c) ∧ (∀ c, c < i → a.2 (47 + 5 * c + 1) = (vd z r (fms n z (kc c))).1 ∧ a.2 (47 + 5 * c + 2) = (vd z r (fms n z (kc c))).2.1 ∧ a.2 (47 + 5 * c + 3) = (vd z r (fms n z (kc c))).2.2.1 ∧ a.2 (47 + 5 * c + 4) = (vd z r (fms n z (kc c))).2.2.2)) (fun (b : Int32 × (Nat → Int32)) => (∀ j, (j < 47 ∨ 247 ≤ j) → b.2 j = t j) ∧ (∀ c, c < nc → b.2 (47 + 5 * c) = kc c ∧ b.2 (47 + 5 * c + 1) = (vd z r (fms n z (kc c))).1 ∧ b.2 (47 + 5 * c + 2) = (vd z r (fms n z (kc c))).2.1 ∧ b.2 (47 + 5 * c + 3) = (vd z r (fms n z (kc c))).2.2.1 ∧ b.2 (47 + 5 * c + 4) = (vd z r (fms n z (kc c))).2.2.2)) nc _ (by omega) ⟨rfl, fun j _ => rfl, hk, fun c hc => absurd hc (Nat.not_lt_zero _)⟩ (fun i a hi hI => Or.inl ?_) (fun a hI => ?_)
  · obtain ⟨x, w⟩ := a
    obtain ⟨rfl, h1, h2, hd⟩ := hI
    unfold gX11_begins_48
    dsimp only at h1 h2 hd ⊢
    rw [gg3, gd_tr, ii3, if_neg (show ¬ w 3 ≤ nI i by rw [h1 3 (Or.inl (by decide)), h3]; exact c_ge (n := nc) rfl hi (by omega)), weighs_eq (z := z) (r := r) (n := n) (k := kc i) (by omega) hn1 hn (by rw [h1 4 (Or.inl (by decide)), h4]) (fun j hj => by rw [h1 _ (Or.inr (by omega)), hz j hj]) (fun j hj hj1 => by rw [h1 _ (Or.inr (by omega)), hr j hj hj1]) (h2 i hi), bd_some]
    refine ⟨_, rfl, nI1 i, fun j hj => ?_, fun c hc => ?_, fun c hc' => ?_⟩
    · show jrow w i _ j = _
      rw [jrow_o (by omega), h1 j hj]
    · show jrow w i _ _ = _
      rw [jrow_o (by omega), h2 c hc]
    · show jrow w i _ _ = _ ∧ jrow w i _ _ = _ ∧ jrow w i _ _ = _ ∧ jrow w i _ _ = _
      by_cases e : c = i
      · subst e
        refine ⟨?_, ?_, ?_, ?_⟩
        · unfold jrow; rw [if_neg (by omega), if_neg (by omega), if_neg (by omega), if_pos rfl]
        · unfold jrow; rw [if_neg (by omega), if_neg (by omega), if_pos rfl]
        · unfold jrow; rw [if_neg (by omega), if_pos rfl]
        · unfold jrow; rw [if_pos rfl]
      · obtain ⟨q1, q2, q3, q4⟩ := hd c (by omega)
        rw [jrow_o (by omega), jrow_o (by omega), jrow_o (by omega), jrow_o (by omega)]
        exact ⟨q1, q2, q3, q4⟩
  · obtain ⟨x, w⟩ := a
    obtain ⟨rfl, h1, h2, hd⟩ := hI
    unfold gX11_begins_48
    dsimp only at h1 h2 hd ⊢
    rw [gg3, gd_tr, ii3, if_pos (show w 3 ≤ nI nc by rw [h1 3 (Or.inl (by decide)), h3]; exact c_le (n := nc) rfl (Nat.le_refl _) (by omega))]
    exact ⟨_, rfl, h1, fun c hc => ⟨h2 c hc, hd c hc⟩⟩
/-- the class judges all candidates -/
theorem beginAnew23_eq {c_c c_f c_s c_m c_r : Nat → Int32} {z r : Nat → Nat} {n nc : Nat} {y : Int32 × (Nat → Int32) × (Nat → Int64)} (hn : n ≤ 512) (hc : nc ≤ 40) (hy : y.1 = nI n) (ho : ∀ j, j < n → y.2.1 j = nI (512 * r j + z j) ∧ z j < 512 ∧ r j < 4000000) (hk : ∀ c, c < nc → ∃ k, k < 1350 ∧ c_c c = nI k) :
    ∃ b, iter (gX3_beginAnew_23 (nI (z 0)) (nI nc) c_c y) FU ((0 : Int32), c_f, c_s, c_m, c_r) = some b ∧ (∀ c, c < nc → b.2.1 c = (vd z r (fms n z (c_c c))).1 ∧ b.2.2.1 c = (vd z r (fms n z (c_c c))).2.1 ∧ b.2.2.2.1 c = (vd z r (fms n z (c_c c))).2.2.1 ∧ b.2.2.2.2 c = (vd z r (fms n z (c_c c))).2.2.2) := by
  refine iter0 (fun i (a : Int32 × (Nat → Int32) × (Nat → Int32) × (Nat → Int32) × (Nat → Int32)) => a.1 = nI i ∧ (∀ c, c < i → a.2.1 c = (vd z r (fms n z (c_c c))).1 ∧ a.2.2.1 c = (vd z r (fms n z (c_c c))).2.1 ∧ a.2.2.2.1 c = (vd z r (fms n z (c_c c))).2.2.1 ∧ a.2.2.2.2 c = (vd z r (fms n z (c_c c))).2.2.2)) (fun (b : Int32 × (Nat → Int32) × (Nat → Int32) × (Nat → Int32) × (Nat → Int32)) => (∀ c, c < nc → b.2.1 c = (vd z r (fms n z (c_c c))).1 ∧ b.2.2.1 c = (vd z r (fms n z (c_c c))).2.1 ∧ b.2.2.2.1 c = (vd z r (fms n z (c_c c))).2.2.1 ∧ b.2.2.2.2 c = (vd z r (fms n z (c_c c))).2.2.2)) nc _ (by omega) ⟨rfl, fun c hc => absurd hc (Nat.not_lt_zero _)⟩ (fun i a hi hI => Or.inl ?_) (fun a hI => ?_)
  · obtain ⟨x, f, s, m, q⟩ := a
    obtain ⟨rfl, hd⟩ := hI
    obtain ⟨k, hk1, hk2⟩ := hk i hi
    unfold gX3_beginAnew_23
    dsimp only at hd ⊢
    rw [if_neg (c_ge (n := nc) rfl hi (by omega)), hy, judge_eq (z := z) (r := r) (by omega) hk1 hn hk2 ho, bd_some]
    refine ⟨_, rfl, nI1 i, fun c hc' => ?_⟩
    show upd f i _ c = _ ∧ upd s i _ c = _ ∧ upd m i _ c = _ ∧ upd q i _ c = _
    by_cases e : c = i
    · subst e
      rw [upd_s, upd_s, upd_s, upd_s, hk2]
      exact ⟨rfl, rfl, rfl, rfl⟩
    · rw [upd_o e, upd_o e, upd_o e, upd_o e]
      exact hd c (by omega)
  · obtain ⟨x, f, s, m, q⟩ := a
    obtain ⟨rfl, hd⟩ := hI
    unfold gX3_beginAnew_23
    dsimp only at hd ⊢
    rw [if_pos (c_le (n := nc) rfl (Nat.le_refl _) (by omega))]
    exact ⟨_, rfl, hd⟩
/-- both sides begin anew -/
theorem begin_eq {t c_c c_f c_s c_m c_r e_o : Nat → Int32} {we : Nat → Int64} {s nc : Nat} (hs : s < 512) (hc : nc ≤ 40) (h0 : t 0 = nI s) (h3 : t 3 = nI nc) (hk : ∀ c, c < nc → t (47 + 5 * c) = c_c c ∧ ∃ k, k < 1350 ∧ c_c c = nI k) :
    ∃ t' f' s' m' r' o' w', fX11_begins t = some t' ∧ fX3_beginAnew (nI s) (nI nc) c_c c_f c_s c_m c_r e_o we = some (0, 0, f', s', m', r', 1, o', w') ∧ o' 0 = nI s ∧ (∀ u, u < 512 → mem w' u = decide (u = s)) ∧ t' 4 = 1 ∧ t' 5 = 0 ∧ t' 6 = 0 ∧ t' 247 = nI s ∧ (∀ j, j < 47 → ¬ j = 4 → ¬ j = 5 → ¬ j = 6 → t' j = t j) ∧ ∀ c, c < nc → CRel t' c_c f' s' m' r' c := by
  obtain ⟨o', w', e1, e2, e3⟩ := beginAt_eq e_o we hs
  obtain ⟨b, hb, hp⟩ := beginAnew23_eq (c_c := c_c) (c_f := c_f) (c_s := c_s) (c_m := c_m) (c_r := c_r) (z := fun _ => s) (r := fun _ => 0) (n := 1) (nc := nc) (y := (1, o', w')) (by decide) hc rfl (fun j hj => by
    have : j = 0 := by omega
    subst this
    exact ⟨by rw [show 512 * (0 : Nat) + s = s by omega]; exact e2, hs, by decide⟩) (fun c hc' => (hk c hc').2)
  let t1 : Nat → Int32 := upd (upd (upd (upd (upd t 4 1) 247 ((upd t 4 1) 0)) 759 (-6)) 5 0) 6 0
  have q6 : t1 6 = 0 := upd_s
  have q5 : t1 5 = 0 := by show upd _ 6 0 5 = _; rw [upd_o (by decide), upd_s]
  have q4 : t1 4 = 1 := by show upd _ 6 0 4 = _; rw [upd_o (by decide), upd_o (by decide), upd_o (by decide), upd_o (by decide), upd_s]
  have q247 : t1 247 = nI s := by show upd _ 6 0 247 = _; rw [upd_o (by decide), upd_o (by decide), upd_o (by decide), upd_s, upd_o (by decide), h0]
  have qo : ∀ j, ¬ j = 4 → ¬ j = 5 → ¬ j = 6 → ¬ j = 247 → ¬ j = 759 → t1 j = t j := fun j j1 j2 j3 j4 j5 => by show upd _ 6 0 j = _; rw [upd_o j3, upd_o j2, upd_o j5, upd_o j4, upd_o j1]
  obtain ⟨d, hd, hu, hq⟩ := begins48_eq (t := t1) (z := fun _ => s) (r := fun _ => 0) (n := 1) (nc := nc) (kc := c_c) (by decide) (by decide) hc (by rw [qo 3 (by decide) (by decide) (by decide) (by decide) (by decide), h3]) q4 (fun j hj => by
    have : j = 0 := by omega
    subst this
    exact q247) (fun j hj hj1 => absurd hj (by omega)) (fun c hc' => by rw [qo _ (by omega) (by omega) (by omega) (by omega) (by omega)]; exact (hk c hc').1)
  refine ⟨d.2, b.2.1, b.2.2.1, b.2.2.2.1, b.2.2.2.2, o', w', ?_, ?_, e2, e3, ?_, ?_, ?_, ?_, ?_, ?_⟩
  · unfold fX11_begins
    rw [gg4, gd_tr, gg0, gd_tr, gg247, gd_tr, gg759, gd_tr, gg5, gd_tr, gg6, gd_tr, ii4, ii0, ii247, ii759, ii5, ii6]
    show bd (iter gX11_begins_48 FU ((0 : Int32), t1)) _ = _
    rw [hd, bd_some]
  · unfold fX3_beginAnew
    rw [e1, bd_some, hb, bd_some]
  · rw [hu 4 (Or.inl (by decide)), q4]
  · rw [hu 5 (Or.inl (by decide)), q5]
  · rw [hu 6 (Or.inl (by decide)), q6]
  · rw [hu 247 (Or.inr (by decide)), q247]
  · intro j hj j4 j5 j6
    rw [hu j (Or.inl hj), qo j j4 j5 j6 (by omega) (by omega)]
  · intro c hc'
    obtain ⟨a0, a1, a2, a3, a4⟩ := hq c hc'
    obtain ⟨b1, b2, b3, b4⟩ := hp c hc'
    exact ⟨a0, by rw [a1, b1], by rw [a2, b2], by rw [a3, b3], by rw [a4, b4]⟩
