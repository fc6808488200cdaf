/-! ===== the states seen ===== -/
theorem c_lt0 {n : Nat} (h : n < 2 ^ 31) : ¬ nI n < 0 := by rw [lt_toInt, nI_toInt h, tI0]; omega
theorem stateAt_eq {o : Nat → Int32} {k s r : Nat} (h : o k = nI (512 * r + s)) (hk : k < 512) (hs : s < 512) (hr : r < 4000000) : fX6_stateAt o (nI k) = some (nI s) := by
  unfold fX6_stateAt
  rw [gd_nI hk (by decide), ixn (by omega), h, show (512 : Int32) = nI 512 from rfl, pk_rem (by omega) (by decide) (by decide), show (512 * r + s) % 512 = s by omega]
theorem runAt_eq {o : Nat → Int32} {k s r : Nat} (h : o k = nI (512 * r + s)) (hk : k < 512) (hs : s < 512) (hr : r < 4000000) : fX6_runAt o (nI k) = some (nI r) := by
  unfold fX6_runAt
  rw [gd_nI hk (by decide), ixn (by omega), h, show (512 : Int32) = nI 512 from rfl, pk_div (by omega) (by decide) (by decide), show (512 * r + s) / 512 = r by omega]
/-- the first place of the seen states at which a claim does not hold -/
def fms (n : Nat) (z : Nat → Nat) (k : Int32) : Option Nat := ffind n (fun j => !sat k (nI (z j)))
theorem seenMiss_eq {o : Nat → Int32} {z r : Nat → Nat} {n k : Nat} (hk : k < 1350) (hn : n ≤ 512) (ho : ∀ j, j < n → o j = nI (512 * r j + z j) ∧ z j < 512 ∧ r j < 4000000) : fX6_firstMiss (nI n) o (nI k) = some (oN (fms n z (nI k))) := by
  have key : ∃ b, iter (gX6_firstMiss_2 (nI n) o (nI k)) FU (0 : Int32) = some b ∧ ((∃ e, b = .inl e ∧ fms n z (nI k) = none) ∨ (∃ i, b = .inr (nI i) ∧ fms n z (nI k) = some i)) := by
    refine iter0 (fun i (a : Int32) => a = nI i ∧ ∀ u, u < i → (!sat (nI k) (nI (z u))) = false) (fun (b : Int32 ⊕ Int32) => (∃ e, b = .inl e ∧ fms n z (nI k) = none) ∨ (∃ i, b = .inr (nI i) ∧ fms n z (nI k) = some i)) n _ (by omega) ⟨rfl, fun j hj => absurd hj (Nat.not_lt_zero _)⟩ (fun i a hi hI => ?_) (fun a hI => ?_)
    · obtain ⟨rfl, h⟩ := hI
      obtain ⟨h1, h2, h3⟩ := ho i hi
      unfold gX6_firstMiss_2
      rw [if_neg (c_ge (n := n) rfl hi (by omega)), stateAt_eq h1 (by omega) h2 h3, bd_some, isMet_sat hk, bd_some]
      by_cases hs : sat (nI k) (nI (z i)) = true
      · rw [hs, if_neg (by decide : ¬ b2i true = 0)]
        refine Or.inl ⟨_, rfl, nI1 i, fun u hu => ?_⟩
        by_cases e : u = i
        · subst e; rw [hs]; rfl
        · exact h u (by omega)
      · have hs' : sat (nI k) (nI (z i)) = false := by simpa using hs
        rw [hs', if_pos (by decide : b2i false = 0)]
        exact Or.inr ⟨_, rfl, Or.inr ⟨i, rfl, ffind_some hi (by simp [hs']) h⟩⟩
    · obtain ⟨rfl, h⟩ := hI
      unfold gX6_firstMiss_2
      exact ⟨_, if_pos (c_le (n := n) rfl (Nat.le_refl _) (by omega)), Or.inl ⟨_, rfl, ffind_none h⟩⟩
  obtain ⟨b, hb, hp⟩ := key
  unfold fX6_firstMiss
  rw [hb, bd_some]
  rcases hp with ⟨e, rfl, hn⟩ | ⟨i, rfl, hn⟩
  · rw [se_l, hn]; rfl
  · rw [se_r, hn]; rfl
theorem gm {α : Type} {k : Nat} {K : Int32} {X : Option α} (hK : K = nI k) (h : k < 1271) : gd (gi K 1271) X = X := by subst hK; exact gd_nI h (by decide)
theorem isSeenSo_eq {t : Nat → Int32} {z : Nat → Nat} {n : Nat} {k : Int32} (hn : n ≤ 512) (h4 : t 4 = nI n) (ht : ∀ j, j < n → t (247 + j) = nI (z j)) : fX11_isSeenSo t k = some (b2i (decide (fms n z k = none))) := by
  have key : ∃ b, iter (gX11_isSeenSo_4 t k) FU ((1 : Int32), (0 : Int32)) = some b ∧ b.1 = b2i (decide (fms n z k = none)) := by
    refine iter0 (fun i (a : Int32 × Int32) => a.2 = nI i ∧ ((a.1 = 1 ∧ ∀ u, u < i → (!sat k (nI (z u))) = false) ∨ (a.1 = 0 ∧ ∃ u, u < n ∧ (!sat k (nI (z u))) = true))) (fun (b : Int32 × Int32) => b.1 = b2i (decide (fms n z k = none))) n _ (by omega) ⟨rfl, Or.inl ⟨rfl, fun j hj => absurd hj (Nat.not_lt_zero _)⟩⟩ (fun i a hi hI => ?_) (fun a hI => ?_)
    · obtain ⟨f, x⟩ := a
      obtain ⟨rfl, h⟩ := hI
      unfold gX11_isSeenSo_4
      dsimp only
      rw [gm (K := 4) (k := 4) rfl (by decide), show ix 4 = 4 from ixn (k := 4) (by decide), h4, if_neg (c_ge (n := n) rfl hi (by omega))]
      rcases h with ⟨e, h⟩ | ⟨e, h⟩
      · replace e : f = 1 := e
        subst e
        rw [if_neg i0ne1]
        refine Or.inl ?_
        have eA : (247 : Int32) + nI i = nI (247 + i) := nI_add 247 i
        rw [eA, gm rfl (by omega), ixn (by omega), ht i hi, isSo_sat, bd_some]
        refine ⟨_, rfl, nI1 i, ?_⟩
        by_cases hs : sat k (nI (z i)) = true
        · refine Or.inl ⟨by show b2i _ = 1; rw [hs]; rfl, fun u hu => ?_⟩
          by_cases e : u = i
          · subst e; rw [hs]; rfl
          · exact h u (by omega)
        · have hs' : sat k (nI (z i)) = false := by simpa using hs
          exact Or.inr ⟨by show b2i _ = 0; rw [hs']; rfl, i, hi, by rw [hs']; rfl⟩
      · replace e : f = 0 := e
        subst e
        refine Or.inr ⟨_, if_pos rfl, ?_⟩
        obtain ⟨u, hu, hv⟩ := h
        have : ¬ fms n z k = none := fun q => by
          unfold fms ffind at q
          rw [List.find?_eq_none] at q
          exact q u (List.mem_range.mpr hu) hv
        simp [this, b2i]
    · obtain ⟨f, x⟩ := a
      obtain ⟨rfl, h⟩ := hI
      unfold gX11_isSeenSo_4
      dsimp only
      rw [gm (K := 4) (k := 4) rfl (by decide), show ix 4 = 4 from ixn (k := 4) (by decide), h4, if_pos (c_le (n := n) rfl (Nat.le_refl _) (by omega))]
      refine ⟨_, rfl, ?_⟩
      rcases h with ⟨e, h⟩ | ⟨e, h⟩
      · have : fms n z k = none := ffind_none h
        simp [this, b2i]; exact e
      · obtain ⟨u, hu, hv⟩ := h
        have : ¬ fms n z k = none := fun q => by
          unfold fms ffind at q
          rw [List.find?_eq_none] at q
          exact q u (List.mem_range.mpr hu) hv
        simp [this, b2i]; exact e
  obtain ⟨b, hb, hp⟩ := key
  unfold fX11_isSeenSo
  rw [hb, bd_some, hp, isB_b2i, gd_tr]
