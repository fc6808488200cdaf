theorem c_ge {n i : Nat} {N : Int32} (hN : N = nI n) (h : i < n) (hn : n < 2 ^ 31) : ¬ N ≤ nI i := by subst hN; exact nI_ge h hn
theorem c_le {n i : Nat} {N : Int32} (hN : N = nI n) (h : n ≤ i) (hn : i < 2 ^ 31) : N ≤ nI i := by subst hN; exact nI_le h hn
theorem nI1 (i : Nat) : nI i + 1 = nI (i + 1) := nI_1 i
theorem clear_eq (w : Nat → Int64) : ∃ w', fX7_clear w = some w' ∧ ∀ u, u < 512 → mem w' u = false := by
  have key : ∃ b, iter gX7_clear_2 FU ((0 : Int32), w) = some b ∧ ∀ j, j < 8 → b.2 j = 0 := by
    refine iter0 (fun i (a : Int32 × (Nat → Int64)) => a.1 = nI i ∧ ∀ j, j < i → a.2 j = 0) (fun (b : Int32 × (Nat → Int64)) => ∀ j, j < 8 → b.2 j = 0) 8 _ (by decide) ⟨rfl, fun j hj => absurd hj (Nat.not_lt_zero _)⟩ (fun i a hi hI => Or.inl ?_) (fun a hI => ?_)
    · obtain ⟨x, w'⟩ := a
      obtain ⟨rfl, h⟩ := hI
      unfold gX7_clear_2
      refine ⟨(nI i + 1, vp_updL w' i 0), ?_, nI1 i, fun j hj => ?_⟩
      · rw [if_neg (c_ge (N := 8) (n := 8) rfl hi (by decide)), gd_nI hi (by decide), ixn (by omega)]
      · by_cases e : j = i
        · subst e; exact pk_uLs
        · show vp_updL w' i 0 j = _
          rw [pk_uLn e]; exact h j (by omega)
    · obtain ⟨x, w'⟩ := a
      obtain ⟨rfl, h⟩ := hI
      unfold gX7_clear_2
      exact ⟨_, if_pos (c_le (N := 8) (n := 8) rfl (Nat.le_refl _) (by decide)), h⟩
  obtain ⟨b, hb, hp⟩ := key
  unfold fX7_clear
  rw [hb, bd_some]
  exact ⟨_, rfl, fun u hu => by unfold mem; rw [hp _ (by omega)]; simp⟩
theorem fill_eq (w : Nat → Int64) : ∃ w', fX7_fill w = some w' ∧ ∀ u, u < 512 → mem w' u = true := by
  have key : ∃ b, iter gX7_fill_2 FU ((0 : Int32), w) = some b ∧ ∀ j, j < 8 → b.2 j = -1 := by
    refine iter0 (fun i (a : Int32 × (Nat → Int64)) => a.1 = nI i ∧ ∀ j, j < i → a.2 j = -1) (fun (b : Int32 × (Nat → Int64)) => ∀ j, j < 8 → b.2 j = -1) 8 _ (by decide) ⟨rfl, fun j hj => absurd hj (Nat.not_lt_zero _)⟩ (fun i a hi hI => Or.inl ?_) (fun a hI => ?_)
    · obtain ⟨x, w'⟩ := a
      obtain ⟨rfl, h⟩ := hI
      unfold gX7_fill_2
      refine ⟨(nI i + 1, vp_updL w' i (-1)), ?_, nI1 i, fun j hj => ?_⟩
      · rw [if_neg (c_ge (N := 8) (n := 8) rfl hi (by decide)), gd_nI hi (by decide), ixn (by omega)]
      · by_cases e : j = i
        · subst e; exact pk_uLs
        · show vp_updL w' i (-1) j = _
          rw [pk_uLn e]; exact h j (by omega)
    · obtain ⟨x, w'⟩ := a
      obtain ⟨rfl, h⟩ := hI
      unfold gX7_fill_2
      exact ⟨_, if_pos (c_le (N := 8) (n := 8) rfl (Nat.le_refl _) (by decide)), h⟩
  obtain ⟨b, hb, hp⟩ := key
  unfold fX7_fill
  rw [hb, bd_some]
  refine ⟨_, rfl, fun u hu => ?_⟩
  unfold mem
  rw [hp _ (by omega), show (-1 : Int64).toBitVec = BitVec.allOnes 64 by decide, BitVec.getLsbD_allOnes]
  simp; omega
theorem cpyL (w ow : Nat → Int64) : ∃ w', fX7_copyFrom w ow = some w' ∧ ∀ j, j < 8 → w' j = ow j := by
  unfold fX7_copyFrom
  rw [gd_t (by decide)]
  refine ⟨_, rfl, fun j hj => ?_⟩
  rw [show ix 0 = 0 by decide, show ix 8 = 8 by decide, pk_cpy_in (by omega) (by omega)]
  congr 1; omega
theorem mem_congr {w w' : Nat → Int64} (h : ∀ j, j < 8 → w' j = w j) {u : Nat} (hu : u < 512) : mem w' u = mem w u := by unfold mem; rw [h _ (by omega)]
/-- the lowest state of a set in which a claim does not hold -/
def fm (w : Nat → Int64) (k : Int32) : Option Nat := ffind 512 (fun s => mem w s && !sat k (nI s))
theorem setMiss_eq (w : Nat → Int64) {k : Nat} (hk : k < 1350) : fX7_firstMiss w (nI k) = some (oN (fm w (nI k))) := by
  have key : ∃ b, iter (gX7_firstMiss_2 w (nI k)) FU (0 : Int32) = some b ∧ ((∃ e, b = .inl e ∧ fm w (nI k) = none) ∨ (∃ i, b = .inr (nI i) ∧ fm w (nI k) = some i)) := by
    refine iter0 (fun i (a : Int32) => a = nI i ∧ ∀ u, u < i → (mem w u && !sat (nI k) (nI u)) = false) (fun (b : Int32 ⊕ Int32) => (∃ e, b = .inl e ∧ fm w (nI k) = none) ∨ (∃ i, b = .inr (nI i) ∧ fm w (nI k) = some i)) 512 _ (by decide) ⟨rfl, fun j hj => absurd hj (Nat.not_lt_zero _)⟩ (fun i a hi hI => ?_) (fun a hI => ?_)
    · obtain ⟨rfl, h⟩ := hI
      unfold gX7_firstMiss_2
      rw [if_neg (c_ge (N := 512) (n := 512) rfl hi (by decide)), has_eq w hi, bd_some, isMet_sat hk, bd_some]
      by_cases hm : mem w i = true
      · rw [hm, if_neg (by decide : ¬ b2i true = 0)]
        by_cases hs : sat (nI k) (nI i) = true
        · rw [hs, if_neg (by decide : ¬ b2i true = 0)]
          refine Or.inl ⟨_, rfl, nI1 i, fun u hu => ?_⟩
          by_cases e : u = i
          · subst e; rw [hs]; simp
          · exact h u (by omega)
        · have hs' : sat (nI k) (nI i) = false := by simpa using hs
          rw [hs', if_pos (by decide : b2i false = 0)]
          exact Or.inr ⟨_, rfl, Or.inr ⟨i, rfl, ffind_some hi (by simp [hm, hs']) h⟩⟩
      · have hm' : mem w i = false := by simpa using hm
        rw [hm', if_pos (by decide : b2i false = 0)]
        refine Or.inl ⟨_, rfl, nI1 i, fun u hu => ?_⟩
        by_cases e : u = i
        · subst e; rw [hm']; simp
        · exact h u (by omega)
    · obtain ⟨rfl, h⟩ := hI
      unfold gX7_firstMiss_2
      exact ⟨_, if_pos (c_le (N := 512) (n := 512) rfl (Nat.le_refl _) (by decide)), Or.inl ⟨_, rfl, ffind_none h⟩⟩
  obtain ⟨b, hb, hp⟩ := key
  unfold fX7_firstMiss
  rw [hb, bd_some]
  rcases hp with ⟨e, rfl, hn⟩ | ⟨i, rfl, hn⟩
  · rw [se_l, hn]; rfl
  · rw [se_r, hn]; rfl
