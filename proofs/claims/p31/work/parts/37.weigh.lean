/-! ===== judging by the states seen, in the model ===== -/
theorem e5 (b i : Nat) : nI b + (5 : Int32) * nI i = nI (b + 5 * i) := by rw [show (5 : Int32) = nI 5 from rfl, pk_mul, nI_add]
/-- the model's row with the fate of candidate c set -/
def jrow (t : Nat → Int32) (c : Nat) (q : Int32 × Int32 × Int32 × Int32) : Nat → Int32 := fun j => if j = 47 + 5 * c + 4 then q.2.2.2 else if j = 47 + 5 * c + 3 then q.2.2.1 else if j = 47 + 5 * c + 2 then q.2.1 else if j = 47 + 5 * c + 1 then q.1 else t j
theorem jrow_o {t : Nat → Int32} {c j : Nat} {q : Int32 × Int32 × Int32 × Int32} (h : j < 47 + 5 * c + 1 ∨ 47 + 5 * c + 4 < j) : jrow t c q j = t j := by
  unfold jrow
  rw [if_neg (by omega), if_neg (by omega), if_neg (by omega), if_neg (by omega)]
theorem jrow_j (t : Nat → Int32) (c : Nat) (q q' : Int32 × Int32 × Int32 × Int32) : jrow (jrow t c q) c q' = jrow t c q' := by
  funext j
  unfold jrow
  by_cases h4 : j = 47 + 5 * c + 4
  · rw [if_pos h4, if_pos h4]
  · by_cases h3 : j = 47 + 5 * c + 3
    · rw [if_neg h4, if_pos h3, if_neg h4, if_pos h3]
    · by_cases h2 : j = 47 + 5 * c + 2
      · rw [if_neg h4, if_neg h3, if_pos h2, if_neg h4, if_neg h3, if_pos h2]
      · by_cases h1 : j = 47 + 5 * c + 1
        · rw [if_neg h4, if_neg h3, if_neg h2, if_pos h1, if_neg h4, if_neg h3, if_neg h2, if_pos h1]
        · rw [if_neg h4, if_neg h3, if_neg h2, if_neg h1, if_neg h4, if_neg h3, if_neg h2, if_neg h1, if_neg h4, if_neg h3, if_neg h2, if_neg h1]
theorem of_eq {t : Nat → Int32} {c j : Nat} {J : Int32} (hJ : J = nI j) (hc : c < 40) (hj : j < 5) : fX11_of t (nI c) J = some (t (47 + 5 * c + j)) := by
  subst hJ
  unfold fX11_of
  rw [show (47 : Int32) = nI 47 from rfl, e5, nI_add, gm rfl (by omega), ixn (by omega)]
theorem judges_eq (t : Nat → Int32) {c : Nat} (hc : c < 40) (f s m r : Int32) : fX11_judges t (nI c) f s m r = some (jrow t c (f, s, m, r)) := by
  unfold fX11_judges
  rw [show (47 : Int32) = nI 47 from rfl, e5, show (1 : Int32) = nI 1 from rfl, show (2 : Int32) = nI 2 from rfl, show (3 : Int32) = nI 3 from rfl, show (4 : Int32) = nI 4 from rfl, nI_add, nI_add, nI_add, nI_add, gm rfl (by omega), gm rfl (by omega), gm rfl (by omega), gm rfl (by omega), ixn (by omega), ixn (by omega), ixn (by omega), ixn (by omega)]
  rfl
/-- what a candidate's fate is by the place of its first miss -/
def vd (z r : Nat → Nat) (o : Option Nat) : Int32 × Int32 × Int32 × Int32 := match o with
  | none => (0, -6, -6, -6)
  | some j => (if j = 0 then 1 else 2, nI (z j), if j = 0 then -6 else nI (r j), -6)
theorem nI_p (n : Nat) : nI (n + 1) - 1 = nI n := by
  rw [nI_succ, Int32.add_sub_cancel]
theorem nI_m (n : Nat) : nI (n + 1) + (-1 : Int32) = nI n := by
  rw [nI_succ, Int32.add_assoc, show (1 : Int32) + (-1) = 0 by decide, Int32.add_zero]
theorem weighs_eq {t : Nat → Int32} {z r : Nat → Nat} {n c : Nat} {k : Int32} (hc : c < 40) (hn1 : 1 ≤ n) (hn : n ≤ 512) (h4 : t 4 = nI n) (hz : ∀ j, j < n → t (247 + j) = nI (z j)) (hr : ∀ j, j < n → 1 ≤ j → t (759 + j) = nI (r j)) (hk : t (47 + 5 * c) = k) : fX11_weighs t (nI c) = some (jrow t c (vd z r (fms n z k))) := by
  obtain ⟨n, rfl⟩ : ∃ m, n = m + 1 := ⟨n - 1, by omega⟩
  have key : ∃ b, iter (gX11_weighs_21 (nI c)) FU (nI n, jrow t c (0, -6, -6, -6)) = some b ∧ b.2 = jrow t c (vd z r (fms (n + 1) z k)) := by
    refine iter0 (fun d (a : Int32 × (Nat → Int32)) => a.1 + 1 = nI (n + 1 - d) ∧ ((a.2 = jrow t c (vd z r none) ∧ ∀ u, n + 1 - d ≤ u → u < n + 1 → (!sat k (nI (z u))) = false) ∨ (∃ j, n + 1 - d ≤ j ∧ j < n + 1 ∧ (!sat k (nI (z j))) = true ∧ (∀ u, n + 1 - d ≤ u → u < j → (!sat k (nI (z u))) = false) ∧ a.2 = jrow t c (vd z r (some j))))) (fun (b : Int32 × (Nat → Int32)) => b.2 = jrow t c (vd z r (fms (n + 1) z k))) (n + 1) _ (by omega) ⟨(nI_succ n).symm, Or.inl ⟨rfl, fun u h1 h2 => absurd h2 (by omega)⟩⟩ (fun d a hd hI => Or.inl ?_) (fun a hI => ?_)
    · obtain ⟨x, w⟩ := a
      obtain ⟨h1, h2⟩ := hI
      obtain ⟨i, hi⟩ : ∃ i, n + 1 - d = i + 1 := ⟨n - d, by omega⟩
      replace h1 : x + 1 = nI (i + 1) := by rw [← hi]; exact h1
      have ex : x = nI i := by
        have := congrArg (fun v => v - 1) h1
        simpa [nI_p] using this
      subst ex
      have hin : i < n + 1 := by omega
      obtain ⟨q, hq⟩ : ∃ q, w = jrow t c q := by
        rcases h2 with ⟨e, -⟩ | ⟨j, -, -, -, -, e⟩
        · exact ⟨_, e⟩
        · exact ⟨_, e⟩
      have hw : w (247 + i) = nI (z i) := by rw [hq, jrow_o (by omega), hz i hin]
      have hw0 : w (47 + 5 * c + 0) = k := by rw [hq, jrow_o (by omega), Nat.add_zero, hk]
      unfold gX11_weighs_21 jX11_weighs_21b60 jX11_weighs_21b80
      dsimp only
      rw [if_neg (c_lt0 (by omega)), show (247 : Int32) = nI 247 from rfl, nI_add, gm rfl (by omega), ixn (by omega), hw, of_eq (j := 0) (J := 0) rfl hc (by decide), bd_some, hw0, isSo_sat, bd_some]
      by_cases hs : sat k (nI (z i)) = true
      · rw [hs, if_neg (by decide : ¬ b2i true = 0)]
        refine ⟨_, rfl, ?_, ?_⟩
        · show nI i + (-1) + 1 = _
          rw [Int32.add_assoc, show (-1 : Int32) + 1 = 0 by decide, Int32.add_zero]
          congr 1; omega
        · rcases h2 with ⟨e, h⟩ | ⟨j, j1, j2, j3, j4, e⟩
          · refine Or.inl ⟨e, fun u u1 u2 => ?_⟩
            by_cases e : u = i
            · subst e; rw [hs]; rfl
            · exact h u (by omega) u2
          · refine Or.inr ⟨j, by omega, j2, j3, fun u u1 u2 => ?_, e⟩
            by_cases e : u = i
            · subst e; rw [hs]; rfl
            · exact j4 u (by omega) u2
      · have hs' : sat k (nI (z i)) = false := by simpa using hs
        rw [hs', if_pos (by decide : b2i false = 0)]
        have fin : ∀ w', w' = jrow t c (vd z r (some i)) → ∃ a' : Int32 × (Nat → Int32), (some (Sum.inl (nI i + -1, w')) : Option ((Int32 × (Nat → Int32)) ⊕ (Int32 × (Nat → Int32)))) = some (Sum.inl a') ∧ a'.1 + 1 = nI (n + 1 - (d + 1)) ∧ ((a'.2 = jrow t c (vd z r none) ∧ ∀ u, n + 1 - (d + 1) ≤ u → u < n + 1 → (!sat k (nI (z u))) = false) ∨ (∃ j, n + 1 - (d + 1) ≤ j ∧ j < n + 1 ∧ (!sat k (nI (z j))) = true ∧ (∀ u, n + 1 - (d + 1) ≤ u → u < j → (!sat k (nI (z u))) = false) ∧ a'.2 = jrow t c (vd z r (some j)))) := by
          intro w' hw'
          refine ⟨_, rfl, ?_, Or.inr ⟨i, by omega, hin, by rw [hs']; rfl, fun u u1 u2 => absurd u2 (by omega), hw'⟩⟩
          show nI i + (-1) + 1 = _
          rw [Int32.add_assoc, show (-1 : Int32) + 1 = 0 by decide, Int32.add_zero]
          congr 1; omega
        by_cases h0 : i = 0
        · subst h0
          rw [if_pos (by decide : nI 0 = 0), if_pos (by decide : nI 0 = 0), judges_eq _ hc, bd_some]
          exact fin _ (by rw [hq, jrow_j]; rfl)
        · have hi0 : ¬ nI i = 0 := fun e => h0 (nI_inj (b := 0) (by omega) (by decide) e)
          have hwr : w (759 + i) = nI (r i) := by rw [hq, jrow_o (by omega), hr i hin (by omega)]
          rw [if_neg hi0, if_neg hi0, show (759 : Int32) = nI 759 from rfl, nI_add, gm rfl (by omega), ixn (by omega), hwr, judges_eq _ hc, bd_some]
          exact fin _ (by rw [hq, jrow_j]; show _ = jrow t c (if i = 0 then 1 else 2, nI (z i), if i = 0 then -6 else nI (r i), -6); rw [if_neg h0, if_neg h0])
    · obtain ⟨x, w⟩ := a
      obtain ⟨h1, h2⟩ := hI
      rw [Nat.sub_self] at h1 h2
      replace h1 : x + 1 = nI 0 := h1
      have ex : x = -1 := by
        have := congrArg (fun v => v - 1) h1
        rw [show nI 0 - 1 = (-1 : Int32) by decide] at this
        simpa using this
      subst ex
      unfold gX11_weighs_21
      refine ⟨_, if_pos (show (-1 : Int32) < 0 by decide), ?_⟩
      show w = _
      dsimp only at h2
      rcases h2 with ⟨e, h⟩ | ⟨j, j1, j2, j3, j4, e⟩
      · rw [e]; congr 2
        exact (ffind_none (fun u hu => h u (Nat.zero_le _) hu)).symm
      · rw [e]; congr 2
        exact (ffind_some j2 j3 (fun u hu => j4 u (Nat.zero_le _) hu)).symm
  obtain ⟨b, hb, hp⟩ := key
  unfold fX11_weighs
  rw [show (0 : Int32) = 0 from rfl, judges_eq _ hc, bd_some, gm (K := 4) (k := 4) rfl (by decide), show ix 4 = 4 from ixn (k := 4) (by decide), jrow_o (by omega), h4, nI_p, hb, bd_some, hp]
