/-! ===== claims: which codes there are, what holds where ===== -/
theorem tIl (n : Nat) (h : n < 2 ^ 31) : (OfNat.ofNat n : Int32).toInt = (n : Int) := nI_toInt h
theorem tI0 : (0 : Int32).toInt = 0 := by decide
theorem tI1 : (1 : Int32).toInt = 1 := by decide
theorem tI2 : (2 : Int32).toInt = 2 := by decide
theorem tI3 : (3 : Int32).toInt = 3 := by decide
theorem tI4 : (4 : Int32).toInt = 4 := by decide
theorem tI5 : (5 : Int32).toInt = 5 := by decide
theorem tI6 : (6 : Int32).toInt = 6 := by decide
theorem tI7 : (7 : Int32).toInt = 7 := by decide
theorem tI8 : (8 : Int32).toInt = 8 := by decide
theorem tI9 : (9 : Int32).toInt = 9 := by decide
theorem tIm7 : (-7 : Int32).toInt = -7 := by decide
theorem in_01 (p a b : Int32) : (fX11_in p a b = some 0 ∧ (p.toInt < a.toInt ∨ b.toInt < p.toInt)) ∨ (fX11_in p a b = some 1 ∧ a.toInt ≤ p.toInt ∧ p.toInt ≤ b.toInt) := by
  unfold fX11_in
  by_cases h1 : p < a
  · rw [if_pos h1]; exact Or.inl ⟨rfl, Or.inl (lt_toInt.mp h1)⟩
  · rw [if_neg h1]
    by_cases h2 : b < p
    · rw [if_pos h2]; exact Or.inl ⟨rfl, Or.inr (lt_toInt.mp h2)⟩
    · rw [if_neg h2]
      rw [lt_toInt] at h1 h2
      exact Or.inr ⟨rfl, by omega, by omega⟩
theorem digit_01 (p : Int32) : fX1_isDigit p = fX11_in p 0 7 := by
  unfold fX1_isDigit fX11_in
  rfl
theorem offset_01 (p : Int32) : fX1_isOffset p = fX11_in p (-7) 7 := by
  unfold fX1_isOffset fX11_in
  rfl
theorem i0ne1 : ¬ (1 : Int32) = 0 := by decide
theorem isClaim_eq (a b c d : Int32) : fX1_isClaim a b c d = fX11_isClaim a b c d := by
  unfold fX1_isClaim fX11_isClaim jX1_isClaim_94 jX1_isClaim_111 jX11_isClaim_124
  rw [digit_01, offset_01]
  rcases in_01 a 0 9 with ⟨e1, h1⟩ | ⟨e1, h1, h1'⟩
  · rw [e1]
    simp only [bd_some, lt_toInt, le_toInt, eq_toInt, tI0, tI1, tI2, tI3, tI4, tI5, tI6, tI7, tI8, tI9] at *
    generalize a.toInt = A at *
    have q : ∀ k : Int, 0 ≤ k → k ≤ 9 → ¬ A = k := fun k _ _ => by omega
    simp only [q 0 (by omega) (by omega), q 1 (by omega) (by omega), q 2 (by omega) (by omega), q 3 (by omega) (by omega), q 4 (by omega) (by omega), q 5 (by omega) (by omega), q 6 (by omega) (by omega), q 7 (by omega) (by omega), q 8 (by omega) (by omega), q 9 (by omega) (by omega), ↓reduceIte]
    repeat' split
    all_goals rfl
  · rw [e1]
    rcases in_01 b 0 2 with ⟨e2, h2⟩ | ⟨e2, h2, h2'⟩
    · rw [e2]
      simp only [bd_some, i0ne1, lt_toInt, le_toInt, tI0, tI2, ↓reduceIte] at *
      rcases h2 with h2 | h2
      · rw [if_pos h2]
      · rw [if_neg (by omega), if_pos h2]
    · rcases in_01 c 0 2 with ⟨e3, h3⟩ | ⟨e3, h3, h3'⟩
      · rw [e2, e3]
        simp only [bd_some, i0ne1, lt_toInt, le_toInt, tI0, tI2, ↓reduceIte] at *
        rw [if_neg (by omega), if_neg (by omega)]
        rcases h3 with h3 | h3
        · rw [if_pos h3]
        · rw [if_neg (by omega), if_neg (by omega)]
      · rw [e2, e3]
        simp only [bd_some, i0ne1, lt_toInt, le_toInt, eq_toInt, tI0, tI1, tI2, tI3, tI4, tI5, tI6, tI7, tI8, tI9, ↓reduceIte] at *
        rw [if_neg (by omega), if_neg (by omega), if_neg (by omega), if_pos (by omega)]
        generalize a.toInt = A at *
        obtain h | h | h | h | h | h | h | h | h | h : A = 0 ∨ A = 1 ∨ A = 2 ∨ A = 3 ∨ A = 4 ∨ A = 5 ∨ A = 6 ∨ A = 7 ∨ A = 8 ∨ A = 9 := by omega
        all_goals subst h
        all_goals simp
        rcases in_01 d 0 1 with ⟨e6, h6⟩ | ⟨e6, h6, h6'⟩
        all_goals simp only [e6, bd_some, i0ne1, ↓reduceIte, tI0, tI1] at *
        all_goals (repeat' split)
        all_goals first | rfl | omega
