theorem has8_eq {ns : Nat} (hn : ns ≤ 8) (p : Int32) : (fX8_has (nI ns) p = some 0 ∧ fX11_in p 0 (nI ns - 1) = some 0) ∨ (fX8_has (nI ns) p = some 1 ∧ fX11_in p 0 (nI ns - 1) = some 1 ∧ ∃ q : Nat, q < ns ∧ p = nI q) := by
  have e1 : (nI ns - 1 : Int32).toInt = (ns : Int) - 1 := by
    rcases (show ns = 0 ∨ ns = 1 ∨ ns = 2 ∨ ns = 3 ∨ ns = 4 ∨ ns = 5 ∨ ns = 6 ∨ ns = 7 ∨ ns = 8 by omega) with rfl | rfl | rfl | rfl | rfl | rfl | rfl | rfl | rfl <;> decide
  have e2 : (nI ns).toInt = (ns : Int) := nI_toInt (by omega)
  unfold fX8_has
  rcases in_01 p 0 (nI ns - 1) with ⟨e, q⟩ | ⟨e, q1, q2⟩
  · left
    rw [tI0, e1] at q
    refine ⟨?_, e⟩
    by_cases c : p < 0
    · rw [if_pos c]
    · rw [if_neg c, if_pos (by rw [le_toInt, e2]; rw [lt_toInt, tI0] at c; omega)]
  · right
    rw [tI0] at q1; rw [e1] at q2
    refine ⟨?_, e, ?_⟩
    · rw [if_neg (by rw [lt_toInt, tI0]; omega), if_neg (by rw [le_toInt, e2]; omega)]
    · obtain ⟨q, hq, rfl⟩ : ∃ d : Nat, d < 2 ^ 31 ∧ p = nI d := nI_of (by rw [lt_toInt, tI0]; omega)
      rw [nI_toInt hq] at q2
      exact ⟨q, by omega, rfl⟩
