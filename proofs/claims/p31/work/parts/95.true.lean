theorem law_true {L : Nat} (hL : L ≤ 260) (sv : Nat → Int32) : fL_law L sv = some 1 := by
  sorry
