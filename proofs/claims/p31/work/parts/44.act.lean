/-! ===== a new step ===== -/
theorem in_n {p a b : Int32} (h : p.toInt < a.toInt ∨ b.toInt < p.toInt) : fX11_in p a b = some 0 := by
  rcases in_01 p a b with ⟨e, -⟩ | ⟨-, h1, h2⟩
  · exact e
  · exfalso; omega
theorem act_eq (h x y k : Int32) : ∃ v : Bool, fX8_isAction h x y k = some (b2i v) ∧ fX11_isAction h x y k = some (b2i v) ∧ (v = true → okA h x y k) := by
  unfold fX8_isAction fX11_isAction
  rcases in_01 x 0 2 with ⟨ex, qx⟩ | ⟨ex, qx1, qx2⟩
  · refine ⟨false, ?_, ?_, fun e => absurd e (by decide)⟩
    · rw [tI0, tI2] at qx
      by_cases c1 : x < 0
      · rw [if_pos c1]; rfl
      · rw [if_neg c1, if_pos (by rw [lt_toInt, tI0] at c1; rw [lt_toInt, tI2]; omega)]; rfl
    · rcases in_01 h 0 2 with ⟨e, -⟩ | ⟨e, -⟩
      · rw [e, bd_some, if_pos rfl]; rfl
      · rw [e, bd_some, if_neg i0ne1, ex, bd_some, if_pos rfl]; rfl
  rw [tI0] at qx1; rw [tI2] at qx2
  rw [if_neg (show ¬ x < 0 by rw [lt_toInt, tI0]; omega), if_neg (show ¬ 2 < x by rw [lt_toInt, tI2]; omega)]
  rcases in_01 y 0 2 with ⟨ey, qy⟩ | ⟨ey, qy1, qy2⟩
  · refine ⟨false, ?_, ?_, fun e => absurd e (by decide)⟩
    · rw [tI0, tI2] at qy
      by_cases c1 : y < 0
      · rw [if_pos c1]; rfl
      · rw [if_neg c1, if_neg (by rw [lt_toInt, tI0] at c1; rw [le_toInt, tI2]; omega)]; rfl
    · rcases in_01 h 0 2 with ⟨e, -⟩ | ⟨e, -⟩
      · rw [e, bd_some, if_pos rfl]; rfl
      · rw [e, bd_some, if_neg i0ne1, ex, bd_some, if_neg i0ne1, ey, bd_some, if_pos rfl]; rfl
  rw [tI0] at qy1; rw [tI2] at qy2
  rw [if_neg (show ¬ y < 0 by rw [lt_toInt, tI0]; omega), if_pos (show y ≤ 2 by rw [le_toInt, tI2]; omega)]
  obtain ⟨a, ha, rfl⟩ : ∃ d : Nat, d < 2 ^ 31 ∧ x = nI d := nI_of (by rw [lt_toInt, tI0]; omega)
  obtain ⟨b, hb, rfl⟩ : ∃ d : Nat, d < 2 ^ 31 ∧ y = nI d := nI_of (by rw [lt_toInt, tI0]; omega)
  rw [nI_toInt ha] at qx2
  rw [nI_toInt hb] at qy2
  by_cases h0 : h = 0
  · subst h0
    rw [if_pos rfl, show fX11_in 0 0 2 = some 1 by decide, bd_some, if_neg i0ne1, ex, bd_some, if_neg i0ne1, ey, bd_some, if_neg i0ne1, if_pos rfl]
    by_cases y0 : nI b = 0
    · rw [if_pos y0, if_pos y0, digit_01]
      rcases in_01 k 0 7 with ⟨e, -⟩ | ⟨e, -⟩
      · rw [e, bd_some, if_pos rfl]; exact ⟨false, rfl, rfl, fun e => absurd e (by decide)⟩
      · rw [e, bd_some, if_neg i0ne1]
        obtain ⟨d, hd, rfl⟩ := dig_lt e
        exact ⟨true, rfl, rfl, fun _ => ⟨a, b, by omega, by omega, rfl, rfl, Or.inl ⟨rfl, d, hd, rfl⟩⟩⟩
    · rw [if_neg y0, if_neg y0]
      exact ⟨false, rfl, rfl, fun e => absurd e (by decide)⟩
  rw [if_neg h0]
  by_cases h1 : h = 1
  · subst h1
    rw [if_pos rfl, show fX11_in 1 0 2 = some 1 by decide, bd_some, if_neg i0ne1, ex, bd_some, if_neg i0ne1, ey, bd_some, if_neg i0ne1, if_neg i0ne1, if_pos rfl, offset_01]
    rcases in_01 k (-7) 7 with ⟨e, -⟩ | ⟨e, -⟩
    · rw [e, bd_some]
      exact ⟨false, rfl, rfl, fun e => absurd e (by decide)⟩
    · rw [e, bd_some]
      exact ⟨true, rfl, rfl, fun _ => ⟨a, b, by omega, by omega, rfl, rfl, Or.inr (Or.inl rfl)⟩⟩
  rw [if_neg h1]
  by_cases h2 : h = 2
  · subst h2
    rw [if_pos rfl, show fX11_in 2 0 2 = some 1 by decide, bd_some, if_neg i0ne1, ex, bd_some, if_neg i0ne1, ey, bd_some, if_neg i0ne1, if_neg h0, if_neg h1]
    by_cases yx : nI b = nI a
    · rw [if_pos yx]; exact ⟨false, rfl, rfl, fun e => absurd e (by decide)⟩
    · rw [if_neg yx]
      by_cases k0 : k = 0
      · rw [if_pos k0]; exact ⟨true, rfl, rfl, fun _ => ⟨a, b, by omega, by omega, rfl, rfl, Or.inr (Or.inr ⟨rfl, fun e => yx (by rw [e])⟩)⟩⟩
      · rw [if_neg k0]; exact ⟨false, rfl, rfl, fun e => absurd e (by decide)⟩
  · rw [if_neg h2, in_n (p := h) (a := 0) (b := 2) (by
      rw [eq_toInt, tI0] at h0; rw [eq_toInt, tI1] at h1; rw [eq_toInt, tI2] at h2; rw [tI0, tI2]; omega), bd_some, if_pos rfl]
    exact ⟨false, rfl, rfl, fun e => absurd e (by decide)⟩
