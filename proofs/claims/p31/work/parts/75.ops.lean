theorem op_fault {p_n t_len : Int32} {p_s t_pad : Nat → Int32} (h : RP p_n p_s t_len t_pad) (c1 c2 c3 c4 c5 c6 c7 c8 m1 m2 m3 m4 m5 m6 m7 m8 m9 : Int32) :
    ∃ (ans : Int32) (r : Int32 × O8) (r' : Int32 × O9), fX10_fault c1 c2 c3 c4 c5 c6 c7 c8 p_n p_s = some (ans, r) ∧ fX11_fault t_pad t_len m1 m2 m3 m4 m5 m6 m7 m8 m9 = some (ans, r') := by
  obtain ⟨l, hl, rfl, rfl, hj⟩ := h
  obtain ⟨ans, r, r', e1, e2⟩ := fault_c (l := l) (ps := p_s) (tp := t_pad) ⟨hl, hj⟩ (c1, c2, c3, c4, c5, c6, c7, c8) (m1, m2, m3, m4, m5, m6, m7, m8, m9)
  dsimp only at e1 e2
  unfold fX10_fault
  rw [e1, bd_some]
  exact ⟨ans, r, r', rfl, e2⟩
theorem op_carry {B : Nat} {t was : Nat → Int32} {sv h_n : Int32} {K : Nat → MS} {M : MS} (hB : B + 100 < 4000000) (hM : RM B t M) (hH : RH B was sv h_n K) {p_n t_len : Int32} {p_s t_pad : Nat → Int32} (hP : RP p_n p_s t_len t_pad) (wl : Nat → Int64) (al : Nat → Int32) (c1 c2 c3 c4 c5 c6 c7 c8 m1 m2 m3 m4 m5 m6 m7 m8 m9 : Int32) :
    ∃ (ans hn' ru ro sn : Int32) (g hh x y k : Nat → Int32) (cn : Int32) (cc cf cs cm cr : Nat → Int32) (en : Int32) (eo : Nat → Int32) (we wl' : Nat → Int64) (at0 o1 o2 o3 o4 o5 o6 o7 o8 pn' : Int32) (K' : Nat → MS) (sv' tl' at' n1 n2 n3 n4 n5 n6 n7 n8 n9 : Int32) (t' was' al' : Nat → Int32),
      fX10_carryOut h_n (M.1 0) (M.1 1) (M.1 2) (M.1 3) (M.1 4) (M.2.1 0) (M.2.1 1) (M.2.1 2) (M.2.1 3) (M.2.1 4) (M.1 5) (M.2.1 5) (M.2.1 6) (M.2.1 7) (M.2.1 8) (M.2.1 9) (M.1 6) (M.2.1 10) M.2.2 wl c1 c2 c3 c4 c5 c6 c7 c8 p_n p_s K = some (ans, hn', ru, ro, sn, g, hh, x, y, k, cn, cc, cf, cs, cm, cr, en, eo, we, wl', at0, o1, o2, o3, o4, o5, o6, o7, o8, pn', K') ∧
      fX11_carryOut t was sv t_pad t_len 0 al m1 m2 m3 m4 m5 m6 m7 m8 m9 = some (ans, sv', tl', 0, at', n1, n2, n3, n4, n5, n6, n7, n8, n9, t', was', al') ∧
      RM (B + 100) t' (snap (M.1 0) (M.1 1) ru ro sn g hh x y k cn cc cf cs cm cr en eo we) ∧ RH (B + 100) was' sv' hn' K' ∧ RP pn' p_s tl' t_pad := by
  have hP2 := hP
  obtain ⟨l, hl, rfl, rfl, hj⟩ := hP
  have X : TX l p_s t_pad := ⟨hl, hj⟩
  obtain ⟨ans, ⟨ra, o1, o2, o3, o4, o5, o6, o7, o8⟩, ⟨rb, n1, n2, n3, n4, n5, n6, n7, n8, n9⟩, e1, e2⟩ := fault_c X (c1, c2, c3, c4, c5, c6, c7, c8) (m1, m2, m3, m4, m5, m6, m7, m8, m9)
  dsimp only at e1 e2
  unfold fX10_carryOut fX11_carryOut
  rw [e1, e2, bd_some, bd_some]
  dsimp only
  by_cases h6 : ans = -6
  · obtain ⟨K1, k1, k2, was1, sv1, k3, k4⟩ := prep_eq hH hM.sn
    obtain ⟨b, b', g1, g2, i, ru, ro, sn, g, hh, x, y, k, cn, cc, cf, cs, cm, cr, en, eo, we, wl', at0, o, gg, at', q1, q2, q3, q4, q5, q6, q7, q8, q9, t', al', hi, rfl, rfl, hR⟩ := carry_loop (al := al) (was := was1) (sv := sv1) (wl := wl) X hB hM.sn (o1, o2, o3, o4, o5, o6, o7, o8) (n1, n2, n3, n4, n5, n6, n7, n8, n9)
    dsimp only at g1 g2
    obtain ⟨h', K2, k5, k6⟩ := k4 (nI i) (by rw [le_toInt, tI0, nI_toInt (by omega)]; omega)
    rw [if_pos h6, if_pos h6, k1, bd_some, k3, bd_some]
    unfold fX5_begin
    dsimp only
    rw [bd_some, g1, g2, bd_some, bd_some]
    unfold jX10_carryOut_64
    dsimp only
    rw [k5, bd_some]
    exact ⟨_, _, _, _, _, _, _, _, _, _, _, _, _, _, _, _, _, _, _, _, _, _, _, _, _, _, _, _, _, _, _, _, _, _, _, _, _, _, _, _, _, _, _, _, _, _, rfl, rfl, hR.up (by omega), k6.up (by omega), 0, Nat.zero_le _, rfl, rfl, fun j hj => absurd hj (Nat.not_lt_zero _)⟩
  · rw [if_neg h6, if_neg h6]
    exact ⟨_, _, _, _, _, _, _, _, _, _, _, _, _, _, _, _, _, _, _, _, _, _, _, _, _, _, _, _, _, _, _, _, _, _, _, _, _, _, _, _, _, _, _, t, was, al, rfl, rfl, hM.sn.up (by omega), hH.up (by omega), hP2⟩
