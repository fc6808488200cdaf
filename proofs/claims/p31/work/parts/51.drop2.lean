theorem has8_eq {ns : Nat} (hn : ns ≤ 8) (p : Int32) : (fX8_has (nI ns) p = some 0 ∧ fX11_in p 0 (nI ns - 1) = some 0) ∨ (fX8_has (nI ns) p = some 1 ∧ fX11_in p 0 (nI ns - 1) = some 1 ∧ ∃ q : Nat, q < ns ∧ p = nI q) := by
  have e1 : (nI ns - 1 : Int32).toInt = (ns : Int) - 1 := by
    rcases (show ns = 0 ∨ ns = 1 ∨ ns = 2 ∨ ns = 3 ∨ ns = 4 ∨ ns = 5 ∨ ns = 6 ∨ ns = 7 ∨ ns = 8 by omega) with rfl | rfl | rfl | rfl | rfl | rfl | rfl | rfl | rfl <;> decide
  have e2 : (nI ns).toInt = (ns : Int) := nI_toInt (by omega)
  unfold fX8_has
  rcases in_01 p 0 (nI ns - 1) with ⟨e, q⟩ | ⟨e, q1, q2⟩
  · left
    rw [tI0, e1] at q
    refine ⟨?_, e⟩
    by_cases c : p < 0
    · rw [if_pos c]
    · rw [if_neg c, if_pos (by rw [le_toInt, e2]; rw [lt_toInt, tI0] at c; omega)]
  · right
    rw [tI0] at q1; rw [e1] at q2
    refine ⟨?_, e, ?_⟩
    · rw [if_neg (by rw [lt_toInt, tI0]; omega), if_neg (by rw [le_toInt, e2]; omega)]
    · obtain ⟨q, hq, rfl⟩ : ∃ d : Nat, d < 2 ^ 31 ∧ p = nI d := nI_of (by rw [lt_toInt, tI0]; omega)
      rw [nI_toInt hq] at q2
      exact ⟨q, by omega, rfl⟩
theorem op_drop {B : Nat} {t was : Nat → Int32} {sv h_n : Int32} {K : Nat → MS} {M : MS} (hM : RM B t M) (hH : RH B was sv h_n K) (p0 : Int32) :
    ∃ ans hn' ru ro sn sg sh sx sy sk f s m r en o w K' t' was' sv', fX10_drop h_n (M.1 0) (M.1 1) (M.1 2) (M.1 3) (M.1 4) (M.2.1 0) (M.2.1 1) (M.2.1 2) (M.2.1 3) (M.2.1 4) (M.1 5) (M.2.1 5) (M.2.1 6) (M.2.1 7) (M.2.1 8) (M.2.1 9) (M.1 6) (M.2.1 10) M.2.2 K p0 = some (ans, hn', ru, ro, sn, sg, sh, sx, sy, sk, f, s, m, r, en, o, w, K') ∧ fX11_drop t was sv 0 p0 = some (ans, sv', t', was') ∧
    RM B t' (snap (M.1 0) (M.1 1) ru ro sn sg sh sx sy sk (M.1 5) (M.2.1 5) f s m r en o w) ∧ RH B was' sv' hn' K' := by
  obtain ⟨K1, k1, k2, was1, sv1, k3, k4⟩ := prep_eq hH hM.sn
  have hM0 := hM
  obtain ⟨ns, nc, n, R, z, r, ⟨a1, a2, a3, a4, a5, a6⟩, ⟨b1, b2, b3, b4, b5⟩, ⟨c1, c2, c3, c4, c5, c6, c7⟩, d, e, f, -⟩ := hM0
  have hS := hM.sn
  unfold fX10_drop fX3_removeStep fX8_remove fX11_drop fX11_isStep
  rw [k1, bd_some, gg2, gd_tr, ii2, c3]
  rw [a4] at hS ⊢
  rcases has8_eq b1 p0 with ⟨e1, e2⟩ | ⟨e1, e2, q, hq, rfl⟩
  · rw [e1, bd_some, if_pos (show (0 : Int32) = 0 from rfl), bd_some, if_pos (show (-1 : Int32) < 0 by decide), bd_some, confirm_neg (show (-1 : Int32) < 0 by decide), bd_some, e2, bd_some]
    exact ⟨_, _, _, _, _, _, _, _, _, _, _, _, _, _, _, _, _, _, t, was, sv, rfl, rfl, hS, k2⟩
  · obtain ⟨ns, rfl⟩ : ∃ j, ns = j + 1 := ⟨ns - 1, by omega⟩
    have hz := (f 0 (by omega)).2.1
    obtain ⟨b, hb, hp⟩ := remove14_eq (g := M.2.1 0) (h := M.2.1 1) (x := M.2.1 2) (y := M.2.1 3) (k := M.2.1 4) hq b1
    obtain ⟨u, hu, u1, u2⟩ := drop31_eq (t := upd t 2 (nI ns)) (p := q) (ns := ns) (by omega) (by omega) upd_s
    have uo : ∀ j, j < 7 → ¬ j = 2 → u.2 j = t j := fun j j1 j2 => by rw [u2 j (Or.inl (by omega)), upd_o j2]
    have ut : u.2 2 = nI ns := by rw [u2 2 (Or.inl (by omega)), upd_s]
    obtain ⟨t', f', s', m', r', o', w', g1, g2, g3, g4⟩ := begin_RM (B := B) (t := u.2) (s := z 0) (ns := ns) (nc := nc) (w := M.1 1) (s_g := b.2.1) (s_h := b.2.2.1) (s_x := b.2.2.2.1) (s_y := b.2.2.2.2.1) (s_k := b.2.2.2.2.2) (c_c := M.2.1 5) (c_f := M.2.1 6) (c_s := M.2.1 7) (c_m := M.2.1 8) (c_r := M.2.1 9) (e_o := M.2.1 10) (we := M.2.2) hz a2 (by omega) b2 (by rw [uo 0 (by decide) (by decide), c1, a1]) (by rw [uo 1 (by decide) (by decide), c2]) ut (by rw [uo 3 (by decide) (by decide), c4, a5]) (fun i hi => by
      obtain ⟨r1, r2, r3, r4, r5⟩ := hp i (by omega)
      unfold SRel
      rw [r1, r2, r3, r4, r5]
      by_cases c : i < q
      · rw [if_pos c]
        obtain ⟨⟨q0, q1, q2, q3, q4⟩, q5, q6⟩ := d i (by omega)
        have v : ∀ j, 7 ≤ j → j < 7 + 5 * q → u.2 j = t j := fun j j1 j2 => by rw [u2 j (Or.inl j2), upd_o (by omega)]
        rw [v _ (by omega) (by omega), v _ (by omega) (by omega), v _ (by omega) (by omega), v _ (by omega) (by omega), v _ (by omega) (by omega)]
        exact ⟨⟨q0, q1, q2, q3, q4⟩, q5, q6⟩
      · rw [if_neg c]
        obtain ⟨⟨q0, q1, q2, q3, q4⟩, q5, q6⟩ := d (i + 1) (by omega)
        have v : ∀ j, j < 5 → u.2 (7 + 5 * i + j) = t (7 + 5 * (i + 1) + j) := fun j j1 => by rw [u1 _ (by omega) (by omega), upd_o (by omega), show 7 + 5 * i + j + 5 = 7 + 5 * (i + 1) + j by omega]
        have v0 := v 0 (by decide)
        rw [Nat.add_zero, Nat.add_zero] at v0
        rw [v0, v 1 (by decide), v 2 (by decide), v 3 (by decide), v 4 (by decide)]
        exact ⟨⟨q0, q1, q2, q3, q4⟩, q5, q6⟩) (fun c hc => ⟨by rw [u2 _ (Or.inr (by omega)), upd_o (by omega)]; exact (e c hc).1.1, (e c hc).2⟩)
    obtain ⟨h', K2, k5, k6⟩ := k4 (nI ns) (by rw [le_toInt, tI0, nI_toInt (by omega)]; omega)
    rw [e1, bd_some, if_neg i0ne1, nI1, hb, bd_some, nI_p, bd_some, if_neg (show ¬ nI ns < 0 from c_lt0 (by omega)), a1, a5, g2, bd_some, bd_some, k5, bd_some]
    rw [nI_p] at e2
    rw [e2, bd_some, show isB 1 = true by decide, gd_tr, bd_some, if_neg i0ne1, k3, bd_some, gd_tr, gd_tr, e5_7, hu, bd_some, g1, bd_some, gd_tr]
    exact ⟨_, _, _, _, _, _, _, _, _, _, _, _, _, _, _, _, _, _, t', was1, sv1, rfl, by rw [g3 2 (by decide), ut], g4, k6⟩
