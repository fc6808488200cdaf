theorem op_wrap {B : Nat} {t was : Nat → Int32} {sv h_n : Int32} {K : Nat → MS} {M : MS} (hM : RM B t M) (hH : RH B was sv h_n K) (p0 : Int32) :
    ∃ ans hn' a ru ro f s m r en o w K' t' was' sv', fX10_wrap h_n (M.1 0) (M.1 1) (M.1 2) (M.1 3) (M.1 4) (M.2.1 0) (M.2.1 1) (M.2.1 2) (M.2.1 3) (M.2.1 4) (M.1 5) (M.2.1 5) (M.2.1 6) (M.2.1 7) (M.2.1 8) (M.2.1 9) (M.1 6) (M.2.1 10) M.2.2 K p0 = some (ans, hn', a, ru, ro, f, s, m, r, en, o, w, K') ∧ fX11_wrap t was sv 0 p0 = some (ans, sv', t', was') ∧
    RM B t' (snap (M.1 0) a ru ro (M.1 4) (M.2.1 0) (M.2.1 1) (M.2.1 2) (M.2.1 3) (M.2.1 4) (M.1 5) (M.2.1 5) f s m r en o w) ∧ RH B was' sv' hn' K' := by
  obtain ⟨K1, k1, k2, was1, sv1, k3, k4⟩ := prep_eq hH hM.sn
  unfold fX10_wrap fX11_wrap
  rw [k1, bd_some]
  rcases in_01 p0 0 1 with ⟨e0, hd⟩ | ⟨e0, hd1, hd2⟩
  · rw [tI0, tI1] at hd
    unfold fX3_setWrap
    rw [if_neg (show ¬ p0 = 0 by rw [eq_toInt, tI0]; omega), if_neg (show ¬ p0 = 1 by rw [eq_toInt, tI1]; omega), bd_some, confirm_neg (show (-2 : Int32) < 0 by decide), bd_some, e0, bd_some, if_pos rfl]
    exact ⟨_, _, _, _, _, _, _, _, _, _, _, _, _, t, was, sv, rfl, rfl, hM.sn, k2⟩
  · rw [tI0] at hd1; rw [tI1] at hd2
    have hp : p0 = 0 ∨ p0 = 1 := by rw [eq_toInt, eq_toInt, tI0, tI1]; omega
    have ec : fX3_setWrap (M.1 0) (M.1 1) (M.1 2) (M.1 3) (M.1 5) (M.2.1 5) (M.2.1 6) (M.2.1 7) (M.2.1 8) (M.2.1 9) (M.1 6) (M.2.1 10) M.2.2 p0 = jX3_setWrap_12 (M.1 0) (M.1 1) (M.1 5) (M.2.1 5) (M.2.1 6) (M.2.1 7) (M.2.1 8) (M.2.1 9) (M.2.1 10) M.2.2 p0 := by
      unfold fX3_setWrap
      by_cases q : p0 = 0
      · rw [if_pos q]
      · rw [if_neg q, if_pos (hp.resolve_left q)]
    obtain ⟨ns, nc, n, R, z, r, ⟨a1, a2, a3, a4, a5, a6⟩, ⟨b1, b2, b3, b4, b5⟩, ⟨c1, c2, c3, c4, c5, c6, c7⟩, d, e, f, -⟩ := hM
    have hz := (f 0 (by omega)).2.1
    obtain ⟨t', f', s', m', r', o', w', g1, g2, g3, g4⟩ := begin_RM (B := B) (t := upd t 1 p0) (s := z 0) (ns := ns) (nc := nc) (w := p0) (s_g := M.2.1 0) (s_h := M.2.1 1) (s_x := M.2.1 2) (s_y := M.2.1 3) (s_k := M.2.1 4) (c_c := M.2.1 5) (c_f := M.2.1 6) (c_s := M.2.1 7) (c_m := M.2.1 8) (c_r := M.2.1 9) (e_o := M.2.1 10) (we := M.2.2) hz hp b1 b2 (by rw [upd_o (by decide), c1, a1]) upd_s (by rw [upd_o (by decide), c3, a4]) (by rw [upd_o (by decide), c4, a5]) (fun i hi => srel_o (Or.inl (by decide)) (by omega) (d i hi)) (fun c hc => ⟨by rw [upd_o (by omega)]; exact (e c hc).1.1, (e c hc).2⟩)
    have hw0 : 0 ≤ M.1 1 := by rcases a2 with q | q <;> rw [q] <;> decide
    obtain ⟨h', K2, k5, k6⟩ := k4 (M.1 1) hw0
    rw [ec]
    unfold jX3_setWrap_12
    rw [a1, a5, g2, bd_some, bd_some, k5, bd_some, e0, bd_some, if_neg i0ne1, k3, bd_some, show gi 1 1271 = true from gi1, gd_tr, gd_tr, ix1, g1, bd_some, c2]
    exact ⟨_, _, _, _, _, _, _, _, _, _, _, _, _, t', was1, sv1, rfl, rfl, by rw [a4]; exact g4, k6⟩
