/-! ===== the recording calls: the class keeps a list of pictures; the reference's row, quiet, says what the next picture is ===== -/
def HD (B : Nat) (L : List RW) (t t' : RW) (ans hn : Int32) (K : Nat → MS) : Prop := (ans < 0 ∧ t' = t ∧ HH B L hn K) ∨ (0 ≤ ans ∧ HH B (push L t) hn K)
theorem HD.n {B : Nat} {L : List RW} {t : RW} {ans hn : Int32} {K : Nat → MS} (h : HH B L hn K) (ha : ans < 0) : HD B L t t ans hn K := Or.inl ⟨ha, rfl, h⟩
theorem HD.p {B : Nat} {L : List RW} {t t' : RW} {ans hn : Int32} {K : Nat → MS} (h : HH B (push L t) hn K) (ha : 0 ≤ ans) : HD B L t t' ans hn K := Or.inr ⟨ha, h⟩
theorem H_start {B : Nat} {t : RW} {L : List RW} {h_n : Int32} {K : Nat → MS} {M : MS} (hM : RM B t M) (hH : HH B L h_n K) (p0 p1 p2 : Int32) :
    ∃ ans hn' a ru ro f s m r en o w K' t', fX10_start h_n (M.1 0) (M.1 1) (M.1 2) (M.1 3) (M.1 4) (M.2.1 0) (M.2.1 1) (M.2.1 2) (M.2.1 3) (M.2.1 4) (M.1 5) (M.2.1 5) (M.2.1 6) (M.2.1 7) (M.2.1 8) (M.2.1 9) (M.1 6) (M.2.1 10) M.2.2 K p0 p1 p2 = some (ans, hn', a, ru, ro, f, s, m, r, en, o, w, K') ∧ fX11_start t zR 0 1 p0 p1 p2 = some (ans, 0, t', zR) ∧
    RM B t' (snap a (M.1 1) ru ro (M.1 4) (M.2.1 0) (M.2.1 1) (M.2.1 2) (M.2.1 3) (M.2.1 4) (M.1 5) (M.2.1 5) f s m r en o w) ∧ HD B L t t' ans hn' K' := by
  obtain ⟨K1, k1, k2, k4⟩ := hprep hH hM.sn
  have k3 := quiet1 t
  unfold fX10_start
  rw [k1, bd_some]
  rcases start_eq hM p0 p1 p2 with ⟨hd, e⟩ | ⟨⟨d0, d1, d2⟩, hp, ht, a, t', f, s, m, r, o, w, g1, g2, g3⟩
  · rw [e, bd_some, confirm_neg (show (-2 : Int32) < 0 by decide), bd_some]
    refine ⟨_, _, _, _, _, _, _, _, _, _, _, _, _, t, rfl, ?_, hM.sn, .n k2 (show (-2 : Int32) < 0 by decide)⟩
    unfold fX11_start
    rcases in_01 p0 0 7 with ⟨e0, -⟩ | ⟨e0, -⟩
    · rw [e0, bd_some, if_pos rfl]
    rcases in_01 p1 0 7 with ⟨e1, -⟩ | ⟨e1, -⟩
    · rw [e0, e1, bd_some, if_neg i0ne1, bd_some, if_pos rfl]
    rcases in_01 p2 0 7 with ⟨e2, -⟩ | ⟨e2, -⟩
    · rw [e0, e1, e2, bd_some, if_neg i0ne1, bd_some, if_neg i0ne1, bd_some, if_pos rfl]
    exfalso
    rw [e0, e1, e2] at hd
    rcases hd with q | q | q <;> exact absurd q (by decide)
  · obtain ⟨h', K2, k5, k6⟩ := k4 (M.1 0) hp
    rw [g2, bd_some, k5, bd_some]
    refine ⟨_, _, _, _, _, _, _, _, _, _, _, _, _, t', rfl, ?_, g3, .p k6 hp⟩
    unfold fX11_start
    rw [d0, d1, d2, bd_some, if_neg i0ne1, bd_some, if_neg i0ne1, bd_some, if_neg i0ne1, k3, bd_some, gg0, gd_tr, gd_tr, ii0, g1, bd_some, ht]

theorem H_wrap {B : Nat} {t : RW} {L : List RW} {h_n : Int32} {K : Nat → MS} {M : MS} (hM : RM B t M) (hH : HH B L h_n K) (p0 : Int32) :
    ∃ ans hn' a ru ro f s m r en o w K' t', fX10_wrap h_n (M.1 0) (M.1 1) (M.1 2) (M.1 3) (M.1 4) (M.2.1 0) (M.2.1 1) (M.2.1 2) (M.2.1 3) (M.2.1 4) (M.1 5) (M.2.1 5) (M.2.1 6) (M.2.1 7) (M.2.1 8) (M.2.1 9) (M.1 6) (M.2.1 10) M.2.2 K p0 = some (ans, hn', a, ru, ro, f, s, m, r, en, o, w, K') ∧ fX11_wrap t zR 0 1 p0 = some (ans, 0, t', zR) ∧
    RM B t' (snap (M.1 0) a ru ro (M.1 4) (M.2.1 0) (M.2.1 1) (M.2.1 2) (M.2.1 3) (M.2.1 4) (M.1 5) (M.2.1 5) f s m r en o w) ∧ HD B L t t' ans hn' K' := by
  obtain ⟨K1, k1, k2, k4⟩ := hprep hH hM.sn
  have k3 := quiet1 t
  unfold fX10_wrap fX11_wrap
  rw [k1, bd_some]
  rcases in_01 p0 0 1 with ⟨e0, hd⟩ | ⟨e0, hd1, hd2⟩
  · rw [tI0, tI1] at hd
    unfold fX3_setWrap
    rw [if_neg (show ¬ p0 = 0 by rw [eq_toInt, tI0]; omega), if_neg (show ¬ p0 = 1 by rw [eq_toInt, tI1]; omega), bd_some, confirm_neg (show (-2 : Int32) < 0 by decide), bd_some, e0, bd_some, if_pos rfl]
    exact ⟨_, _, _, _, _, _, _, _, _, _, _, _, _, t, rfl, rfl, hM.sn, .n k2 (show (-2 : Int32) < 0 by decide)⟩
  · rw [tI0] at hd1; rw [tI1] at hd2
    have hp : p0 = 0 ∨ p0 = 1 := by rw [eq_toInt, eq_toInt, tI0, tI1]; omega
    have ec : fX3_setWrap (M.1 0) (M.1 1) (M.1 2) (M.1 3) (M.1 5) (M.2.1 5) (M.2.1 6) (M.2.1 7) (M.2.1 8) (M.2.1 9) (M.1 6) (M.2.1 10) M.2.2 p0 = jX3_setWrap_12 (M.1 0) (M.1 1) (M.1 5) (M.2.1 5) (M.2.1 6) (M.2.1 7) (M.2.1 8) (M.2.1 9) (M.2.1 10) M.2.2 p0 := by
      unfold fX3_setWrap
      by_cases q : p0 = 0
      · rw [if_pos q]
      · rw [if_neg q, if_pos (hp.resolve_left q)]
    obtain ⟨ns, nc, n, R, z, r, ⟨a1, a2, a3, a4, a5, a6⟩, ⟨b1, b2, b3, b4, b5⟩, ⟨c1, c2, c3, c4, c5, c6, c7⟩, d, e, f, -⟩ := hM
    have hz := (f 0 (by omega)).2.1
    obtain ⟨t', f', s', m', r', o', w', g1, g2, g3, g4⟩ := begin_RM (B := B) (t := upd t 1 p0) (s := z 0) (ns := ns) (nc := nc) (w := p0) (s_g := M.2.1 0) (s_h := M.2.1 1) (s_x := M.2.1 2) (s_y := M.2.1 3) (s_k := M.2.1 4) (c_c := M.2.1 5) (c_f := M.2.1 6) (c_s := M.2.1 7) (c_m := M.2.1 8) (c_r := M.2.1 9) (e_o := M.2.1 10) (we := M.2.2) hz hp b1 b2 (by rw [upd_o (by decide), c1, a1]) upd_s (by rw [upd_o (by decide), c3, a4]) (by rw [upd_o (by decide), c4, a5]) (fun i hi => srel_o (Or.inl (by decide)) (by omega) (d i hi)) (fun c hc => ⟨by rw [upd_o (by omega)]; exact (e c hc).1.1, (e c hc).2⟩)
    have hw0 : 0 ≤ M.1 1 := by rcases a2 with q | q <;> rw [q] <;> decide
    obtain ⟨h', K2, k5, k6⟩ := k4 (M.1 1) hw0
    rw [ec]
    unfold jX3_setWrap_12
    rw [a1, a5, g2, bd_some, bd_some, k5, bd_some, e0, bd_some, if_neg i0ne1, k3, bd_some, show gi 1 1271 = true from gi1, gd_tr, gd_tr, ix1, g1, bd_some, c2]
    exact ⟨_, _, _, _, _, _, _, _, _, _, _, _, _, t', rfl, rfl, by rw [a4]; exact g4, .p k6 hw0⟩

theorem H_step {B : Nat} {t : RW} {L : List RW} {h_n : Int32} {K : Nat → MS} {M : MS} (hM : RM B t M) (hH : HH B L h_n K) (p0 p1 p2 p3 p4 : Int32) :
    ∃ ans hn' ru ro sn sg sh sx sy sk f s m r en o w K' t', fX10_step h_n (M.1 0) (M.1 1) (M.1 2) (M.1 3) (M.1 4) (M.2.1 0) (M.2.1 1) (M.2.1 2) (M.2.1 3) (M.2.1 4) (M.1 5) (M.2.1 5) (M.2.1 6) (M.2.1 7) (M.2.1 8) (M.2.1 9) (M.1 6) (M.2.1 10) M.2.2 K p0 p1 p2 p3 p4 = some (ans, hn', ru, ro, sn, sg, sh, sx, sy, sk, f, s, m, r, en, o, w, K') ∧ fX11_step t zR 0 1 p0 p1 p2 p3 p4 = some (ans, 0, t', zR) ∧
    RM B t' (snap (M.1 0) (M.1 1) ru ro sn sg sh sx sy sk (M.1 5) (M.2.1 5) f s m r en o w) ∧ HD B L t t' ans hn' K' := by
  obtain ⟨K1, k1, k2, k4⟩ := hprep hH hM.sn
  have k3 := quiet1 t
  have hM0 := hM
  obtain ⟨ns, nc, n, R, z, r, ⟨a1, a2, a3, a4, a5, a6⟩, ⟨b1, b2, b3, b4, b5⟩, ⟨c1, c2, c3, c4, c5, c6, c7⟩, d, e, f, -⟩ := hM0
  obtain ⟨v, v1, v2, v3⟩ := act_eq p1 p2 p3 p4
  unfold fX10_step fX3_addStep
  rw [k1, bd_some]
  by_cases hb : vc p0 = false ∨ v = false
  · rw [add8_bad v1 hb, bd_some, if_pos (show (-2 : Int32) < 0 by decide), bd_some, confirm_neg (show (-2 : Int32) < 0 by decide), bd_some]
    refine ⟨_, _, _, _, _, _, _, _, _, _, _, _, _, _, _, _, _, _, t, rfl, ?_, hM.sn, .n k2 (show (-2 : Int32) < 0 by decide)⟩
    unfold fX11_step
    rw [isCode_01, bd_some]
    by_cases hg : vc p0 = true
    · rw [hg, if_neg (by decide : ¬ b2i true = 0), v2, bd_some]
      rcases hb with q | q
      · rw [hg] at q; exact absurd q (by decide)
      · rw [q, if_pos (by decide : b2i false = 0)]
    · have : vc p0 = false := by simpa using hg
      rw [this, if_pos (by decide : b2i false = 0)]
  have hg : vc p0 = true := by
    cases q : vc p0
    · exact absurd (Or.inl q) hb
    · rfl
  have hv : v = true := by
    cases q : v
    · exact absurd (Or.inr q) hb
    · rfl
  subst hv
  by_cases h8 : ns = 8
  · subst h8
    have hS := hM.sn
    rw [a4] at hS ⊢
    rw [add8_full v1 hg, bd_some, if_pos (show (-4 : Int32) < 0 by decide), bd_some, confirm_neg (show (-4 : Int32) < 0 by decide), bd_some]
    refine ⟨_, _, _, _, _, _, _, _, _, _, _, _, _, _, _, _, _, _, t, rfl, ?_, hS, .n k2 (show (-4 : Int32) < 0 by decide)⟩
    unfold fX11_step
    rw [isCode_01, bd_some, hg, if_neg (by decide : ¬ b2i true = 0), v2, bd_some, if_neg (by decide : ¬ b2i true = 0), gg2, gd_tr, ii2, c3, a4, if_pos (show nI 8 = (8 : Int32) from rfl)]
  · have hn8 : ns < 8 := by omega
    have hz := (f 0 (by omega)).2.1
    have tm : ∀ j, j < 7 → ¬ j = 2 → mStep t ns p0 p1 p2 p3 p4 j = t j := fun j j1 j2 => by
      unfold mStep
      rw [upd_o j2, upd_o (by omega), upd_o (by omega), upd_o (by omega), upd_o (by omega), upd_o (by omega)]
    obtain ⟨t', f', s', m', r', o', w', g1, g2, g3, g4⟩ := begin_RM (B := B) (t := mStep t ns p0 p1 p2 p3 p4) (s := z 0) (ns := ns + 1) (nc := nc) (w := M.1 1) (s_g := upd (M.2.1 0) ns p0) (s_h := upd (M.2.1 1) ns p1) (s_x := upd (M.2.1 2) ns p2) (s_y := upd (M.2.1 3) ns p3) (s_k := upd (M.2.1 4) ns p4) (c_c := M.2.1 5) (c_f := M.2.1 6) (c_s := M.2.1 7) (c_m := M.2.1 8) (c_r := M.2.1 9) (e_o := M.2.1 10) (we := M.2.2) hz a2 (by omega) b2 (by rw [tm 0 (by decide) (by decide), c1, a1]) (by rw [tm 1 (by decide) (by decide), c2]) upd_s (by rw [tm 3 (by decide) (by decide), c4, a5]) (fun i hi => by
      by_cases q : i = ns
      · subst q; exact srel_new (vc_lt hg) (v3 rfl)
      · exact srel_old (by omega) (d i (by omega))) (fun c hc => ⟨by
        show upd _ 2 _ _ = _
        rw [upd_o (by omega), upd_o (by omega), upd_o (by omega), upd_o (by omega), upd_o (by omega), upd_o (by omega)]; exact (e c hc).1.1, (e c hc).2⟩)
    have hpos : 0 ≤ nI ns := by rw [le_toInt, tI0, nI_toInt (by omega)]; omega
    obtain ⟨h', K2, k5, k6⟩ := k4 (nI ns) hpos
    rw [a4, add8_ok hn8 v1 hg, bd_some, if_neg (show ¬ nI ns < 0 from c_lt0 (by omega)), a1, a5, g2, bd_some, bd_some, k5, bd_some, mstep_q hn8 (by rw [c3, a4]) hg v2 zR 0 1, k3, bd_some, g1, bd_some]
    exact ⟨_, _, _, _, _, _, _, _, _, _, _, _, _, _, _, _, _, _, t', rfl, rfl, g4, .p k6 hpos⟩

theorem H_drop {B : Nat} {t : RW} {L : List RW} {h_n : Int32} {K : Nat → MS} {M : MS} (hM : RM B t M) (hH : HH B L h_n K) (p0 : Int32) :
    ∃ ans hn' ru ro sn sg sh sx sy sk f s m r en o w K' t', fX10_drop h_n (M.1 0) (M.1 1) (M.1 2) (M.1 3) (M.1 4) (M.2.1 0) (M.2.1 1) (M.2.1 2) (M.2.1 3) (M.2.1 4) (M.1 5) (M.2.1 5) (M.2.1 6) (M.2.1 7) (M.2.1 8) (M.2.1 9) (M.1 6) (M.2.1 10) M.2.2 K p0 = some (ans, hn', ru, ro, sn, sg, sh, sx, sy, sk, f, s, m, r, en, o, w, K') ∧ fX11_drop t zR 0 1 p0 = some (ans, 0, t', zR) ∧
    RM B t' (snap (M.1 0) (M.1 1) ru ro sn sg sh sx sy sk (M.1 5) (M.2.1 5) f s m r en o w) ∧ HD B L t t' ans hn' K' := by
  obtain ⟨K1, k1, k2, k4⟩ := hprep hH hM.sn
  have k3 := quiet1 t
  have hM0 := hM
  obtain ⟨ns, nc, n, R, z, r, ⟨a1, a2, a3, a4, a5, a6⟩, ⟨b1, b2, b3, b4, b5⟩, ⟨c1, c2, c3, c4, c5, c6, c7⟩, d, e, f, -⟩ := hM0
  have hS := hM.sn
  unfold fX10_drop fX3_removeStep fX8_remove fX11_drop fX11_isStep
  rw [k1, bd_some, gg2, gd_tr, ii2, c3]
  rw [a4] at hS ⊢
  rcases has8_eq b1 p0 with ⟨e1, e2⟩ | ⟨e1, e2, q, hq, rfl⟩
  · rw [e1, bd_some, if_pos (show (0 : Int32) = 0 from rfl), bd_some, if_pos (show (-1 : Int32) < 0 by decide), bd_some, confirm_neg (show (-1 : Int32) < 0 by decide), bd_some, e2, bd_some]
    exact ⟨_, _, _, _, _, _, _, _, _, _, _, _, _, _, _, _, _, _, t, rfl, rfl, hS, .n k2 (show (-1 : Int32) < 0 by decide)⟩
  · obtain ⟨ns, rfl⟩ : ∃ j, ns = j + 1 := ⟨ns - 1, by omega⟩
    have hz := (f 0 (by omega)).2.1
    obtain ⟨b, hb, hp⟩ := remove14_eq (g := M.2.1 0) (h := M.2.1 1) (x := M.2.1 2) (y := M.2.1 3) (k := M.2.1 4) hq b1
    obtain ⟨u, hu, u1, u2⟩ := drop31_eq (t := upd t 2 (nI ns)) (p := q) (ns := ns) (by omega) (by omega) upd_s
    have uo : ∀ j, j < 7 → ¬ j = 2 → u.2 j = t j := fun j j1 j2 => by rw [u2 j (Or.inl (by omega)), upd_o j2]
    have ut : u.2 2 = nI ns := by rw [u2 2 (Or.inl (by omega)), upd_s]
    obtain ⟨t', f', s', m', r', o', w', g1, g2, g3, g4⟩ := begin_RM (B := B) (t := u.2) (s := z 0) (ns := ns) (nc := nc) (w := M.1 1) (s_g := b.2.1) (s_h := b.2.2.1) (s_x := b.2.2.2.1) (s_y := b.2.2.2.2.1) (s_k := b.2.2.2.2.2) (c_c := M.2.1 5) (c_f := M.2.1 6) (c_s := M.2.1 7) (c_m := M.2.1 8) (c_r := M.2.1 9) (e_o := M.2.1 10) (we := M.2.2) hz a2 (by omega) b2 (by rw [uo 0 (by decide) (by decide), c1, a1]) (by rw [uo 1 (by decide) (by decide), c2]) ut (by rw [uo 3 (by decide) (by decide), c4, a5]) (fun i hi => by
      obtain ⟨r1, r2, r3, r4, r5⟩ := hp i (by omega)
      unfold SRel
      rw [r1, r2, r3, r4, r5]
      by_cases c : i < q
      · rw [if_pos c]
        obtain ⟨⟨q0, q1, q2, q3, q4⟩, q5, q6⟩ := d i (by omega)
        have v : ∀ j, 7 ≤ j → j < 7 + 5 * q → u.2 j = t j := fun j j1 j2 => by rw [u2 j (Or.inl j2), upd_o (by omega)]
        rw [v _ (by omega) (by omega), v _ (by omega) (by omega), v _ (by omega) (by omega), v _ (by omega) (by omega), v _ (by omega) (by omega)]
        exact ⟨⟨q0, q1, q2, q3, q4⟩, q5, q6⟩
      · rw [if_neg c]
        obtain ⟨⟨q0, q1, q2, q3, q4⟩, q5, q6⟩ := d (i + 1) (by omega)
        have v : ∀ j, j < 5 → u.2 (7 + 5 * i + j) = t (7 + 5 * (i + 1) + j) := fun j j1 => by rw [u1 _ (by omega) (by omega), upd_o (by omega), show 7 + 5 * i + j + 5 = 7 + 5 * (i + 1) + j by omega]
        have v0 := v 0 (by decide)
        rw [Nat.add_zero, Nat.add_zero] at v0
        rw [v0, v 1 (by decide), v 2 (by decide), v 3 (by decide), v 4 (by decide)]
        exact ⟨⟨q0, q1, q2, q3, q4⟩, q5, q6⟩) (fun c hc => ⟨by rw [u2 _ (Or.inr (by omega)), upd_o (by omega)]; exact (e c hc).1.1, (e c hc).2⟩)
    have hpos : 0 ≤ nI ns := by rw [le_toInt, tI0, nI_toInt (by omega)]; omega
    obtain ⟨h', K2, k5, k6⟩ := k4 (nI ns) hpos
    rw [e1, bd_some, if_neg i0ne1, nI1, hb, bd_some, nI_p, bd_some, if_neg (show ¬ nI ns < 0 from c_lt0 (by omega)), a1, a5, g2, bd_some, bd_some, k5, bd_some]
    rw [nI_p] at e2
    rw [e2, bd_some, show isB 1 = true by decide, gd_tr, bd_some, if_neg i0ne1, k3, bd_some, gd_tr, gd_tr, e5_7, hu, bd_some, g1, bd_some, gd_tr]
    exact ⟨_, _, _, _, _, _, _, _, _, _, _, _, _, _, _, _, _, _, t', rfl, by rw [g3 2 (by decide), ut], g4, .p k6 hpos⟩

theorem H_candidate {B : Nat} {t : RW} {L : List RW} {h_n : Int32} {K : Nat → MS} {M : MS} (hB : B < 4000000) (hM : RM B t M) (hH : HH B L h_n K) (p0 : Int32) :
    ∃ ans hn' cn cc f s m r K' t', fX10_candidate h_n (M.1 0) (M.1 1) (M.1 2) (M.1 3) (M.1 4) (M.2.1 0) (M.2.1 1) (M.2.1 2) (M.2.1 3) (M.2.1 4) (M.1 5) (M.2.1 5) (M.2.1 6) (M.2.1 7) (M.2.1 8) (M.2.1 9) (M.1 6) (M.2.1 10) M.2.2 K p0 = some (ans, hn', cn, cc, f, s, m, r, K') ∧ fX11_candidate t zR 0 1 p0 = some (ans, 0, t', zR) ∧
    RM B t' (snap (M.1 0) (M.1 1) (M.1 2) (M.1 3) (M.1 4) (M.2.1 0) (M.2.1 1) (M.2.1 2) (M.2.1 3) (M.2.1 4) cn cc f s m r (M.1 6) (M.2.1 10) M.2.2) ∧ HD B L t t' ans hn' K' := by
  obtain ⟨K1, k1, k2, k4⟩ := hprep hH hM.sn
  have k3 := quiet1 t
  unfold fX10_candidate
  rw [k1, bd_some]
  rcases cand_both hB hM.sn p0 with ⟨ans, hneg, e1, e2⟩ | ⟨ans, cn', cc', f, s, m, r, t', hpos, e1, e2, e3⟩
  · rw [e1, bd_some, confirm_neg hneg, bd_some]
    exact ⟨_, _, _, _, _, _, _, _, _, t, rfl, e2 zR 0 1, hM.sn, .n k2 hneg⟩
  · obtain ⟨h', K2, k5, k6⟩ := k4 ans hpos
    rw [e1, bd_some, k5, bd_some, e3, k3, bd_some]
    exact ⟨_, _, _, _, _, _, _, _, _, _, rfl, rfl, e2, .p k6 hpos⟩

theorem H_guess {B : Nat} {t : RW} {L : List RW} {h_n : Int32} {K : Nat → MS} {M : MS} (hB : B < 4000000) (hM : RM B t M) (hH : HH B L h_n K) (p0 : Int32) :
    ∃ ans hn' cn cc f s m r K' t', fX10_guess h_n (M.1 0) (M.1 1) (M.1 2) (M.1 3) (M.1 4) (M.2.1 0) (M.2.1 1) (M.2.1 2) (M.2.1 3) (M.2.1 4) (M.1 5) (M.2.1 5) (M.2.1 6) (M.2.1 7) (M.2.1 8) (M.2.1 9) (M.1 6) (M.2.1 10) M.2.2 K p0 = some (ans, hn', cn, cc, f, s, m, r, K') ∧ fX11_guess t zR 0 1 p0 = some (ans, 0, t', zR) ∧
    RM B t' (snap (M.1 0) (M.1 1) (M.1 2) (M.1 3) (M.1 4) (M.2.1 0) (M.2.1 1) (M.2.1 2) (M.2.1 3) (M.2.1 4) cn cc f s m r (M.1 6) (M.2.1 10) M.2.2) ∧ HD B L t t' ans hn' K' := by
  obtain ⟨K1, k1, k2, k4⟩ := hprep hH hM.sn
  have k3 := quiet1 t
  unfold fX10_guess fX11_guess fX3_addGuesses
  rw [k1, bd_some]
  rcases in_19 p0 with ⟨e, h⟩ | ⟨e, h1, h2, q, hq, rfl⟩
  · have : (if p0 < (1 : Int32) then some ((-2 : Int32), M.1 5, M.2.1 5, M.2.1 6, M.2.1 7, M.2.1 8, M.2.1 9) else if p0 ≤ (9 : Int32) then bd (iter (gX3_addGuesses_25 (M.1 0) (M.1 6) (M.2.1 10) p0) FU ((0 : Int32), (135 : Int32) * p0, M.1 5, M.2.1 5, M.2.1 6, M.2.1 7, M.2.1 8, M.2.1 9)) fun b_25 : GA => some (b_25.1, b_25.2.2.1, b_25.2.2.2.1, b_25.2.2.2.2.1, b_25.2.2.2.2.2.1, b_25.2.2.2.2.2.2.1, b_25.2.2.2.2.2.2.2) else some ((-2 : Int32), M.1 5, M.2.1 5, M.2.1 6, M.2.1 7, M.2.1 8, M.2.1 9)) = some ((-2 : Int32), M.1 5, M.2.1 5, M.2.1 6, M.2.1 7, M.2.1 8, M.2.1 9) := by
      rcases h with h | ⟨h1, h2⟩
      · rw [if_pos h]
      · rw [if_neg h1, if_neg h2]
    rw [this, bd_some, confirm_neg (show (-2 : Int32) < 0 by decide), bd_some, e, bd_some, if_pos rfl]
    exact ⟨_, _, _, _, _, _, _, _, _, t, rfl, rfl, hM.sn, .n k2 (show (-2 : Int32) < 0 by decide)⟩
  · obtain ⟨b, b', g1, g2, g3, g4, g5⟩ := guess_loop hB hM.sn hq
    obtain ⟨h', K2, k5, k6⟩ := k4 b.1 g4
    rw [if_neg h1, if_pos h2, g1, bd_some, bd_some, k5, bd_some, e, bd_some, if_neg i0ne1, k3, bd_some, g2, bd_some, g3]
    exact ⟨_, _, _, _, _, _, _, _, _, _, rfl, rfl, g5, .p k6 g4⟩

theorem H_run {B : Nat} {t : RW} {L : List RW} {h_n : Int32} {K : Nat → MS} {M : MS} (hB : B < 4000000) (hM : RM B t M) (hH : HH B L h_n K) (p0 p1 : Int32) :
    ∃ ans hn' ru f s m r en o w K' t', fX10_run h_n (M.1 0) (M.1 1) (M.1 2) (M.1 3) (M.1 4) (M.2.1 0) (M.2.1 1) (M.2.1 2) (M.2.1 3) (M.2.1 4) (M.1 5) (M.2.1 5) (M.2.1 6) (M.2.1 7) (M.2.1 8) (M.2.1 9) (M.1 6) (M.2.1 10) M.2.2 K p0 p1 = some (ans, hn', ru, f, s, m, r, en, o, w, K') ∧ fX11_run t zR 0 1 p0 p1 = some (ans, 0, t', zR) ∧
    RM (B + 1) t' (snap (M.1 0) (M.1 1) ru (M.1 3) (M.1 4) (M.2.1 0) (M.2.1 1) (M.2.1 2) (M.2.1 3) (M.2.1 4) (M.1 5) (M.2.1 5) f s m r en o w) ∧ HD (B + 1) L t t' ans hn' K' := by
  obtain ⟨K1, k1, k2, k4⟩ := hprep hH hM.sn
  have k3 := quiet1 t
  unfold fX10_run
  rw [k1, bd_some]
  rcases run_both hB hM.sn p0 p1 with ⟨ans, hneg, e1, e2⟩ | ⟨ans, ru', f, s, m, r, en', eo', we', t', hpos, e1, e2, e3⟩
  · rw [e1, bd_some, confirm_neg hneg, bd_some]
    exact ⟨_, _, _, _, _, _, _, _, _, _, _, t, rfl, e2 zR 0 1, hM.sn.up (by omega), .n (k2.up (by omega)) hneg⟩
  · obtain ⟨h', K2, k5, k6⟩ := k4 ans hpos
    rw [e1, bd_some, k5, bd_some, e3, k3, bd_some]
    exact ⟨_, _, _, _, _, _, _, _, _, _, _, _, rfl, rfl, e2, Or.inr ⟨hpos, k6.up (by omega)⟩⟩

theorem H_strike {B : Nat} {t : RW} {L : List RW} {h_n : Int32} {K : Nat → MS} {M : MS} (hM : RM B t M) (hH : HH B L h_n K) (wl : Nat → Int64) (al : Nat → Int32) :
    ∃ ans hn' ro f s m r W K' t' al', fX10_strike h_n (M.1 0) (M.1 1) (M.1 2) (M.1 3) (M.1 4) (M.2.1 0) (M.2.1 1) (M.2.1 2) (M.2.1 3) (M.2.1 4) (M.1 5) (M.2.1 5) (M.2.1 6) (M.2.1 7) (M.2.1 8) (M.2.1 9) (M.1 6) (M.2.1 10) M.2.2 wl K = some (ans, hn', ro, f, s, m, r, W, K') ∧ fX11_strike t zR 0 1 al = some (ans, 0, t', zR, al') ∧
    RM B t' (snap (M.1 0) (M.1 1) (M.1 2) ro (M.1 4) (M.2.1 0) (M.2.1 1) (M.2.1 2) (M.2.1 3) (M.2.1 4) (M.1 5) (M.2.1 5) f s m r (M.1 6) (M.2.1 10) M.2.2) ∧ HD B L t t' ans hn' K' := by
  obtain ⟨K1, k1, k2, k4⟩ := hprep hH hM.sn
  have k3 := quiet1 t
  obtain ⟨ns, nc, e4, e5, S, C⟩ := hM.ok
  have hS := hM.sn
  rw [e5] at hS
  obtain ⟨v, ro', f, s, m, r, W, t', al', hv, g1, g2, g3, -, -⟩ := round_both hS C.1 wl al
  have hpos : 0 ≤ nI v := by rw [le_toInt, tI0, nI_toInt (by omega)]; omega
  obtain ⟨h', K2, k5, k6⟩ := k4 (nI v) hpos
  unfold fX10_strike fX11_strike
  rw [k1, bd_some, k3, bd_some, g2, bd_some, e5, g1, bd_some, k5, bd_some]
  exact ⟨_, _, _, _, _, _, _, _, _, _, _, rfl, rfl, g3, .p k6 hpos⟩
theorem H_settle {B : Nat} {t : RW} {L : List RW} {h_n : Int32} {K : Nat → MS} {M : MS} (hM : RM B t M) (hH : HH B L h_n K) (wl : Nat → Int64) (al : Nat → Int32) :
    ∃ ans hn' ro f s m r W K' t' al', fX10_settle h_n (M.1 0) (M.1 1) (M.1 2) (M.1 3) (M.1 4) (M.2.1 0) (M.2.1 1) (M.2.1 2) (M.2.1 3) (M.2.1 4) (M.1 5) (M.2.1 5) (M.2.1 6) (M.2.1 7) (M.2.1 8) (M.2.1 9) (M.1 6) (M.2.1 10) M.2.2 wl K = some (ans, hn', ro, f, s, m, r, W, K') ∧ fX11_settle t zR 0 1 al = some (ans, 0, t', zR, al') ∧
    RM B t' (snap (M.1 0) (M.1 1) (M.1 2) ro (M.1 4) (M.2.1 0) (M.2.1 1) (M.2.1 2) (M.2.1 3) (M.2.1 4) (M.1 5) (M.2.1 5) f s m r (M.1 6) (M.2.1 10) M.2.2) ∧ HD B L t t' ans hn' K' := by
  obtain ⟨K1, k1, k2, k4⟩ := hprep hH hM.sn
  have k3 := quiet1 t
  obtain ⟨ns, nc, e4, e5, S, C⟩ := hM.ok
  have hS := hM.sn
  rw [e5] at hS
  obtain ⟨b, b', g1, g2, g3, g4, g5⟩ := settle_both hS C.1 wl al
  obtain ⟨h', K2, k5, k6⟩ := k4 b.1 g4
  unfold fX10_settle fX11_settle
  rw [k1, bd_some, k3, bd_some, g2, bd_some, e5, g1, bd_some, k5, bd_some, g3]
  exact ⟨_, _, _, _, _, _, _, _, _, _, _, rfl, rfl, g5, .p k6 g4⟩

