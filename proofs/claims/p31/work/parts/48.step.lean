theorem add8_bad {s_n : Int32} {s_g s_h s_x s_y s_k : Nat → Int32} {g h x y k : Int32} {v : Bool} (ha : fX8_isAction h x y k = some (b2i v)) (hb : vc g = false ∨ v = false) : fX8_add s_n s_g s_h s_x s_y s_k g h x y k = some (-2, s_n, s_g, s_h, s_x, s_y, s_k) := by
  unfold fX8_add
  rw [isCode_eq, bd_some]
  by_cases hg : vc g = true
  · rw [hg, if_neg (by decide : ¬ b2i true = 0), ha, bd_some]
    rcases hb with q | q
    · rw [hg] at q; exact absurd q (by decide)
    · rw [q, if_pos (by decide : b2i false = 0)]
  · have : vc g = false := by simpa using hg
    rw [this, if_pos (by decide : b2i false = 0)]
theorem add8_full {s_g s_h s_x s_y s_k : Nat → Int32} {g h x y k : Int32} (ha : fX8_isAction h x y k = some (b2i true)) (hg : vc g = true) : fX8_add (nI 8) s_g s_h s_x s_y s_k g h x y k = some (-4, nI 8, s_g, s_h, s_x, s_y, s_k) := by
  unfold fX8_add
  rw [isCode_eq, bd_some, hg, if_neg (by decide : ¬ b2i true = 0), ha, bd_some, if_neg (by decide : ¬ b2i true = 0), if_neg (by decide)]
theorem add8_ok {s_g s_h s_x s_y s_k : Nat → Int32} {g h x y k : Int32} {ns : Nat} (hn : ns < 8) (ha : fX8_isAction h x y k = some (b2i true)) (hg : vc g = true) : fX8_add (nI ns) s_g s_h s_x s_y s_k g h x y k = some (nI ns, nI (ns + 1), upd s_g ns g, upd s_h ns h, upd s_x ns x, upd s_y ns y, upd s_k ns k) := by
  unfold fX8_add
  have gz : ∀ q : Option (Int32 × Int32 × (Nat → Int32) × (Nat → Int32) × (Nat → Int32) × (Nat → Int32) × (Nat → Int32)), gd (gi (nI ns) 8) q = q := fun q => gd_nI hn (by decide)
  rw [isCode_eq, bd_some, hg, if_neg (by decide : ¬ b2i true = 0), ha, bd_some, if_neg (by decide : ¬ b2i true = 0), if_pos (show nI ns < (8 : Int32) by rw [lt_toInt, nI_toInt (by omega), tI8]; omega), gz, gz, gz, gz, gz, ixn (by omega), nI1, nI_p]
theorem op_step {B : Nat} {t was : Nat → Int32} {sv h_n : Int32} {K : Nat → MS} {M : MS} (hM : RM B t M) (hH : RH B was sv h_n K) (p0 p1 p2 p3 p4 : Int32) :
    ∃ ans hn' ru ro sn sg sh sx sy sk f s m r en o w K' t' was' sv', fX10_step h_n (M.1 0) (M.1 1) (M.1 2) (M.1 3) (M.1 4) (M.2.1 0) (M.2.1 1) (M.2.1 2) (M.2.1 3) (M.2.1 4) (M.1 5) (M.2.1 5) (M.2.1 6) (M.2.1 7) (M.2.1 8) (M.2.1 9) (M.1 6) (M.2.1 10) M.2.2 K p0 p1 p2 p3 p4 = some (ans, hn', ru, ro, sn, sg, sh, sx, sy, sk, f, s, m, r, en, o, w, K') ∧ fX11_step t was sv 0 p0 p1 p2 p3 p4 = some (ans, sv', t', was') ∧
    RM B t' (snap (M.1 0) (M.1 1) ru ro sn sg sh sx sy sk (M.1 5) (M.2.1 5) f s m r en o w) ∧ RH B was' sv' hn' K' := by
  obtain ⟨K1, k1, k2, was1, sv1, k3, k4⟩ := prep_eq hH hM.sn
  have hM0 := hM
  obtain ⟨ns, nc, n, R, z, r, ⟨a1, a2, a3, a4, a5, a6⟩, ⟨b1, b2, b3, b4, b5⟩, ⟨c1, c2, c3, c4, c5, c6, c7⟩, d, e, f, -⟩ := hM0
  obtain ⟨v, v1, v2, v3⟩ := act_eq p1 p2 p3 p4
  unfold fX10_step fX3_addStep
  rw [k1, bd_some]
  by_cases hb : vc p0 = false ∨ v = false
  · rw [add8_bad v1 hb, bd_some, if_pos (show (-2 : Int32) < 0 by decide), bd_some, confirm_neg (show (-2 : Int32) < 0 by decide), bd_some]
    refine ⟨_, _, _, _, _, _, _, _, _, _, _, _, _, _, _, _, _, _, t, was, sv, rfl, ?_, hM.sn, k2⟩
    unfold fX11_step
    rw [isCode_01, bd_some]
    by_cases hg : vc p0 = true
    · rw [hg, if_neg (by decide : ¬ b2i true = 0), v2, bd_some]
      rcases hb with q | q
      · rw [hg] at q; exact absurd q (by decide)
      · rw [q, if_pos (by decide : b2i false = 0)]
    · have : vc p0 = false := by simpa using hg
      rw [this, if_pos (by decide : b2i false = 0)]
  have hg : vc p0 = true := by
    cases q : vc p0
    · exact absurd (Or.inl q) hb
    · rfl
  have hv : v = true := by
    cases q : v
    · exact absurd (Or.inr q) hb
    · rfl
  subst hv
  by_cases h8 : ns = 8
  · subst h8
    have hS := hM.sn
    rw [a4] at hS ⊢
    rw [add8_full v1 hg, bd_some, if_pos (show (-4 : Int32) < 0 by decide), bd_some, confirm_neg (show (-4 : Int32) < 0 by decide), bd_some]
    refine ⟨_, _, _, _, _, _, _, _, _, _, _, _, _, _, _, _, _, _, t, was, sv, rfl, ?_, hS, k2⟩
    unfold fX11_step
    rw [isCode_01, bd_some, hg, if_neg (by decide : ¬ b2i true = 0), v2, bd_some, if_neg (by decide : ¬ b2i true = 0), gg2, gd_tr, ii2, c3, a4, if_pos (show nI 8 = (8 : Int32) from rfl)]
  · have hn8 : ns < 8 := by omega
    have hz := (f 0 (by omega)).2.1
    have tm : ∀ j, j < 7 → ¬ j = 2 → mStep t ns p0 p1 p2 p3 p4 j = t j := fun j j1 j2 => by
      unfold mStep
      rw [upd_o j2, upd_o (by omega), upd_o (by omega), upd_o (by omega), upd_o (by omega), upd_o (by omega)]
    obtain ⟨t', f', s', m', r', o', w', g1, g2, g3, g4⟩ := begin_RM (B := B) (t := mStep t ns p0 p1 p2 p3 p4) (s := z 0) (ns := ns + 1) (nc := nc) (w := M.1 1) (s_g := upd (M.2.1 0) ns p0) (s_h := upd (M.2.1 1) ns p1) (s_x := upd (M.2.1 2) ns p2) (s_y := upd (M.2.1 3) ns p3) (s_k := upd (M.2.1 4) ns p4) (c_c := M.2.1 5) (c_f := M.2.1 6) (c_s := M.2.1 7) (c_m := M.2.1 8) (c_r := M.2.1 9) (e_o := M.2.1 10) (we := M.2.2) hz a2 (by omega) b2 (by rw [tm 0 (by decide) (by decide), c1, a1]) (by rw [tm 1 (by decide) (by decide), c2]) upd_s (by rw [tm 3 (by decide) (by decide), c4, a5]) (fun i hi => by
      by_cases q : i = ns
      · subst q; exact srel_new (vc_lt hg) (v3 rfl)
      · exact srel_old (by omega) (d i (by omega))) (fun c hc => ⟨by
        show upd _ 2 _ _ = _
        rw [upd_o (by omega), upd_o (by omega), upd_o (by omega), upd_o (by omega), upd_o (by omega), upd_o (by omega)]; exact (e c hc).1.1, (e c hc).2⟩)
    obtain ⟨h', K2, k5, k6⟩ := k4 (nI ns) (by rw [le_toInt, tI0, nI_toInt (by omega)]; omega)
    rw [a4, add8_ok hn8 v1 hg, bd_some, if_neg (show ¬ nI ns < 0 from c_lt0 (by omega)), a1, a5, g2, bd_some, bd_some, k5, bd_some, mstep_eq hn8 (by rw [c3, a4]) hg v2, k3, bd_some, g1, bd_some]
    exact ⟨_, _, _, _, _, _, _, _, _, _, _, _, _, _, _, _, _, _, t', was1, sv1, rfl, rfl, g4, k6⟩
