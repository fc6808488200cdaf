/-! ===== orders carried out ===== -/
theorem mstep_q {t : Nat → Int32} {ns : Nat} {g h x y k : Int32} (hns : ns < 8) (h2 : t 2 = nI ns) (hc : vc g = true) (ha : fX11_isAction h x y k = some 1) (was : Nat → Int32) (sv qt : Int32) : fX11_step t was sv qt g h x y k = bd (fX11_records t was sv qt) fun y_41 => bd (fX11_begins (mStep t ns g h x y k)) fun y_114 => some (nI ns, y_41.1, y_114, y_41.2) := by
  unfold fX11_step
  have gz : ∀ (K : Int32) (k : Nat), K = nI k → k < 1271 → ∀ q : Option (Int32 × Int32 × (Nat → Int32) × (Nat → Int32)), gd (gi K 1271) q = q := fun K k e hk q => gm e hk
  rw [isCode_01, hc, bd_some, if_neg (by decide : ¬ b2i true = 0), ha, bd_some, if_neg i0ne1, gg2, gd_tr, ii2, h2, if_neg (show ¬ nI ns = (8 : Int32) from fun e => by have := nI_inj (b := 8) (by omega) (by decide) e; omega)]
  congr 1
  funext y_41
  rw [e5_7, show (1 : Int32) = nI 1 from rfl, show nI (7 + 5 * ns) + nI 1 = nI (7 + 5 * ns + 1) from nI_add _ _, show nI (7 + 5 * ns) + (2 : Int32) = nI (7 + 5 * ns + 2) from nI_add _ 2, show nI (7 + 5 * ns) + (3 : Int32) = nI (7 + 5 * ns + 3) from nI_add _ 3, show nI (7 + 5 * ns) + (4 : Int32) = nI (7 + 5 * ns + 4) from nI_add _ 4]
  rw [gz _ _ rfl (by omega), gz _ _ rfl (by omega), gz _ _ rfl (by omega), gz _ _ rfl (by omega), gz _ _ rfl (by omega), gd_tr, gd_tr, ixn (by omega), ixn (by omega), ixn (by omega), ixn (by omega), ixn (by omega)]
  rw [show upd (upd (upd (upd (upd t (7 + 5 * ns) g) (7 + 5 * ns + 1) h) (7 + 5 * ns + 2) x) (7 + 5 * ns + 3) y) (7 + 5 * ns + 4) k 2 = nI ns by rw [upd_o (by omega), upd_o (by omega), upd_o (by omega), upd_o (by omega), upd_o (by omega), h2], nI_add]
  rfl
/-- a step, in both machines, the record aside -/
theorem step_both {B : Nat} {t : Nat → Int32} {a w ru ro sn cn en : Int32} {g hh x y k cc cf cs cm cr eo : Nat → Int32} {we : Nat → Int64} (h : RM B t (snap a w ru ro sn g hh x y k cn cc cf cs cm cr en eo we)) (p0 p1 p2 p3 p4 : Int32) :
    (∃ ans : Int32, ans < 0 ∧ fX3_addStep a ru ro sn g hh x y k cn cc cf cs cm cr en eo we p0 p1 p2 p3 p4 = some (ans, ru, ro, sn, g, hh, x, y, k, cf, cs, cm, cr, en, eo, we) ∧ ∀ was sv qt, fX11_step t was sv qt p0 p1 p2 p3 p4 = some (ans, sv, t, was)) ∨
    (∃ ans ru' ro' sn' g' hh' x' y' k' f s m r en' eo' we' t', 0 ≤ ans ∧ fX3_addStep a ru ro sn g hh x y k cn cc cf cs cm cr en eo we p0 p1 p2 p3 p4 = some (ans, ru', ro', sn', g', hh', x', y', k', f, s, m, r, en', eo', we') ∧ RM B t' (snap a w ru' ro' sn' g' hh' x' y' k' cn cc f s m r en' eo' we') ∧ ∀ was sv qt, fX11_step t was sv qt p0 p1 p2 p3 p4 = bd (fX11_records t was sv qt) fun y => some (ans, y.1, t', y.2)) := by
  obtain ⟨ns, nc, n, R, z, r, ⟨a1, a2, a3, a4, a5, a6⟩, ⟨b1, b2, b3, b4, b5⟩, ⟨c1, c2, c3, c4, c5, c6, c7⟩, d, e, f, -⟩ := RMsn h
  obtain ⟨v, v1, v2, v3⟩ := act_eq p1 p2 p3 p4
  unfold fX3_addStep
  by_cases hb : vc p0 = false ∨ v = false
  · left
    refine ⟨-2, by decide, ?_, fun was sv qt => ?_⟩
    · rw [add8_bad v1 hb, bd_some, if_pos (show (-2 : Int32) < 0 by decide)]
    · unfold fX11_step
      rw [isCode_01, bd_some]
      by_cases hg : vc p0 = true
      · rw [hg, if_neg (by decide : ¬ b2i true = 0), v2, bd_some]
        rcases hb with q | q
        · rw [hg] at q; exact absurd q (by decide)
        · rw [q, if_pos (by decide : b2i false = 0)]
      · have : vc p0 = false := by simpa using hg
        rw [this, if_pos (by decide : b2i false = 0)]
  have hg : vc p0 = true := by
    cases q : vc p0
    · exact absurd (Or.inl q) hb
    · rfl
  have hv : v = true := by
    cases q : v
    · exact absurd (Or.inr q) hb
    · rfl
  subst hv
  by_cases h8 : ns = 8
  · subst h8
    left
    refine ⟨-4, by decide, ?_, fun was sv qt => ?_⟩
    · rw [a4, add8_full v1 hg, bd_some, if_pos (show (-4 : Int32) < 0 by decide)]
    · unfold fX11_step
      rw [isCode_01, bd_some, hg, if_neg (by decide : ¬ b2i true = 0), v2, bd_some, if_neg (by decide : ¬ b2i true = 0), gg2, gd_tr, ii2, c3, a4, if_pos (show nI 8 = (8 : Int32) from rfl)]
  · right
    have hn8 : ns < 8 := by omega
    have hz := (f 0 (by omega)).2.1
    have tm : ∀ j, j < 7 → ¬ j = 2 → mStep t ns p0 p1 p2 p3 p4 j = t j := fun j j1 j2 => by
      unfold mStep
      rw [upd_o j2, upd_o (by omega), upd_o (by omega), upd_o (by omega), upd_o (by omega), upd_o (by omega)]
    obtain ⟨t', f', s', m', r', o', w', g1, g2, g3, g4⟩ := begin_RM (B := B) (t := mStep t ns p0 p1 p2 p3 p4) (s := z 0) (ns := ns + 1) (nc := nc) (w := w) (s_g := upd g ns p0) (s_h := upd hh ns p1) (s_x := upd x ns p2) (s_y := upd y ns p3) (s_k := upd k ns p4) (c_c := cc) (c_f := cf) (c_s := cs) (c_m := cm) (c_r := cr) (e_o := eo) (we := we) hz a2 (by omega) b2 (by rw [tm 0 (by decide) (by decide), c1, a1]) (by rw [tm 1 (by decide) (by decide), c2]) upd_s (by rw [tm 3 (by decide) (by decide), c4, a5]) (fun i hi => by
      by_cases q : i = ns
      · subst q; exact srel_new (vc_lt hg) (v3 rfl)
      · exact srel_old (by omega) (d i (by omega))) (fun c hc => ⟨by
        show upd _ 2 _ _ = _
        rw [upd_o (by omega), upd_o (by omega), upd_o (by omega), upd_o (by omega), upd_o (by omega), upd_o (by omega)]; exact (e c hc).1.1, (e c hc).2⟩)
    refine ⟨nI ns, 0, 0, nI (ns + 1), upd g ns p0, upd hh ns p1, upd x ns p2, upd y ns p3, upd k ns p4, f', s', m', r', 1, o', w', t', ?_, ?_, ?_, fun was sv qt => ?_⟩
    · rw [le_toInt, tI0, nI_toInt (by omega)]; omega
    · rw [a4, add8_ok hn8 v1 hg, bd_some, if_neg (show ¬ nI ns < 0 from c_lt0 (by omega)), a1, a5, g2, bd_some]
    · rw [← a5, ← a1] at g4
      exact g4
    · rw [mstep_q hn8 (by rw [c3, a4]) hg v2]
      congr 1
      funext y_41
      rw [g1, bd_some]
theorem quiet_q (t was : Nat → Int32) (sv : Int32) : fX11_records t was sv 1 = some (sv, was) := by
  unfold fX11_records
  rw [if_neg i0ne1]
theorem enc_bad {a b c d v : Int32} (h : fX1_encode a b c d = some v) : (fX11_isClaim a b c d = some 0 ∧ v = -2) ∨ (fX11_isClaim a b c d = some 1 ∧ fX11_codeOf a b c d = some v) := by
  unfold fX1_encode at h
  rw [isClaim_eq] at h
  obtain ⟨u, e⟩ := isClaim_01 a b c d
  rw [e, bd_some] at h
  cases u with
  | false => left; rw [if_pos (by decide)] at h; exact ⟨e, (Option.some.inj h).symm⟩
  | true => right; rw [if_neg (by decide)] at h; exact ⟨e, h⟩
theorem vc_m2 : vc (-2) = false := by decide
theorem order_both {B : Nat} {t : Nat → Int32} {a w ru ro sn cn en : Int32} {g hh x y k cc cf cs cm cr eo : Nat → Int32} {we : Nat → Int64} (hB : B < 4000000) (h : RM B t (snap a w ru ro sn g hh x y k cn cc cf cs cm cr en eo we)) {o : O8} {m : O9} (OR : ORel o m) (wl : Nat → Int64) (al was : Nat → Int32) (sv : Int32) :
    ∃ (ans ru' ro' sn' : Int32) (g' hh' x' y' k' : Nat → Int32) (cn' : Int32) (cc' cf' cs' cm' cr' : Nat → Int32) (en' : Int32) (eo' : Nat → Int32) (we' wl' : Nat → Int64) (ans2 : Int32) (t' al' : Nat → Int32), fX10_carryOrderOut a w ru ro sn g hh x y k cn cc cf cs cm cr en eo we wl o.1 o.2.1 o.2.2.1 o.2.2.2.1 o.2.2.2.2.1 o.2.2.2.2.2.1 o.2.2.2.2.2.2.1 o.2.2.2.2.2.2.2 = some (ans, ru', ro', sn', g', hh', x', y', k', cn', cc', cf', cs', cm', cr', en', eo', we', wl') ∧
      fX11_does t was sv 1 al m.1 m.2.1 m.2.2.1 m.2.2.2.1 m.2.2.2.2.1 m.2.2.2.2.2.1 m.2.2.2.2.2.2.1 m.2.2.2.2.2.2.2.1 m.2.2.2.2.2.2.2.2 = some (ans2, sv, t', was, al') ∧ (ans < 0 ↔ ans2 < 0) ∧ RM (B + 1) t' (snap a w ru' ro' sn' g' hh' x' y' k' cn' cc' cf' cs' cm' cr' en' eo' we') := by
  obtain ⟨o1, o2, o3, o4, o5, o6, o7, o8⟩ := o
  obtain ⟨m1, m2, m3, m4, m5, m6, m7, m8, m9⟩ := m
  obtain ⟨hk, OR⟩ := OR
  dsimp only at hk OR ⊢
  subst hk
  unfold fX10_carryOrderOut fX11_does
  have up := h.up (show B ≤ B + 1 by omega)
  rcases OR with ⟨rfl, e⟩ | rfl | ⟨rfl, rfl, rfl⟩ | ⟨rfl, e, rfl, rfl, rfl, rfl⟩
  · rw [if_pos rfl, if_neg (show ¬ (99 : Int32) = 107 by decide), if_neg (show ¬ (99 : Int32) = 114 by decide)]
    rcases enc_bad e with ⟨e1, rfl⟩ | ⟨e1, e2⟩
    · have : fX3_addCandidate a cn cc cf cs cm cr en eo (-2) = some (-2, cn, cc, cf, cs, cm, cr) := by
        unfold fX3_addCandidate
        rw [isCode_eq, vc_m2, bd_some, if_pos (by decide)]
      rw [this, bd_some, e1, bd_some, if_pos rfl]
      exact ⟨_, _, _, _, _, _, _, _, _, _, _, _, _, _, _, _, _, _, _, _, t, al, rfl, rfl, Iff.rfl, up⟩
    · rw [e1, bd_some, if_neg i0ne1, e2, bd_some, if_pos rfl]
      rcases cand_both hB h o2 with ⟨ans, hneg, k1, k2⟩ | ⟨ans, cn', cc', f, s, m, r, t', hpos, k1, k2, k3⟩
      · rw [k1, bd_some, k2, bd_some]
        exact ⟨_, _, _, _, _, _, _, _, _, _, _, _, _, _, _, _, _, _, _, _, t, al, rfl, rfl, Iff.rfl, up⟩
      · rw [k1, bd_some, k3, quiet_q, bd_some, bd_some]
        exact ⟨_, _, _, _, _, _, _, _, _, _, _, _, _, _, _, _, _, _, _, _, t', al, rfl, rfl, Iff.rfl, k2.up (by omega)⟩
  · obtain ⟨ns, nc, rfl, rfl, S, C⟩ := RMok h
    obtain ⟨b, b', g1, g2, g3, g4, g5⟩ := settle_both h C.1 wl al
    rw [if_neg (show ¬ (107 : Int32) = 99 by decide), if_neg (show ¬ (107 : Int32) = 114 by decide), if_neg (show ¬ (107 : Int32) = 115 by decide), g1, bd_some, if_pos rfl]
    unfold fX11_settle
    rw [quiet_q, bd_some, g2, bd_some, bd_some]
    refine ⟨_, _, _, _, _, _, _, _, _, _, _, _, _, _, _, _, _, _, _, _, b'.2.1, b'.2.2, rfl, rfl, ?_, g5.up (by omega)⟩
    dsimp only
    rw [g3]
  · rw [if_neg (show ¬ (114 : Int32) = 99 by decide), if_pos rfl, if_neg (show ¬ (114 : Int32) = 107 by decide), if_pos rfl]
    rcases run_both hB h o7 o8 with ⟨ans, hneg, e1, e2⟩ | ⟨ans, ru', f, s, m, r, en', eo', we', t', hpos, e1, e2, e3⟩
    · rw [e1, bd_some, e2, bd_some]
      exact ⟨_, _, _, _, _, _, _, _, _, _, _, _, _, _, _, _, _, _, _, _, t, al, rfl, rfl, Iff.rfl, up⟩
    · rw [e1, bd_some, e3, quiet_q, bd_some, bd_some]
      exact ⟨_, _, _, _, _, _, _, _, _, _, _, _, _, _, _, _, _, _, _, _, t', al, rfl, rfl, Iff.rfl, e2⟩
  · rw [if_neg (show ¬ (115 : Int32) = 99 by decide), if_neg (show ¬ (115 : Int32) = 114 by decide), if_pos rfl, if_neg (show ¬ (115 : Int32) = 107 by decide), if_neg (show ¬ (115 : Int32) = 114 by decide)]
    rcases enc_bad e with ⟨e1, rfl⟩ | ⟨e1, e2⟩
    · obtain ⟨v, v1, -, -⟩ := act_eq o3 o4 o5 o6
      have : fX3_addStep a ru ro sn g hh x y k cn cc cf cs cm cr en eo we (-2) o3 o4 o5 o6 = some (-2, ru, ro, sn, g, hh, x, y, k, cf, cs, cm, cr, en, eo, we) := by
        unfold fX3_addStep
        rw [add8_bad v1 (Or.inl vc_m2), bd_some, if_pos (show (-2 : Int32) < 0 by decide)]
      rw [this, bd_some, e1, bd_some, if_pos rfl]
      exact ⟨_, _, _, _, _, _, _, _, _, _, _, _, _, _, _, _, _, _, _, _, t, al, rfl, rfl, Iff.rfl, up⟩
    · rw [e1, bd_some, if_neg i0ne1, e2, bd_some, if_neg (show ¬ (115 : Int32) = 99 by decide)]
      rcases step_both h o2 o3 o4 o5 o6 with ⟨ans, hneg, k1, k2⟩ | ⟨ans, ru', ro', sn', g', hh', x', y', k', f, s, m, r, en', eo', we', t', hpos, k1, k2, k3⟩
      · rw [k1, bd_some, k2, bd_some]
        exact ⟨_, _, _, _, _, _, _, _, _, _, _, _, _, _, _, _, _, _, _, _, t, al, rfl, rfl, Iff.rfl, up⟩
      · rw [k1, bd_some, k3, quiet_q, bd_some, bd_some]
        exact ⟨_, _, _, _, _, _, _, _, _, _, _, _, _, _, _, _, _, _, _, _, t', al, rfl, rfl, Iff.rfl, k2.up (by omega)⟩
