abbrev CA : Type := Int32 × Int32 × Int32 × Int32 × (Nat → Int32) × (Nat → Int32) × (Nat → Int32) × (Nat → Int32) × (Nat → Int32) × Int32 × (Nat → Int32) × (Nat → Int32) × (Nat → Int32) × (Nat → Int32) × (Nat → Int32) × Int32 × (Nat → Int32) × (Nat → Int64) × (Nat → Int64) × Int32 × O8
abbrev CB : Type := Int32 × Int32 × Int32 × Int32 × Int32 × Int32 × Int32 × Int32 × Int32 × Int32 × Int32 × Int32 × Int32 × (Nat → Int32) × (Nat → Int32) × (Nat → Int32)
/-- both machines between two orders -/
def CI (B l : Nat) (tp : Nat → Int32) (a w sv : Int32) (was : Nat → Int32) (i : Nat) (c : CA) (c' : CB) : Prop :=
  ∃ (ru ro sn : Int32) (g hh x y k : Nat → Int32) (cn : Int32) (cc cf cs cm cr : Nat → Int32) (en : Int32) (eo : Nat → Int32) (we wl : Nat → Int64) (p : Nat) (o : O8) (gg at' m1 m2 m3 m4 m5 m6 m7 m8 m9 : Int32) (t al : Nat → Int32),
    c = (nI i, ru, ro, sn, g, hh, x, y, k, cn, cc, cf, cs, cm, cr, en, eo, we, wl, nI p, o) ∧ c' = (nI i, gg, sv, at', m1, m2, m3, m4, m5, m6, m7, m8, m9, t, was, al) ∧ RM (B + i) t (snap a w ru ro sn g hh x y k cn cc cf cs cm cr en eo we) ∧ p ≤ l ∧ i ≤ p ∧ ((i = 0 ∧ p = 0 ∧ gg = 1 ∧ at' = nI 0) ∨ (1 ≤ i ∧ ((sg l tp p = 59 ∧ p < l ∧ gg = 1 ∧ at' = nI (p + 1)) ∨ (¬ sg l tp p = 59 ∧ gg = 0 ∧ at' = nI p))))
def CP (B : Nat) (a w sv : Int32) (was : Nat → Int32) (b : CA) (b' : CB) : Prop :=
  ∃ (i : Nat) (ru ro sn : Int32) (g hh x y k : Nat → Int32) (cn : Int32) (cc cf cs cm cr : Nat → Int32) (en : Int32) (eo : Nat → Int32) (we wl : Nat → Int64) (at0 : Int32) (o : O8) (gg at' m1 m2 m3 m4 m5 m6 m7 m8 m9 : Int32) (t al : Nat → Int32),
    i ≤ 80 ∧ b = (nI i, ru, ro, sn, g, hh, x, y, k, cn, cc, cf, cs, cm, cr, en, eo, we, wl, at0, o) ∧ b' = (nI i, gg, sv, at', m1, m2, m3, m4, m5, m6, m7, m8, m9, t, was, al) ∧ RM (B + 81) t (snap a w ru ro sn g hh x y k cn cc cf cs cm cr en eo we)
theorem m30_stop {l : Nat} {tp : Nat → Int32} (n sv at' m1 m2 m3 m4 m5 m6 m7 m8 m9 : Int32) (t was al : Nat → Int32) : gX11_carryOut_30 tp (nI l) (n, 0, sv, at', m1, m2, m3, m4, m5, m6, m7, m8, m9, t, was, al) = some (.inr (n, 0, sv, at', m1, m2, m3, m4, m5, m6, m7, m8, m9, t, was, al)) := by
  unfold gX11_carryOut_30
  dsimp only
  rw [if_pos rfl]
set_option maxHeartbeats 2000000 in
theorem carry_loop {B l : Nat} {ps tp : Nat → Int32} (X : TX l ps tp) {t was al : Nat → Int32} {a w ru ro sn cn en sv : Int32} {g hh x y k cc cf cs cm cr eo : Nat → Int32} {we wl : Nat → Int64} (hB : B + 100 < 4000000) (h : RM B t (snap a w ru ro sn g hh x y k cn cc cf cs cm cr en eo we)) (o : O8) (m : O9) :
    ∃ (b : CA) (b' : CB), iter (gX10_carryOut_35 a w (nI l) ps) FU ((0 : Int32), ru, ro, sn, g, hh, x, y, k, cn, cc, cf, cs, cm, cr, en, eo, we, wl, (0 : Int32), o) = some b ∧ iter (gX11_carryOut_30 tp (nI l)) FU ((0 : Int32), (1 : Int32), sv, (0 : Int32), m.1, m.2.1, m.2.2.1, m.2.2.2.1, m.2.2.2.2.1, m.2.2.2.2.2.1, m.2.2.2.2.2.2.1, m.2.2.2.2.2.2.2.1, m.2.2.2.2.2.2.2.2, t, was, al) = some b' ∧ CP B a w sv was b b' := by
  have h80 := X.1
  refine iter2 (g := gX10_carryOut_35 a w (nI l) ps) (g' := gX11_carryOut_30 tp (nI l)) (CI B l tp a w sv was) (CP B a w sv was) 80 (fun i c c' hi hI => ?_) (fun c c' hI => ?_) 80 0 _ _ FU FU (by omega) (by decide) (by decide) ⟨ru, ro, sn, g, hh, x, y, k, cn, cc, cf, cs, cm, cr, en, eo, we, wl, 0, o, 1, 0, _, _, _, _, _, _, _, _, _, t, al, rfl, rfl, h, Nat.zero_le _, Nat.le_refl _, Or.inl ⟨rfl, rfl, rfl, rfl⟩⟩
  · obtain ⟨ru, ro, sn, g, hh, x, y, k, cn, cc, cf, cs, cm, cr, en, eo, we, wl, p, o, gg, at', m1, m2, m3, m4, m5, m6, m7, m8, m9, t, al, rfl, rfl, hR, hpl, hip, hc⟩ := hI
    have n80 : ¬ (80 : Int32) ≤ nI i := c_ge (N := 80) (n := 80) rfl hi (by decide)
    have up : RM (B + 81) t (snap a w ru ro sn g hh x y k cn cc cf cs cm cr en eo we) := hR.up (by omega)
    have body : ∀ q : Nat, q ≤ l → i ≤ q → gg = 1 → at' = nI q → fX5_readNextOrder (nI p) o.1 o.2.1 o.2.2.1 o.2.2.2.1 o.2.2.2.2.1 o.2.2.2.2.2.1 o.2.2.2.2.2.2.1 o.2.2.2.2.2.2.2 (nI l) ps = jX5_readNextOrder_18 o.2.1 o.2.2.1 o.2.2.2.1 o.2.2.2.2.1 o.2.2.2.2.2.1 o.2.2.2.2.2.2.1 o.2.2.2.2.2.2.2 (nI l) ps (nI q) →
        (∃ b b', gX10_carryOut_35 a w (nI l) ps (nI i, ru, ro, sn, g, hh, x, y, k, cn, cc, cf, cs, cm, cr, en, eo, we, wl, nI p, o) = some (.inl b) ∧ gX11_carryOut_30 tp (nI l) (nI i, gg, sv, at', m1, m2, m3, m4, m5, m6, m7, m8, m9, t, was, al) = some (.inl b') ∧ CI B l tp a w sv was (i + 1) b b') ∨
        (∃ b b', (∀ f, 80 - i < f → iter (gX10_carryOut_35 a w (nI l) ps) f (nI i, ru, ro, sn, g, hh, x, y, k, cn, cc, cf, cs, cm, cr, en, eo, we, wl, nI p, o) = some b) ∧ (∀ f, 80 - i < f → iter (gX11_carryOut_30 tp (nI l)) f (nI i, gg, sv, at', m1, m2, m3, m4, m5, m6, m7, m8, m9, t, was, al) = some b') ∧ CP B a w sv was b b') := by
      intro q hql hiq hgg hat hrd
      subst hgg hat
      rcases order_c X hql o.2.1 o.2.2.1 o.2.2.2.1 o.2.2.2.2.1 o.2.2.2.2.2.1 o.2.2.2.2.2.2.1 o.2.2.2.2.2.2.2 m1 m2 m3 m4 m5 m6 m7 m8 with ⟨a', c', m', l1, l2, k1, k2⟩ | ⟨a', c', m', l1, l2, k1, k2, k3⟩
      · right
        rw [k1] at hrd
        have s1 : gX10_carryOut_35 a w (nI l) ps (nI i, ru, ro, sn, g, hh, x, y, k, cn, cc, cf, cs, cm, cr, en, eo, we, wl, nI p, o) = some (.inr (nI i, ru, ro, sn, g, hh, x, y, k, cn, cc, cf, cs, cm, cr, en, eo, we, wl, nI a', c')) := by
          unfold gX10_carryOut_35
          dsimp only
          rw [if_neg n80, hrd, bd_some, if_pos rfl]
        by_cases hl : l ≤ q
        · have s2 : gX11_carryOut_30 tp (nI l) (nI i, 1, sv, nI q, m1, m2, m3, m4, m5, m6, m7, m8, m9, t, was, al) = some (.inr (nI i, 1, sv, nI q, m1, m2, m3, m4, m5, m6, m7, m8, m9, t, was, al)) := by
            unfold gX11_carryOut_30
            dsimp only
            rw [if_neg i0ne1, if_pos (c_le (n := l) rfl hl (by omega))]
          exact ⟨_, _, fun f hf => iter_e s1 (by omega), fun f hf => iter_e s2 (by omega), i, ru, ro, sn, g, hh, x, y, k, cn, cc, cf, cs, cm, cr, en, eo, we, wl, _, _, _, _, _, _, _, _, _, _, _, _, _, t, al, by omega, rfl, rfl, up⟩
        · have s2 : ∃ at2, gX11_carryOut_30 tp (nI l) (nI i, 1, sv, nI q, m1, m2, m3, m4, m5, m6, m7, m8, m9, t, was, al) = some (.inl (nI i, 0, sv, at2, m'.1, m'.2.1, m'.2.2.1, m'.2.2.2.1, m'.2.2.2.2.1, m'.2.2.2.2.2.1, m'.2.2.2.2.2.2.1, m'.2.2.2.2.2.2.2.1, m'.2.2.2.2.2.2.2.2, t, was, al)) := by
            unfold gX11_carryOut_30
            dsimp only
            rw [if_neg i0ne1, if_neg (c_ge (n := l) rfl (by omega) (by omega)), k2, bd_some, if_pos rfl]
            unfold jX11_carryOut_30b63 jX11_carryOut_30b64 jX11_carryOut_30b75
            rw [if_pos rfl]
            dsimp only
            rcases take_c X l2 59 (by decide) with ⟨g, gs, -, m1⟩ | ⟨gn, -, m1⟩
            · rw [m1, bd_some, if_neg i0ne1, if_pos rfl, Int32.add_zero]; exact ⟨_, rfl⟩
            · rw [m1, bd_some, if_pos rfl, Int32.add_zero]; exact ⟨_, rfl⟩
          obtain ⟨at2, s2⟩ := s2
          refine ⟨_, _, fun f hf => iter_e s1 (by omega), fun f hf => ?_, i, ru, ro, sn, g, hh, x, y, k, cn, cc, cf, cs, cm, cr, en, eo, we, wl, _, _, 0, at2, m'.1, m'.2.1, m'.2.2.1, m'.2.2.2.1, m'.2.2.2.2.1, m'.2.2.2.2.2.1, m'.2.2.2.2.2.2.1, m'.2.2.2.2.2.2.2.1, m'.2.2.2.2.2.2.2.2, t, al, by omega, rfl, rfl, up⟩
          obtain ⟨f, rfl⟩ : ∃ q, f = q + 1 := ⟨f - 1, by omega⟩
          exact iter_n s2 (iter_e (m30_stop _ _ _ _ _ _ _ _ _ _ _ _ _ _ _) (by omega))
      · rw [k1] at hrd
        obtain ⟨ans, ru', ro', sn', g', hh', x', y', k', cn', cc', cf', cs', cm', cr', en', eo', we', wl', ans2, t', al', d1, d2, d3, d4⟩ := order_both (by omega) hR k3 wl al was sv
        have n0 : ¬ nI l ≤ nI q := c_ge (n := l) rfl (by omega) (by omega)
        have s1 : gX10_carryOut_35 a w (nI l) ps (nI i, ru, ro, sn, g, hh, x, y, k, cn, cc, cf, cs, cm, cr, en, eo, we, wl, nI p, o) = (if ans < 0 then some (.inr (nI i, ru', ro', sn', g', hh', x', y', k', cn', cc', cf', cs', cm', cr', en', eo', we', wl', nI a', c')) else some (.inl (nI i + 1, ru', ro', sn', g', hh', x', y', k', cn', cc', cf', cs', cm', cr', en', eo', we', wl', nI a', c'))) := by
          unfold gX10_carryOut_35
          dsimp only
          rw [if_neg n80, hrd, bd_some, if_neg i0ne1, d1, bd_some]
        by_cases hneg : ans < 0
        · right
          rw [if_pos hneg] at s1
          have s2 : ∃ at2, gX11_carryOut_30 tp (nI l) (nI i, 1, sv, nI q, m1, m2, m3, m4, m5, m6, m7, m8, m9, t, was, al) = some (.inl (nI i, 0, sv, at2, m'.1, m'.2.1, m'.2.2.1, m'.2.2.2.1, m'.2.2.2.2.1, m'.2.2.2.2.2.1, m'.2.2.2.2.2.2.1, m'.2.2.2.2.2.2.2.1, m'.2.2.2.2.2.2.2.2, t', was, al')) := by
            unfold gX11_carryOut_30
            dsimp only
            rw [if_neg i0ne1, if_neg n0, k2, bd_some, if_neg i0ne1]
            dsimp only
            rw [d2, bd_some, if_pos (d3.mp hneg)]
            unfold jX11_carryOut_30b63 jX11_carryOut_30b64 jX11_carryOut_30b75
            rw [if_pos rfl]
            dsimp only
            rcases take_c X l2 59 (by decide) with ⟨g, gs, -, m1⟩ | ⟨gn, -, m1⟩
            · rw [m1, bd_some, if_neg i0ne1, if_pos rfl, Int32.add_zero]; exact ⟨_, rfl⟩
            · rw [m1, bd_some, if_pos rfl, Int32.add_zero]; exact ⟨_, rfl⟩
          obtain ⟨at2, s2⟩ := s2
          refine ⟨_, _, fun f hf => iter_e s1 (by omega), fun f hf => ?_, i, ru', ro', sn', g', hh', x', y', k', cn', cc', cf', cs', cm', cr', en', eo', we', wl', _, _, 0, at2, m'.1, m'.2.1, m'.2.2.1, m'.2.2.2.1, m'.2.2.2.2.1, m'.2.2.2.2.2.1, m'.2.2.2.2.2.2.1, m'.2.2.2.2.2.2.2.1, m'.2.2.2.2.2.2.2.2, t', al', by omega, rfl, rfl, d4.up (by omega)⟩
          obtain ⟨f, rfl⟩ : ∃ q, f = q + 1 := ⟨f - 1, by omega⟩
          exact iter_n s2 (iter_e (m30_stop _ _ _ _ _ _ _ _ _ _ _ _ _ _ _) (by omega))
        · left
          rw [if_neg hneg, nI1] at s1
          rcases take_c X l2 59 (by decide) with ⟨gl, gs, -, mm⟩ | ⟨gn, -, mm⟩
          · have s2 : gX11_carryOut_30 tp (nI l) (nI i, 1, sv, nI q, m1, m2, m3, m4, m5, m6, m7, m8, m9, t, was, al) = some (.inl (nI (i + 1), 1, sv, nI (a' + 1), m'.1, m'.2.1, m'.2.2.1, m'.2.2.2.1, m'.2.2.2.2.1, m'.2.2.2.2.2.1, m'.2.2.2.2.2.2.1, m'.2.2.2.2.2.2.2.1, m'.2.2.2.2.2.2.2.2, t', was, al')) := by
              unfold gX11_carryOut_30
              dsimp only
              rw [if_neg i0ne1, if_neg n0, k2, bd_some, if_neg i0ne1]
              dsimp only
              rw [d2, bd_some, if_neg (fun z => hneg (d3.mpr z))]
              unfold jX11_carryOut_30b64 jX11_carryOut_30b75
              rw [if_neg i0ne1]
              dsimp only
              rw [mm, bd_some, if_neg i0ne1, if_neg i0ne1, nI1]
            exact ⟨_, _, s1, s2, ru', ro', sn', g', hh', x', y', k', cn', cc', cf', cs', cm', cr', en', eo', we', wl', a', c', _, _, _, _, _, _, _, _, _, _, _, t', al', rfl, rfl, d4, l2, by omega, Or.inr ⟨by omega, Or.inl ⟨gs, gl, rfl, rfl⟩⟩⟩
          · have s2 : gX11_carryOut_30 tp (nI l) (nI i, 1, sv, nI q, m1, m2, m3, m4, m5, m6, m7, m8, m9, t, was, al) = some (.inl (nI (i + 1), 0, sv, nI a', m'.1, m'.2.1, m'.2.2.1, m'.2.2.2.1, m'.2.2.2.2.1, m'.2.2.2.2.2.1, m'.2.2.2.2.2.2.1, m'.2.2.2.2.2.2.2.1, m'.2.2.2.2.2.2.2.2, t', was, al')) := by
              unfold gX11_carryOut_30
              dsimp only
              rw [if_neg i0ne1, if_neg n0, k2, bd_some, if_neg i0ne1]
              dsimp only
              rw [d2, bd_some, if_neg (fun z => hneg (d3.mpr z))]
              unfold jX11_carryOut_30b64 jX11_carryOut_30b75
              rw [if_neg i0ne1]
              dsimp only
              rw [mm, bd_some, if_pos rfl, nI1]
            exact ⟨_, _, s1, s2, ru', ro', sn', g', hh', x', y', k', cn', cc', cf', cs', cm', cr', en', eo', we', wl', a', c', _, _, _, _, _, _, _, _, _, _, _, t', al', rfl, rfl, d4, l2, by omega, Or.inr ⟨by omega, Or.inr ⟨gn, rfl, rfl⟩⟩⟩
    rcases hc with ⟨rfl, rfl, hg, ha⟩ | ⟨hi1, hc⟩
    · refine body 0 (Nat.zero_le _) (Nat.le_refl _) hg ha ?_
      unfold fX5_readNextOrder
      rw [if_pos (show nI 0 ≤ 0 by decide)]
    · have hp0 : ¬ nI p ≤ 0 := c_ge (n := p) (i := 0) rfl (by omega) (by omega)
      rcases hc with ⟨gs, gl, hg, ha⟩ | ⟨gn, hg, ha⟩
      · refine body (p + 1) gl (by omega) hg ha ?_
        unfold fX5_readNextOrder
        rcases take_c X hpl 59 (by decide) with ⟨-, -, t1, -⟩ | ⟨gn, -, -⟩
        · rw [if_neg hp0, t1, bd_some, if_neg i0ne1]
        · exact absurd gs gn
      · right
        subst hg ha
        rcases take_c X hpl 59 (by decide) with ⟨-, gs, -, -⟩ | ⟨-, t1, -⟩
        · exact absurd gs gn
        have s1 : gX10_carryOut_35 a w (nI l) ps (nI i, ru, ro, sn, g, hh, x, y, k, cn, cc, cf, cs, cm, cr, en, eo, we, wl, nI p, o) = some (.inr (nI i, ru, ro, sn, g, hh, x, y, k, cn, cc, cf, cs, cm, cr, en, eo, we, wl, nI p, o)) := by
          unfold gX10_carryOut_35 fX5_readNextOrder
          dsimp only
          rw [if_neg n80, if_neg hp0, t1, bd_some, if_pos rfl, bd_some, if_pos rfl]
        exact ⟨_, _, fun f hf => iter_e s1 (by omega), fun f hf => iter_e (m30_stop _ _ _ _ _ _ _ _ _ _ _ _ _ _ _) (by omega), i, ru, ro, sn, g, hh, x, y, k, cn, cc, cf, cs, cm, cr, en, eo, we, wl, _, _, 0, nI p, m1, m2, m3, m4, m5, m6, m7, m8, m9, t, al, by omega, rfl, rfl, up⟩
  · obtain ⟨ru, ro, sn, g, hh, x, y, k, cn, cc, cf, cs, cm, cr, en, eo, we, wl, p, o, gg, at', m1, m2, m3, m4, m5, m6, m7, m8, m9, t, al, rfl, rfl, hR, hpl, hip, hc⟩ := hI
    have hg : gg = 0 := by
      rcases hc with ⟨h, -⟩ | ⟨-, ⟨-, h, -⟩ | ⟨-, h, -⟩⟩
      · omega
      · omega
      · exact h
    subst hg
    have s1 : gX10_carryOut_35 a w (nI l) ps (nI 80, ru, ro, sn, g, hh, x, y, k, cn, cc, cf, cs, cm, cr, en, eo, we, wl, nI p, o) = some (.inr (nI 80, ru, ro, sn, g, hh, x, y, k, cn, cc, cf, cs, cm, cr, en, eo, we, wl, nI p, o)) := by
      unfold gX10_carryOut_35
      dsimp only
      rw [if_pos (show (80 : Int32) ≤ nI 80 by decide)]
    exact ⟨_, _, fun f hf => iter_e s1 hf, fun f hf => iter_e (m30_stop _ _ _ _ _ _ _ _ _ _ _ _ _ _ _) hf, 80, ru, ro, sn, g, hh, x, y, k, cn, cc, cf, cs, cm, cr, en, eo, we, wl, _, _, 0, at', m1, m2, m3, m4, m5, m6, m7, m8, m9, t, al, by decide, rfl, rfl, hR.up (by omega)⟩
