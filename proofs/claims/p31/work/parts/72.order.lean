/-! ===== one order; the fault ===== -/
abbrev O8 : Type := Int32 × Int32 × Int32 × Int32 × Int32 × Int32 × Int32 × Int32
abbrev O9 : Type := Int32 × Int32 × Int32 × Int32 × Int32 × Int32 × Int32 × Int32 × Int32
/-- what an order tells, on both sides: kind claim how x y k seed moves; form first other off how into out by sort -/
def ORel (c : O8) (m : O9) : Prop := m.2.2.2.2.2.2.2.2 = c.1 ∧ ((c.1 = 99 ∧ fX1_encode m.1 m.2.1 m.2.2.1 m.2.2.2.1 = some c.2.1) ∨ c.1 = 107 ∨ (c.1 = 114 ∧ c.2.2.2.2.2.2.1 = m.2.1 ∧ c.2.2.2.2.2.2.2 = m.2.2.1) ∨ (c.1 = 115 ∧ fX1_encode m.1 m.2.1 m.2.2.1 m.2.2.2.1 = some c.2.1 ∧ c.2.2.1 = m.2.2.2.2.1 ∧ c.2.2.2.1 = m.2.2.2.2.2.1 ∧ c.2.2.2.2.1 = m.2.2.2.2.2.2.1 ∧ c.2.2.2.2.2.1 = m.2.2.2.2.2.2.2.1))
theorem order_c {l a : Nat} {ps tp : Nat → Int32} (X : TX l ps tp) (ha : a ≤ l) (rc rh rx ry rk rs rm fo fi ot ofs ho it ou bb : Int32) :
    (∃ (a' : Nat) (c : O8) (m : O9), a ≤ a' ∧ a' ≤ l ∧ jX5_readNextOrder_18 rc rh rx ry rk rs rm (nI l) ps (nI a) = some (0, nI a', c) ∧ fX11_takesOrder tp (nI l) (nI a) fo fi ot ofs ho it ou bb = some (0, nI a', m)) ∨ (∃ (a' : Nat) (c : O8) (m : O9), a < a' ∧ a' ≤ l ∧ jX5_readNextOrder_18 rc rh rx ry rk rs rm (nI l) ps (nI a) = some (1, nI a', c) ∧ fX11_takesOrder tp (nI l) (nI a) fo fi ot ofs ho it ou bb = some (1, nI a', m) ∧ ORel c m) := by
  have h80 := X.1
  have em : fX11_takesOrder tp (nI l) (nI a) fo fi ot ofs ho it ou bb = jX11_takesOrder_25 tp (nI l) (nI a) fo fi ot ofs ho it ou bb (sg l tp a) := by
    unfold fX11_takesOrder sg
    by_cases h : a < l
    · rw [if_neg (c_ge (n := l) rfl h (by omega)), gd_nI (show a < 80 by omega) (by decide), ixn (by omega), if_pos h]
    · rw [if_pos (c_le (n := l) rfl (by omega) (by omega)), if_neg h]
  rw [em]
  unfold jX5_readNextOrder_18 jX11_takesOrder_25 jX11_takesOrder_64 jX11_takesOrder_69 jX11_takesOrder_84
  rw [sgn_eq X ha, bd_some]
  have pos : ¬ sg l tp a = 0 → a < l := fun h => by
    rcases Nat.lt_or_ge a l with q | q
    · exact q
    · exact absurd (show sg l tp a = 0 by unfold sg; rw [if_neg (by omega)]) h
  by_cases h99 : sg l tp a = 99
  · have hl := pos (by rw [h99]; decide)
    rw [h99]
    simp only [i10, if_true, show ¬ (99 : Int32) = 115 by decide, show ¬ (99 : Int32) = 107 by decide, if_false, nI1]
    rcases claim_c X (show a + 1 ≤ l from hl) rc with ⟨a', c', f1, f2, f3, f4, l1, l2, k1, k2⟩ | ⟨a', c', f1, f2, f3, f4, l1, l2, k1, k2, k3⟩
    · left
      rw [k1, k2, bd_some, bd_some, show isB 0 = true by decide, gd_tr, if_pos rfl]
      exact ⟨a', _, _, by omega, l2, rfl, rfl⟩
    · right
      rw [k1, k2, bd_some, bd_some, show isB 1 = true by decide, gd_tr, if_neg i0ne1]
      exact ⟨a', _, _, by omega, l2, rfl, rfl, rfl, Or.inl ⟨rfl, k3⟩⟩
  by_cases h107 : sg l tp a = 107
  · have hl := pos (by rw [h107]; decide)
    right
    rw [h107]
    simp only [i10, if_true, show ¬ (107 : Int32) = 99 by decide, show ¬ (107 : Int32) = 115 by decide, show ¬ (107 : Int32) = 114 by decide, if_false, nI1]
    exact ⟨a + 1, _, _, by omega, hl, rfl, rfl, rfl, Or.inr (Or.inl rfl)⟩
  by_cases h114 : sg l tp a = 114
  · have hl := pos (by rw [h114]; decide)
    rw [h114]
    simp only [i10, if_true, show ¬ (114 : Int32) = 99 by decide, show ¬ (114 : Int32) = 115 by decide, show ¬ (114 : Int32) = 107 by decide, if_false, nI1]
    rcases run_c X (show a + 1 ≤ l from hl) rm ot with ⟨a', c1, c2, f1, f2, l1, l2, k1, k2⟩ | ⟨a', f1, f2, l1, l2, k1, k2⟩
    · left
      rw [k1, k2, bd_some, bd_some, show isB 0 = true by decide, gd_tr, if_pos rfl]
      exact ⟨a', _, _, by omega, l2, rfl, rfl⟩
    · right
      rw [k1, k2, bd_some, bd_some, show isB 1 = true by decide, gd_tr, if_neg i0ne1]
      exact ⟨a', _, _, by omega, l2, rfl, rfl, rfl, Or.inr (Or.inr (Or.inl ⟨rfl, rfl, rfl⟩))⟩
  by_cases h115 : sg l tp a = 115
  · have hl := pos (by rw [h115]; decide)
    rw [h115]
    simp only [i10, if_true, show ¬ (115 : Int32) = 99 by decide, show ¬ (115 : Int32) = 107 by decide, show ¬ (115 : Int32) = 114 by decide, if_false, nI1]
    rcases claim_c X (show a + 1 ≤ l from hl) rc with ⟨a', c', f1, f2, f3, f4, l1, l2, k1, k2⟩ | ⟨a', c', f1, f2, f3, f4, l1, l2, k1, k2, k3⟩
    · left
      rw [k1, k2, bd_some, bd_some, if_pos rfl, if_pos rfl]
      exact ⟨a', _, _, by omega, l2, rfl, rfl⟩
    rw [k1, k2, bd_some, bd_some, if_neg i0ne1, if_neg i0ne1]
    rcases take_c X l2 58 (by decide) with ⟨g, -, t1, m1⟩ | ⟨-, t1, m1⟩
    · dsimp only
      rw [t1, m1, bd_some, bd_some, if_neg i0ne1, if_neg i0ne1]
      rcases action_c X (show a' + 1 ≤ l from g) rh ry rk ho with ⟨b, c1, c2, c3, c4, g1, g2, g3, g4, l3, l4, k4, k5⟩ | ⟨b, g1, g2, g3, g4, l3, l4, k4, k5⟩
      · left
        rw [k4, k5, bd_some, bd_some, if_pos rfl, if_pos rfl]
        exact ⟨b, _, _, by omega, l4, rfl, rfl⟩
      · right
        rw [k4, k5, bd_some, bd_some, if_neg i0ne1, if_neg i0ne1]
        exact ⟨b, _, _, by omega, l4, rfl, rfl, rfl, Or.inr (Or.inr (Or.inr ⟨rfl, k3, rfl, rfl, rfl, rfl⟩))⟩
    · left
      dsimp only
      rw [t1, m1, bd_some, bd_some, if_pos rfl, if_pos rfl]
      exact ⟨a', _, _, by omega, l2, rfl, rfl⟩
  left
  simp only [if_neg h99, if_neg h107, if_neg h114, if_neg h115, i00, Int32.add_zero]
  exact ⟨a, _, _, by omega, ha, rfl, rfl⟩
abbrev F10 : Type := Int32 × Int32 × O8
abbrev F11 : Type := Int32 × Int32 × O9
theorem fault_c {l : Nat} {ps tp : Nat → Int32} (X : TX l ps tp) (c0 : O8) (m0 : O9) :
    ∃ (ans : Int32) (r : Int32 × O8) (r' : Int32 × O9), fX5_findFault c0.1 c0.2.1 c0.2.2.1 c0.2.2.2.1 c0.2.2.2.2.1 c0.2.2.2.2.2.1 c0.2.2.2.2.2.2.1 c0.2.2.2.2.2.2.2 (nI l) ps = some (ans, r) ∧ fX11_fault tp (nI l) m0.1 m0.2.1 m0.2.2.1 m0.2.2.2.1 m0.2.2.2.2.1 m0.2.2.2.2.2.1 m0.2.2.2.2.2.2.1 m0.2.2.2.2.2.2.2.1 m0.2.2.2.2.2.2.2.2 = some (ans, r') := by
  have h80 := X.1
  have key := iter2 (g := gX5_findFault_6 (nI l) ps) (g' := gX11_fault_7 tp (nI l)) (fun (i : Nat) (c : F10) (c' : F11) => c.1 = nI i ∧ ∃ a : Nat, c.2.1 = nI a ∧ a ≤ l ∧ i ≤ a ∧ ((i = 0 ∧ a = 0 ∧ c'.1 = 1 ∧ c'.2.1 = nI 0) ∨ (1 ≤ i ∧ a < l ∧ ((sg l tp a = 59 ∧ c'.1 = 1 ∧ c'.2.1 = nI (a + 1)) ∨ (¬ sg l tp a = 59 ∧ c'.1 = 0 ∧ c'.2.1 = nI a)))))
    (fun (z : F10 ⊕ F10) (z' : F11 ⊕ F11) => ∃ (ans : Int32) (r : Int32 × O8), z = .inr (ans, r) ∧ ((∃ r' : Int32 × O9, z' = .inr (ans, r')) ∨ (∃ (g : Int32) (a : Nat) (m : O9), a ≤ l ∧ z' = .inl (g, nI a, m) ∧ ans = if a = l then -6 else nI a))) 80 (fun i c c' hi hI => ?_) (fun c c' hI => ?_) 80 0 ((0 : Int32), (0 : Int32), c0) ((1 : Int32), (0 : Int32), m0) FU FU (by omega) (by decide) (by decide) ⟨rfl, 0, rfl, Nat.zero_le _, Nat.le_refl _, Or.inl ⟨rfl, rfl, rfl, rfl⟩⟩
  · obtain ⟨z, z', k1, k2, ans, r, rfl, hz⟩ := key
    have e1 : fX5_findFault c0.1 c0.2.1 c0.2.2.1 c0.2.2.2.1 c0.2.2.2.2.1 c0.2.2.2.2.2.1 c0.2.2.2.2.2.2.1 c0.2.2.2.2.2.2.2 (nI l) ps = some (ans, r) := by
      unfold fX5_findFault fX5_begin
      rw [bd_some]
      show bd (iter (gX5_findFault_6 (nI l) ps) FU ((0 : Int32), (0 : Int32), c0)) _ = _
      rw [k1, bd_some, se_r]
    rcases hz with ⟨r', rfl⟩ | ⟨g, a, m, hal, rfl, ha⟩
    · refine ⟨ans, r, r', e1, ?_⟩
      unfold fX11_fault
      show bd (iter (gX11_fault_7 tp (nI l)) FU ((1 : Int32), (0 : Int32), m0)) _ = _
      rw [k2, bd_some, se_r]
    · refine ⟨ans, r, (nI a, m), e1, ?_⟩
      unfold fX11_fault
      show bd (iter (gX11_fault_7 tp (nI l)) FU ((1 : Int32), (0 : Int32), m0)) _ = _
      rw [k2, bd_some, se_l, ha]
      dsimp only
      by_cases q : a = l
      · subst q; rw [if_pos rfl, if_pos rfl]
      · rw [if_neg (fun z => q (nI_inj (by omega) (by omega) z)), if_neg q]
  · obtain ⟨c1, c2, c⟩ := c
    obtain ⟨d1, d2, m⟩ := c'
    obtain ⟨e1, a, e2, hal, hia, hc⟩ := hI
    dsimp only at e1 e2 hc
    subst e1 e2
    have body : ∀ p : Nat, p ≤ l → i ≤ p → gX5_findFault_6 (nI l) ps (nI i, nI a, c) = (bd (jX5_readNextOrder_18 c.2.1 c.2.2.1 c.2.2.2.1 c.2.2.2.2.1 c.2.2.2.2.2.1 c.2.2.2.2.2.2.1 c.2.2.2.2.2.2.2 (nI l) ps (nI p)) fun y : F10 => if y.1 = 0 then some (.inr (.inr (y.2.1, y.2))) else if y.2.1 < nI l then some (.inl (nI i + 1, y.2)) else some (.inr (.inr ((-6 : Int32), y.2)))) →
        gX11_fault_7 tp (nI l) (d1, d2, m) = (bd (fX11_takesOrder tp (nI l) (nI p) m.1 m.2.1 m.2.2.1 m.2.2.2.1 m.2.2.2.2.1 m.2.2.2.2.2.1 m.2.2.2.2.2.2.1 m.2.2.2.2.2.2.2.1) fun y : F11 => if y.1 = 0 then some (.inr (.inr (y.2.1, y.2))) else bd (fX11_takes tp (nI l) y.2.1 59) fun y_26 : Int32 × Int32 => some (.inl (y_26.1, y_26.2, y.2.2))) →
        (∃ b b', gX5_findFault_6 (nI l) ps (nI i, nI a, c) = some (.inl b) ∧ gX11_fault_7 tp (nI l) (d1, d2, m) = some (.inl b') ∧ (b.1 = nI (i + 1) ∧ ∃ a : Nat, b.2.1 = nI a ∧ a ≤ l ∧ i + 1 ≤ a ∧ ((i + 1 = 0 ∧ a = 0 ∧ b'.1 = 1 ∧ b'.2.1 = nI 0) ∨ (1 ≤ i + 1 ∧ a < l ∧ ((sg l tp a = 59 ∧ b'.1 = 1 ∧ b'.2.1 = nI (a + 1)) ∨ (¬ sg l tp a = 59 ∧ b'.1 = 0 ∧ b'.2.1 = nI a)))))) ∨
        (∃ b b', (∀ f, 80 - i < f → iter (gX5_findFault_6 (nI l) ps) f (nI i, nI a, c) = some b) ∧ (∀ f, 80 - i < f → iter (gX11_fault_7 tp (nI l)) f (d1, d2, m) = some b') ∧ ∃ (ans : Int32) (r : Int32 × O8), b = .inr (ans, r) ∧ ((∃ r' : Int32 × O9, b' = .inr (ans, r')) ∨ (∃ (g : Int32) (a : Nat) (m : O9), a ≤ l ∧ b' = .inl (g, nI a, m) ∧ ans = if a = l then -6 else nI a))) := by
      intro p hp hip s1 s2
      rcases order_c X hp c.2.1 c.2.2.1 c.2.2.2.1 c.2.2.2.2.1 c.2.2.2.2.2.1 c.2.2.2.2.2.2.1 c.2.2.2.2.2.2.2 m.1 m.2.1 m.2.2.1 m.2.2.2.1 m.2.2.2.2.1 m.2.2.2.2.2.1 m.2.2.2.2.2.2.1 m.2.2.2.2.2.2.2.1 with ⟨a', c', m', l1, l2, k1, k2⟩ | ⟨a', c', m', l1, l2, k1, k2, k3⟩
      · right
        rw [k1, bd_some, if_pos rfl] at s1
        rw [k2, bd_some, if_pos rfl] at s2
        exact ⟨_, _, fun f hf => iter_e s1 (by omega), fun f hf => iter_e s2 (by omega), _, _, rfl, Or.inl ⟨_, rfl⟩⟩
      · rw [k1, bd_some, if_neg i0ne1] at s1
        rw [k2, bd_some, if_neg i0ne1] at s2
        dsimp only at s1 s2
        by_cases q : a' < l
        · left
          rw [if_pos (nI_lt q (by omega)), nI1] at s1
          rcases take_c X l2 59 (by decide) with ⟨g, gs, -, m1⟩ | ⟨gn, -, m1⟩
          · rw [m1, bd_some] at s2
            exact ⟨_, _, s1, s2, rfl, a', rfl, l2, by omega, Or.inr ⟨by omega, q, Or.inl ⟨gs, rfl, rfl⟩⟩⟩
          · rw [m1, bd_some] at s2
            exact ⟨_, _, s1, s2, rfl, a', rfl, l2, by omega, Or.inr ⟨by omega, q, Or.inr ⟨gn, rfl, rfl⟩⟩⟩
        · right
          have : a' = l := by omega
          subst this
          rw [if_neg (by rw [lt_toInt]; omega)] at s1
          rcases take_c X l2 59 (by decide) with ⟨g, gs, -, m1⟩ | ⟨gn, -, m1⟩
          · omega
          · rw [m1, bd_some] at s2
            refine ⟨_, .inl (0, nI a', m'), fun f hf => iter_e s1 (by omega), fun f hf => ?_, _, _, rfl, Or.inr ⟨0, a', m', Nat.le_refl _, rfl, by rw [if_pos rfl]⟩⟩
            obtain ⟨f, rfl⟩ : ∃ q, f = q + 1 := ⟨f - 1, by omega⟩
            refine iter_n s2 (iter_e ?_ (by omega))
            unfold gX11_fault_7
            dsimp only
            rw [if_pos rfl]
    have n80 : ¬ (80 : Int32) ≤ nI i := c_ge (N := 80) (n := 80) rfl hi (by decide)
    rcases hc with ⟨rfl, rfl, rfl, rfl⟩ | ⟨hi1, hal', hc⟩
    · refine body 0 (Nat.zero_le _) (Nat.le_refl _) ?_ ?_
      · unfold gX5_findFault_6 fX5_readNextOrder
        dsimp only
        rw [if_neg n80, if_pos (show nI 0 ≤ 0 by decide)]
      · unfold gX11_fault_7
        dsimp only
        rw [if_neg i0ne1]
    · have ha0 : ¬ nI a ≤ 0 := c_ge (n := a) (i := 0) rfl (by omega) (by omega)
      rcases hc with ⟨gs, rfl, rfl⟩ | ⟨gn, rfl, rfl⟩
      · refine body (a + 1) hal' (by omega) ?_ ?_
        · unfold gX5_findFault_6 fX5_readNextOrder
          dsimp only
          rcases take_c X hal 59 (by decide) with ⟨g, -, t1, -⟩ | ⟨gn, -, -⟩
          · rw [if_neg n80, if_neg ha0, t1, bd_some, if_neg i0ne1]
          · exact absurd gs gn
        · unfold gX11_fault_7
          dsimp only
          rw [if_neg i0ne1]
      · right
        rcases take_c X hal 59 (by decide) with ⟨g, gs, -, -⟩ | ⟨-, t1, -⟩
        · exact absurd gs gn
        have s1 : gX5_findFault_6 (nI l) ps (nI i, nI a, c) = some (.inr (.inr (nI a, nI a, c))) := by
          unfold gX5_findFault_6 fX5_readNextOrder
          dsimp only
          rw [if_neg n80, if_neg ha0, t1, bd_some, if_pos rfl, bd_some, if_pos rfl]
        refine ⟨_, .inl (0, nI a, m), fun f hf => iter_e s1 (by omega), fun f hf => iter_e ?_ (by omega), _, _, rfl, Or.inr ⟨0, a, m, hal, rfl, by rw [if_neg (by omega)]⟩⟩
        unfold gX11_fault_7
        dsimp only
        rw [if_pos rfl]
  · exfalso
    obtain ⟨-, a, -, hal, hia, hc⟩ := hI
    rcases hc with ⟨h, -⟩ | ⟨-, h, -⟩
    · omega
    · omega
