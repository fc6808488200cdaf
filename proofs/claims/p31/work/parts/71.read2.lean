theorem ne_8 (k : Nat) (h : k < 1000) : ¬ nI k = (-8 : Int32) := fun e => by
  have := congrArg Int32.toInt e
  rw [nI_toInt (by omega), show (-8 : Int32).toInt = -8 by decide] at this
  omega
/-- a digit behind > -/
theorem least_c {l a : Nat} {ps tp : Nat → Int32} (X : TX l ps tp) (ha : a ≤ l) (rc : Int32) (y : Int32 × Int32) :
    (∃ c', jX5_readClaim_68 rc (nI l) ps y 4 (nI a) 0 = some (0, nI a, c') ∧ fX11_taken tp (nI l) (nI a) 48 55 = some (-1, nI a)) ∨ (∃ (k : Nat) (c' : Int32), a < l ∧ k ≤ 7 ∧ jX5_readClaim_68 rc (nI l) ps y 4 (nI a) 0 = some (1, nI (a + 1), c') ∧ fX11_taken tp (nI l) (nI a) 48 55 = some (nI k, nI (a + 1)) ∧ fX1_encode 4 y.1 0 (nI k) = some c') := by
  unfold jX5_readClaim_68 jX5_readClaim_83 jX5_readClaim_98 jX5_readClaim_113 jX5_readClaim_114 jX5_readClaim_132 jX5_readClaim_149 jX5_readClaim_163
  simp only [i00, if_true]
  rcases dig_c X ha with ⟨g1, g2⟩ | ⟨k, h, hk, -, g1, g2⟩
  · left
    obtain ⟨v, ev⟩ := enc_some 4 y.1 0 (-8)
    rw [g1, bd_some, ev, bd_some, if_pos rfl]
    exact ⟨v, rfl, g2⟩
  · right
    obtain ⟨f1, f2, f3, f4, f5, f6, f7, f8⟩ := d7 k (by omega)
    obtain ⟨v, ev⟩ := enc_some 4 y.1 0 (nI k)
    rw [g1, bd_some, ev, bd_some, if_neg f3]
    exact ⟨k, v, h, hk, rfl, g2, ev⟩
theorem form_c {l a : Nat} {ps tp : Nat → Int32} (X : TX l ps tp) (ha : a ≤ l) {c f : Int32} (hs : sg l tp a = c) (hf : fX5_formOf c = some f) (h8 : ¬ f = -8) : fX5_readForm (nI a) (nI l) ps = some (f, nI (a + 1)) := by
  unfold fX5_readForm
  rw [sgn_eq X ha, bd_some, hs, hf, bd_some, if_neg h8, nI1]
theorem claim_c {l a : Nat} {ps tp : Nat → Int32} (X : TX l ps tp) (ha : a ≤ l) (rc : Int32) :
    (∃ a' c' f1 f2 f3 f4, a ≤ a' ∧ a' ≤ l ∧ fX5_readClaim (nI a) rc (nI l) ps = some (0, nI a', c') ∧ fX11_takesClaim tp (nI l) (nI a) = some (0, nI a', f1, f2, f3, f4)) ∨ (∃ a' c' f1 f2 f3 f4, a < a' ∧ a' ≤ l ∧ fX5_readClaim (nI a) rc (nI l) ps = some (1, nI a', c') ∧ fX11_takesClaim tp (nI l) (nI a) = some (1, nI a', f1, f2, f3, f4) ∧ fX1_encode f1 f2 f3 f4 = some c') := by
  unfold fX5_readClaim fX11_takesClaim
  rcases take_c X ha 42 (by decide) with ⟨h, hs, t1, m1⟩ | ⟨hn, t1, m1⟩
  · right
    obtain ⟨v, ev⟩ := enc_some 0 0 0 0
    rw [t1, m1, bd_some, bd_some, if_neg i0ne1, if_neg i0ne1, ev, bd_some]
    exact ⟨a + 1, v, 0, 0, 0, 0, by omega, by omega, rfl, rfl, ev⟩
  rw [t1, m1, bd_some, bd_some, if_pos rfl, if_pos rfl]
  rcases var_c X ha with ⟨v1, v2⟩ | ⟨d, h, hd, hs, v1, v2⟩
  · left
    rw [v1, v2, bd_some, bd_some, if_pos rfl, if_neg (show ¬ (0 : Int32) ≤ -1 by decide)]
    unfold jX5_readClaim_42
    rw [if_pos rfl]
    exact ⟨a, _, _, _, _, _, by omega, by omega, rfl, rfl⟩
  have hd8 : ¬ nI d = -8 := (d7 d (by omega)).2.2.1
  have hd0 : (0 : Int32) ≤ nI d := (d7 d (by omega)).2.2.2.2.2.2.1
  have h1 : a + 1 ≤ l := h
  have h80 := X.1
  rw [v1, v2, bd_some, bd_some, if_neg hd8, if_pos hd0]
  rcases take_c X h1 62 (by decide) with ⟨g, gs, -, m2⟩ | ⟨n62, -, m62⟩
  · rw [form_c X h1 (f := 4) gs (by decide) (by decide), bd_some, m2, bd_some, if_neg i0ne1]
    unfold jX5_readClaim_42
    dsimp only
    rw [if_neg (by decide), if_neg (by decide), if_neg (by decide)]
    rcases least_c X (show a + 1 + 1 ≤ l from g) rc (nI d, nI (a + 1)) with ⟨c', k1, k2⟩ | ⟨k, c', gl, hk, k1, k2, k3⟩
    · left
      rw [k1, k2, bd_some, if_pos (show (-1 : Int32) < 0 by decide)]
      exact ⟨a + 1 + 1, _, _, _, _, _, by omega, by omega, rfl, rfl⟩
    · right
      rw [k1, k2, bd_some, if_neg (d7 k (by omega)).2.2.2.2.2.2.2]
      exact ⟨a + 1 + 1 + 1, _, _, _, _, _, by omega, by omega, rfl, rfl, k3⟩
  rw [m62, bd_some, if_pos rfl]
  rcases take_c X h1 38 (by decide) with ⟨g, gs, -, m2⟩ | ⟨n38, -, m38⟩
  · have hp : tp (a + 1) = 38 := by rw [← gs]; unfold sg; rw [if_pos g]
    rw [form_c X h1 (f := 8) gs (by decide) (by decide), bd_some, m2, bd_some, if_neg i0ne1]
    unfold jX5_readClaim_42 jX11_takesClaim_109 jX11_takesClaim_133
    dsimp only
    rw [if_neg (by decide), if_pos (by decide), nI_p, gd_nI (show a + 1 < 80 by omega) (by decide), ixn (by omega), if_pos hp]
    rcases pair_c X (show a + 1 + 1 ≤ l from g) rc (nI d, nI (a + 1)) 8 (by decide) with ⟨a', c', f1, f3, f4, l1, l2, k1, k2⟩ | ⟨a', c', f1, f3, f4, l1, l2, k1, k2, k3⟩
    · left
      rw [k1, k2, bd_some, show isB 0 = true by decide, gd_tr]
      exact ⟨a', _, _, _, _, _, by omega, by omega, rfl, rfl⟩
    · right
      rw [k1, k2, bd_some, show isB 1 = true by decide, gd_tr]
      exact ⟨a', _, _, _, _, _, by omega, by omega, rfl, rfl, k3⟩
  rw [m38, bd_some, if_pos rfl]
  rcases take_c X h1 37 (by decide) with ⟨g, gs, -, m2⟩ | ⟨n37, -, m37⟩
  · have hp : tp (a + 1) = 37 := by rw [← gs]; unfold sg; rw [if_pos g]
    rw [form_c X h1 (f := 9) gs (by decide) (by decide), bd_some, m2, bd_some, if_neg i0ne1]
    unfold jX5_readClaim_42 jX11_takesClaim_109 jX11_takesClaim_133
    dsimp only
    rw [if_neg (by decide), if_neg (by decide), if_pos (by decide), nI_p, gd_nI (show a + 1 < 80 by omega) (by decide), ixn (by omega), if_neg (by rw [hp]; decide)]
    rcases pair_c X (show a + 1 + 1 ≤ l from g) rc (nI d, nI (a + 1)) 9 (by decide) with ⟨a', c', f1, f3, f4, l1, l2, k1, k2⟩ | ⟨a', c', f1, f3, f4, l1, l2, k1, k2, k3⟩
    · left
      rw [k1, k2, bd_some, show isB 0 = true by decide, gd_tr]
      exact ⟨a', _, _, _, _, _, by omega, by omega, rfl, rfl⟩
    · right
      rw [k1, k2, bd_some, show isB 1 = true by decide, gd_tr]
      exact ⟨a', _, _, _, _, _, by omega, by omega, rfl, rfl, k3⟩
  rw [m37, bd_some, if_pos rfl]
  rcases take_c X h1 61 (by decide) with ⟨g, gs, -, m2⟩ | ⟨n61, -, m61⟩
  · rw [form_c X h1 (f := 1) gs (by decide) (by decide), bd_some, m2, bd_some, if_neg i0ne1]
    unfold jX5_readClaim_42
    dsimp only
    rw [if_neg (by decide), if_neg (by decide), if_neg (by decide)]
    rcases either_c X (show a + 1 + 1 ≤ l from g) rc (nI d, nI (a + 1)) 1 (by decide) with ⟨a', c', f1, f3, f4, l1, l2, k1, k2⟩ | ⟨a', c', f1, f3, f4, l1, l2, k1, k2, k3⟩
    · left
      rw [k1, k2, bd_some, show isB 0 = true by decide, gd_tr]
      exact ⟨a', _, _, _, _, _, by omega, by omega, rfl, rfl⟩
    · right
      rw [k1, k2, bd_some, show isB 1 = true by decide, gd_tr]
      exact ⟨a', _, _, _, _, _, by omega, by omega, rfl, rfl, k3⟩
  rw [m61, bd_some, if_pos rfl]
  rcases take_c X h1 33 (by decide) with ⟨g, gs, -, m2⟩ | ⟨n33, -, m33⟩
  · rw [form_c X h1 (f := 2) gs (by decide) (by decide), bd_some, m2, bd_some, if_neg i0ne1]
    unfold jX5_readClaim_42
    dsimp only
    rw [if_neg (by decide), if_neg (by decide), if_neg (by decide)]
    rcases either_c X (show a + 1 + 1 ≤ l from g) rc (nI d, nI (a + 1)) 2 (by decide) with ⟨a', c', f1, f3, f4, l1, l2, k1, k2⟩ | ⟨a', c', f1, f3, f4, l1, l2, k1, k2, k3⟩
    · left
      rw [k1, k2, bd_some, show isB 0 = true by decide, gd_tr]
      exact ⟨a', _, _, _, _, _, by omega, by omega, rfl, rfl⟩
    · right
      rw [k1, k2, bd_some, show isB 1 = true by decide, gd_tr]
      exact ⟨a', _, _, _, _, _, by omega, by omega, rfl, rfl, k3⟩
  rw [m33, bd_some, if_pos rfl]
  rcases take_c X h1 60 (by decide) with ⟨g, gs, -, m2⟩ | ⟨n60, -, m60⟩
  · rw [form_c X h1 (f := 3) gs (by decide) (by decide), bd_some, m2, bd_some, if_neg i0ne1]
    unfold jX5_readClaim_42
    dsimp only
    rw [if_neg (by decide), if_neg (by decide), if_neg (by decide)]
    rcases either_c X (show a + 1 + 1 ≤ l from g) rc (nI d, nI (a + 1)) 3 (by decide) with ⟨a', c', f1, f3, f4, l1, l2, k1, k2⟩ | ⟨a', c', f1, f3, f4, l1, l2, k1, k2, k3⟩
    · left
      rw [k1, k2, bd_some, if_pos rfl]
      exact ⟨a', _, _, _, _, _, by omega, by omega, rfl, rfl⟩
    · right
      rw [k1, k2, bd_some, if_neg i0ne1]
      exact ⟨a', _, _, _, _, _, by omega, by omega, rfl, rfl, k3⟩
  left
  have hr : fX5_readForm (nI (a + 1)) (nI l) ps = some (-8, nI (a + 1)) := by
    unfold fX5_readForm fX5_formOf
    rw [sgn_eq X h1, bd_some, if_neg n33, if_neg n37, if_neg n38, if_neg n60, if_neg n61, if_neg n62, bd_some, if_pos rfl]
  rw [hr, bd_some, m60, bd_some, if_pos rfl]
  unfold jX5_readClaim_42
  rw [if_pos rfl]
  exact ⟨a + 1, _, _, _, _, _, by omega, by omega, rfl, rfl⟩
theorem action_c {l a : Nat} {ps tp : Nat → Int32} (X : TX l ps tp) (ha : a ≤ l) (rh ry rk th : Int32) :
    (∃ a' c1 c2 c3 c4 f1 f2 f3 f4, a ≤ a' ∧ a' ≤ l ∧ fX5_readAction (nI a) rh ry rk (nI l) ps = some (0, nI a', c1, c2, c3, c4) ∧ fX11_takesAction tp (nI l) (nI a) th = some (0, nI a', f1, f2, f3, f4)) ∨ (∃ a' f1 f2 f3 f4, a < a' ∧ a' ≤ l ∧ fX5_readAction (nI a) rh ry rk (nI l) ps = some (1, nI a', f1, f2, f3, f4) ∧ fX11_takesAction tp (nI l) (nI a) th = some (1, nI a', f1, f2, f3, f4)) := by
  unfold fX5_readAction fX11_takesAction
  rcases var_c X ha with ⟨v1, v2⟩ | ⟨d, h, hd, hs, v1, v2⟩
  · left
    rw [v1, v2, bd_some, bd_some, if_pos rfl, if_neg (show ¬ (0 : Int32) ≤ -1 by decide)]
    exact ⟨a, _, _, _, _, _, _, _, _, by omega, by omega, rfl, rfl⟩
  have hd8 : ¬ nI d = -8 := (d7 d (by omega)).2.2.1
  have hd0 : (0 : Int32) ≤ nI d := (d7 d (by omega)).2.2.2.2.2.2.1
  have h1 : a + 1 ≤ l := h
  rw [v1, v2, bd_some, bd_some, if_neg hd8, if_pos hd0]
  rcases take_c X h1 126 (by decide) with ⟨g, gs, t1, m1⟩ | ⟨n126, t1, m1⟩
  · rw [t1, m1, bd_some, bd_some, if_neg i0ne1, if_neg i0ne1]
    rcases var_c X (show a + 1 + 1 ≤ l from g) with ⟨w1, w2⟩ | ⟨e, h2, he, -, w1, w2⟩
    · left
      rw [w1, w2, bd_some, bd_some, if_pos rfl, if_pos (show (-1 : Int32) < 0 by decide)]
      exact ⟨a + 1 + 1, _, _, _, _, _, _, _, _, by omega, by omega, rfl, rfl⟩
    · right
      rw [w1, w2, bd_some, bd_some, if_neg (d7 e (by omega)).2.2.1, if_neg (d7 e (by omega)).2.2.2.2.2.2.2]
      exact ⟨a + 1 + 1 + 1, _, _, _, _, by omega, by omega, rfl, rfl⟩
  rw [t1, m1, bd_some, bd_some, if_pos rfl, if_pos rfl]
  rcases take_c X h1 61 (by decide) with ⟨g, gs, t2, m2⟩ | ⟨n61, t2, m2⟩
  · rw [t2, m2, bd_some, bd_some, if_neg i0ne1, if_neg i0ne1]
    have h2 : a + 1 + 1 ≤ l := g
    unfold jX5_readAction_123 jX11_takesAction_140
    dsimp only
    rcases var_c X h2 with ⟨w1, w2⟩ | ⟨e, h3, he, hse, w1, w2⟩
    · rw [w1, bd_some, if_pos rfl]
      rcases dig_c X h2 with ⟨g1, g2⟩ | ⟨k, h4, hk, -, g1, g2⟩
      · left
        rw [g1, g2, bd_some, bd_some, if_pos rfl, if_pos (show (-1 : Int32) < 0 by decide), w2, bd_some, if_neg (show ¬ (0 : Int32) ≤ -1 by decide), if_pos (show (-1 : Int32) < 0 by decide)]
        exact ⟨a + 1 + 1, _, _, _, _, _, _, _, _, by omega, by omega, rfl, rfl⟩
      · right
        obtain ⟨f1, f2, f3, f4, f5, f6, f7, f8⟩ := d7 k (by omega)
        rw [g1, g2, bd_some, bd_some, if_neg f3, if_neg f8]
        exact ⟨a + 1 + 1 + 1, _, _, _, _, by omega, by omega, rfl, rfl⟩
    · have g2 : fX11_taken tp (nI l) (nI (a + 1 + 1)) 48 55 = some (-1, nI (a + 1 + 1)) := by
        rcases dig_c X h2 with ⟨-, g2⟩ | ⟨k, -, hk, hs2, -, -⟩
        · exact g2
        · rw [hse] at hs2
          have := nI_inj (by omega) (by omega) hs2
          omega
      obtain ⟨f1, f2, f3, f4, f5, f6, f7, f8⟩ := d7 e (by omega)
      rw [w1, bd_some, if_neg f3, g2, bd_some, if_pos (show (-1 : Int32) < 0 by decide), w2, bd_some, if_pos f7]
      rcases off_c X (show a + 1 + 1 + 1 ≤ l from h3) with ⟨a', l1, l2, o1, o2⟩ | ⟨k, a', l1, l2, k8, k60, o1, o2⟩
      · left
        rw [o1, o2, bd_some, bd_some, if_pos rfl, if_neg f8, if_pos rfl]
        exact ⟨a', _, _, _, _, _, _, _, _, by omega, l2, rfl, rfl⟩
      · right
        rw [o1, o2, bd_some, bd_some, if_neg k8, if_neg f8, if_neg k60]
        exact ⟨a', _, _, _, _, by omega, l2, rfl, rfl⟩
  · left
    rw [t2, m2, bd_some, bd_some, if_pos rfl, if_pos rfl]
    exact ⟨a + 1, _, _, _, _, _, _, _, _, by omega, by omega, rfl, rfl⟩
theorem num_c {l a : Nat} {ps tp : Nat → Int32} (X : TX l ps tp) (ha : a ≤ l) :
    (fX5_readNumber (nI a) (nI l) ps = some (-8, nI a) ∧ fX11_takenNumber tp (nI l) (nI a) = some (-1, nI a)) ∨ (∃ v a' : Nat, v < 1000 ∧ a < a' ∧ a' ≤ l ∧ fX5_readNumber (nI a) (nI l) ps = some (nI v, nI a') ∧ fX11_takenNumber tp (nI l) (nI a) = some (nI v, nI a')) := by
  unfold fX5_readNumber fX11_takenNumber
  rcases btw X ha (lo := 48) (hi := 57) (by decide) (by decide) (by decide) with ⟨e1, e2, -, -⟩ | ⟨d, h, hd, hs, e1, e2, -⟩
  · left
    have k1 : iter (gX5_readNumber_11 (nI l) ps) FU ((-8 : Int32), (1 : Int32), nI a) = some (.inl (-8, 1, nI a)) := iter_e (by
      unfold gX5_readNumber_11
      dsimp only
      rw [if_neg (show ¬ (3 : Int32) ≤ 1 by decide), if_pos (show (-8 : Int32) ≤ 0 by decide)]) (by decide)
    have k2 : iter (gX11_takenNumber_9 tp (nI l)) FU ((-1 : Int32), nI a) = some (-1, nI a) := iter_e (by
      unfold gX11_takenNumber_9
      dsimp only
      rw [if_pos (show (-1 : Int32) ≤ 0 by decide)]) (by decide)
    rw [show (48 : Int32) = nI 48 from rfl, show (57 : Int32) = nI 57 from rfl, e1, e2, bd_some, bd_some, k1, k2, bd_some, bd_some, se_l]
    exact ⟨rfl, rfl⟩
  · right
    have key := iter2 (g := gX5_readNumber_11 (nI l) ps) (g' := gX11_takenNumber_9 tp (nI l)) (fun (i : Nat) (c : Int32 × Int32 × Int32) (c' : Int32 × Int32) => ∃ v b : Nat, a < b ∧ b ≤ l ∧ c = (nI v, nI i, nI b) ∧ c' = (nI v, nI b) ∧ (i = 1 ∧ v < 10 ∨ i = 2 ∧ 10 ≤ v ∧ v < 100 ∨ i = 3 ∧ 100 ≤ v ∧ v < 1000))
      (fun (z : (Int32 × Int32 × Int32) ⊕ (Int32 × Int32)) (c' : Int32 × Int32) => ∃ (v b : Nat) (e : Int32), v < 1000 ∧ a < b ∧ b ≤ l ∧ z = .inl (nI v, e, nI b) ∧ c' = (nI v, nI b)) 3 (fun i c c' hi hI => ?_) (fun c c' hI => ?_) 2 1 (nI d, (1 : Int32), nI (a + 1)) (nI d, nI (a + 1)) FU FU (by omega) (by decide) (by decide) ⟨d, a + 1, by omega, h, rfl, rfl, Or.inl ⟨rfl, by omega⟩⟩
    · obtain ⟨z, b', k1, k2, v, b, e, q1, q2, q3, rfl, rfl⟩ := key
      rw [show (48 : Int32) = nI 48 from rfl, show (57 : Int32) = nI 57 from rfl, e1, e2, bd_some, bd_some, k1, k2, bd_some, bd_some, se_l]
      exact ⟨v, b, q1, q2, q3, rfl, rfl⟩
    · obtain ⟨v, b, q1, q2, rfl, rfl, q3⟩ := hI
      have hi3 : ¬ (3 : Int32) ≤ nI i := c_ge (N := 3) (n := 3) rfl hi (by decide)
      have s1 : gX5_readNumber_11 (nI l) ps (nI v, nI i, nI b) = (if nI v ≤ 0 then some (.inr (.inl (nI v, nI i, nI b))) else bd (fX5_readBetween (nI b) (nI l) ps 48 57) fun y_25 : Int32 × Int32 => if y_25.1 = (-8 : Int32) then some (.inr (.inl (nI v, nI i, y_25.2))) else some (.inl (((10 : Int32) * nI v) + y_25.1, nI i + 1, y_25.2))) := by
        unfold gX5_readNumber_11
        dsimp only
        rw [if_neg hi3]
      have s2 : gX11_takenNumber_9 tp (nI l) (nI v, nI b) = (if nI v ≤ 0 then some (.inr (nI v, nI b)) else if (100 : Int32) ≤ nI v then some (.inr (nI v, nI b)) else bd (fX11_isAt tp (nI l) (nI b) 48 57) fun y_24 : Int32 => if y_24 = 0 then some (.inr (nI v, nI b)) else bd (fX11_taken tp (nI l) (nI b) 48 57) fun y_39 : Int32 × Int32 => some (.inl (((10 : Int32) * nI v) + y_39.1, y_39.2))) := rfl
      by_cases h0 : v = 0
      · subst h0
        rw [if_pos (show nI 0 ≤ 0 by decide)] at s1 s2
        right
        exact ⟨_, _, fun f hf => iter_e s1 (by omega), fun f hf => iter_e s2 (by omega), 0, b, _, by decide, q1, q2, rfl, rfl⟩
      · have hv0 : ¬ nI v ≤ 0 := c_ge (n := v) (i := 0) rfl (by omega) (by omega)
        have hv1 : ¬ (100 : Int32) ≤ nI v := c_ge (N := 100) (n := 100) rfl (by omega) (by decide)
        rw [if_neg hv0] at s1
        rw [if_neg hv0, if_neg hv1] at s2
        rcases btw X q2 (lo := 48) (hi := 57) (by decide) (by decide) (by decide) with ⟨e1, e2, e3, -⟩ | ⟨k, h3, hk, -, e1, e2, e3⟩
        · right
          rw [show (48 : Int32) = nI 48 from rfl, show (57 : Int32) = nI 57 from rfl, e1, bd_some, if_pos rfl] at s1
          rw [show (48 : Int32) = nI 48 from rfl, show (57 : Int32) = nI 57 from rfl, e3, bd_some, if_pos rfl] at s2
          exact ⟨_, _, fun f hf => iter_e s1 (by omega), fun f hf => iter_e s2 (by omega), v, b, _, by omega, q1, q2, rfl, rfl⟩
        · left
          rw [show (48 : Int32) = nI 48 from rfl, show (57 : Int32) = nI 57 from rfl, e1, bd_some, if_neg (ne_8 k (by omega)), show (10 : Int32) = nI 10 from rfl, pk_mul, nI_add, nI1] at s1
          rw [show (48 : Int32) = nI 48 from rfl, show (57 : Int32) = nI 57 from rfl, e3, bd_some, if_neg i0ne1, e2, bd_some, show (10 : Int32) = nI 10 from rfl, pk_mul, nI_add] at s2
          exact ⟨_, _, s1, s2, 10 * v + k, b + 1, by omega, by omega, rfl, rfl, by omega⟩
    · obtain ⟨v, b, q1, q2, rfl, rfl, q3⟩ := hI
      have hv : 100 ≤ v ∧ v < 1000 := by omega
      refine ⟨.inl (nI v, nI 3, nI b), (nI v, nI b), fun f hf => iter_e ?_ hf, fun f hf => iter_e ?_ hf, v, b, _, by omega, q1, q2, rfl, rfl⟩
      · unfold gX5_readNumber_11
        dsimp only
        rw [if_pos (show (3 : Int32) ≤ nI 3 by decide)]
      · unfold gX11_takenNumber_9
        dsimp only
        rw [if_neg (show ¬ nI v ≤ 0 from c_ge (n := v) (i := 0) rfl (by omega) (by omega)), if_pos (c_le (N := 100) (n := 100) rfl hv.1 (by omega))]
theorem run_c {l a : Nat} {ps tp : Nat → Int32} (X : TX l ps tp) (ha : a ≤ l) (rm ot : Int32) :
    (∃ a' c1 c2 f1 f2, a ≤ a' ∧ a' ≤ l ∧ fX5_readRun (nI a) rm (nI l) ps = some (0, nI a', c1, c2) ∧ fX11_takesRun tp (nI l) (nI a) ot = some (0, nI a', f1, f2)) ∨ (∃ a' f1 f2, a < a' ∧ a' ≤ l ∧ fX5_readRun (nI a) rm (nI l) ps = some (1, nI a', f1, f2) ∧ fX11_takesRun tp (nI l) (nI a) ot = some (1, nI a', f1, f2)) := by
  unfold fX5_readRun fX11_takesRun
  rcases num_c X ha with ⟨e1, e2⟩ | ⟨v, b, hv, l1, l2, e1, e2⟩
  · left
    rw [e1, e2, bd_some, bd_some, if_pos rfl, if_pos (show (-1 : Int32) < 0 by decide)]
    exact ⟨a, _, _, _, _, by omega, by omega, rfl, rfl⟩
  rw [e1, e2, bd_some, bd_some, if_neg (ne_8 v hv), if_neg (c_lt0 (by omega))]
  rcases take_c X l2 42 (by decide) with ⟨g, -, t1, m1⟩ | ⟨-, t1, m1⟩
  · rw [t1, m1, bd_some, bd_some, if_neg i0ne1, if_neg i0ne1]
    rcases num_c X (show b + 1 ≤ l from g) with ⟨g1, g2⟩ | ⟨u, c, hu, l3, l4, g1, g2⟩
    · left
      rw [g1, g2, bd_some, bd_some, if_pos rfl, if_pos (show (-1 : Int32) < 0 by decide)]
      exact ⟨b + 1, _, _, _, _, by omega, by omega, rfl, rfl⟩
    · right
      rw [g1, g2, bd_some, bd_some, if_neg (ne_8 u hu), if_neg (c_lt0 (by omega))]
      exact ⟨c, _, _, by omega, l4, rfl, rfl⟩
  · left
    rw [t1, m1, bd_some, bd_some, if_pos rfl, if_pos rfl]
    exact ⟨b, _, _, _, _, by omega, l2, rfl, rfl⟩
