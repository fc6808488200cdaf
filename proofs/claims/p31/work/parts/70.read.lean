/-! ===== reading the pad ===== -/
def TX (l : Nat) (ps tp : Nat → Int32) : Prop := l ≤ 80 ∧ ∀ j, j < l → ps j = tp j
/-- the sign at a place, 0 behind the last one -/
def sg (l : Nat) (tp : Nat → Int32) (a : Nat) : Int32 := if a < l then tp a else 0
theorem sgn_eq {l a : Nat} {ps tp : Nat → Int32} (X : TX l ps tp) (ha : a ≤ l) : fX4_signAt (nI l) ps (nI a) = some (sg l tp a) := by
  obtain ⟨hl, hj⟩ := X
  unfold fX4_signAt sg
  rw [if_neg (c_lt0 (by omega))]
  by_cases h : a < l
  · rw [if_neg (c_ge (n := l) rfl h (by omega)), gd_nI (show a < 80 by omega) (by decide), ixn (by omega), hj a h, if_pos h]
  · rw [if_pos (c_le (n := l) rfl (by omega) (by omega)), if_neg h]
theorem isAt_eq {l a : Nat} {tp : Nat → Int32} (hl : l ≤ 80) (ha : a ≤ l) (lo hi : Int32) : (fX11_isAt tp (nI l) (nI a) lo hi = some 0 ∧ (a = l ∨ (sg l tp a).toInt < lo.toInt ∨ hi.toInt < (sg l tp a).toInt)) ∨ (fX11_isAt tp (nI l) (nI a) lo hi = some 1 ∧ a < l ∧ lo.toInt ≤ (sg l tp a).toInt ∧ (sg l tp a).toInt ≤ hi.toInt) := by
  unfold fX11_isAt sg
  by_cases h : a < l
  · rw [if_neg (c_ge (n := l) rfl h (by omega)), gd_nI (show a < 80 by omega) (by decide), ixn (by omega), if_pos h]
    rcases in_01 (tp a) lo hi with ⟨e, q⟩ | ⟨e, q1, q2⟩
    · rw [e, bd_some, if_pos rfl]; exact Or.inl ⟨rfl, Or.inr q⟩
    · rw [e, bd_some, if_neg i0ne1]; exact Or.inr ⟨rfl, h, q1, q2⟩
  · rw [if_pos (c_le (n := l) rfl (by omega) (by omega))]
    exact Or.inl ⟨rfl, Or.inl (by omega)⟩
theorem take_c {l a : Nat} {ps tp : Nat → Int32} (X : TX l ps tp) (ha : a ≤ l) (c : Int32) (hc : ¬ c = 0) :
    (a < l ∧ sg l tp a = c ∧ fX5_take (nI a) (nI l) ps c = some (1, nI (a + 1)) ∧ fX11_takes tp (nI l) (nI a) c = some (1, nI (a + 1))) ∨ (¬ sg l tp a = c ∧ fX5_take (nI a) (nI l) ps c = some (0, nI a) ∧ fX11_takes tp (nI l) (nI a) c = some (0, nI a)) := by
  unfold fX5_take fX11_takes
  rw [sgn_eq X ha, bd_some]
  rcases isAt_eq (tp := tp) X.1 ha c c with ⟨e, q⟩ | ⟨e, h, q1, q2⟩
  · right
    have hn : ¬ sg l tp a = c := by
      rcases q with q | q | q
      · intro z; apply hc; rw [← z]; unfold sg; rw [if_neg (by omega)]
      · intro z; rw [z] at q; omega
      · intro z; rw [z] at q; omega
    refine ⟨hn, by rw [if_neg hn], ?_⟩
    rw [e, bd_some, if_pos rfl, show isB 0 = true by decide, gd_tr, Int32.add_zero]
  · left
    have hs : sg l tp a = c := by rw [eq_toInt]; omega
    refine ⟨h, hs, by rw [if_pos hs, nI1], ?_⟩
    rw [e, bd_some, if_neg i0ne1, show isB 1 = true by decide, gd_tr, nI1]
theorem btw {l a : Nat} {ps tp : Nat → Int32} (X : TX l ps tp) (ha : a ≤ l) {lo hi : Nat} (h0 : 0 < lo) (hlh : lo ≤ hi) (hh : hi < 128) :
    (fX5_readBetween (nI a) (nI l) ps (nI lo) (nI hi) = some (-8, nI a) ∧ fX11_taken tp (nI l) (nI a) (nI lo) (nI hi) = some (-1, nI a) ∧ fX11_isAt tp (nI l) (nI a) (nI lo) (nI hi) = some 0 ∧ ∀ d, lo + d ≤ hi → ¬ sg l tp a = nI (lo + d)) ∨ (∃ d : Nat, a < l ∧ lo + d ≤ hi ∧ sg l tp a = nI (lo + d) ∧ fX5_readBetween (nI a) (nI l) ps (nI lo) (nI hi) = some (nI d, nI (a + 1)) ∧ fX11_taken tp (nI l) (nI a) (nI lo) (nI hi) = some (nI d, nI (a + 1)) ∧ fX11_isAt tp (nI l) (nI a) (nI lo) (nI hi) = some 1) := by
  unfold fX5_readBetween fX11_taken
  have hX := X.1
  rw [sgn_eq X ha, bd_some]
  rcases isAt_eq (tp := tp) X.1 ha (nI lo) (nI hi) with ⟨e, q⟩ | ⟨e, h, q1, q2⟩
  · left
    have hn : ∀ d, lo + d ≤ hi → ¬ sg l tp a = nI (lo + d) := fun d hd z => by
      rcases q with q | q | q
      · have : sg l tp a = nI 0 := by unfold sg; rw [if_neg (by omega)]; rfl
        rw [this] at z
        have := nI_inj (by decide) (by omega) z
        omega
      · rw [z, nI_toInt (by omega), nI_toInt (by omega)] at q; omega
      · rw [z, nI_toInt (by omega), nI_toInt (by omega)] at q; omega
    refine ⟨?_, by rw [e, bd_some, if_pos rfl], e, hn⟩
    by_cases c1 : sg l tp a < nI lo
    · rw [if_pos c1]
    · rw [if_neg c1]
      have c2 : ¬ sg l tp a ≤ nI hi := fun c2 => by
        rw [lt_toInt] at c1; rw [le_toInt] at c2
        rcases q with q | q | q
        · have : sg l tp a = nI 0 := by unfold sg; rw [if_neg (by omega)]; rfl
          rw [this, nI_toInt (by omega), nI_toInt (by omega)] at c1; omega
        · omega
        · omega
      rw [if_neg c2]
  · right
    rw [nI_toInt (by omega)] at q1 q2
    obtain ⟨s, hs, es⟩ : ∃ s : Nat, s < 2 ^ 31 ∧ sg l tp a = nI s := nI_of (by rw [lt_toInt, tI0]; omega)
    have hpa : tp a = nI s := by rw [← es]; unfold sg; rw [if_pos h]
    rw [es, nI_toInt hs] at q1 q2
    obtain ⟨d, rfl⟩ : ∃ d, s = lo + d := ⟨s - lo, by omega⟩
    refine ⟨d, h, by omega, es, ?_, ?_, e⟩
    · rw [es, if_neg (show ¬ nI (lo + d) < nI lo by rw [lt_toInt, nI_toInt (by omega), nI_toInt (by omega)]; omega), if_pos (show nI (lo + d) ≤ nI hi by rw [le_toInt, nI_toInt (by omega), nI_toInt (by omega)]; omega), pk_sub (by omega), nI1, Nat.add_sub_cancel_left]
    · rw [e, bd_some, if_neg i0ne1, nI1, nI_p, gd_nI (show a < 80 by omega) (by decide), ixn (by omega), hpa, pk_sub (by omega), Nat.add_sub_cancel_left]
theorem var_c {l a : Nat} {ps tp : Nat → Int32} (X : TX l ps tp) (ha : a ≤ l) :
    (fX5_readVar (nI a) (nI l) ps = some (-8, nI a) ∧ fX11_taken tp (nI l) (nI a) 97 99 = some (-1, nI a)) ∨ (∃ d : Nat, a < l ∧ d ≤ 2 ∧ sg l tp a = nI (97 + d) ∧ fX5_readVar (nI a) (nI l) ps = some (nI d, nI (a + 1)) ∧ fX11_taken tp (nI l) (nI a) 97 99 = some (nI d, nI (a + 1))) := by
  unfold fX5_readVar
  rcases btw X ha (lo := 97) (hi := 99) (by decide) (by decide) (by decide) with ⟨e1, e2, -, -⟩ | ⟨d, h, hd, hs, e1, e2, -⟩
  · left; exact ⟨by rw [show (97 : Int32) = nI 97 from rfl, show (99 : Int32) = nI 99 from rfl, e1, bd_some], e2⟩
  · right; exact ⟨d, h, by omega, hs, by rw [show (97 : Int32) = nI 97 from rfl, show (99 : Int32) = nI 99 from rfl, e1, bd_some], e2⟩
theorem dig_c {l a : Nat} {ps tp : Nat → Int32} (X : TX l ps tp) (ha : a ≤ l) :
    (fX5_readDigit (nI a) (nI l) ps = some (-8, nI a) ∧ fX11_taken tp (nI l) (nI a) 48 55 = some (-1, nI a)) ∨ (∃ d : Nat, a < l ∧ d ≤ 7 ∧ sg l tp a = nI (48 + d) ∧ fX5_readDigit (nI a) (nI l) ps = some (nI d, nI (a + 1)) ∧ fX11_taken tp (nI l) (nI a) 48 55 = some (nI d, nI (a + 1))) := by
  unfold fX5_readDigit
  rcases btw X ha (lo := 48) (hi := 55) (by decide) (by decide) (by decide) with ⟨e1, e2, -, -⟩ | ⟨d, h, hd, hs, e1, e2, -⟩
  · left; exact ⟨by rw [show (48 : Int32) = nI 48 from rfl, show (55 : Int32) = nI 55 from rfl, e1, bd_some], e2⟩
  · right; exact ⟨d, h, by omega, hs, by rw [show (48 : Int32) = nI 48 from rfl, show (55 : Int32) = nI 55 from rfl, e1, bd_some], e2⟩
theorem d7 : ∀ d, d < 8 → (-1 : Int32) * nI d = -nI d ∧ (1 : Int32) * nI d = nI d ∧ ¬ nI d = -8 ∧ ¬ nI d = -60 ∧ ¬ -nI d = -8 ∧ ¬ -nI d = -60 ∧ 0 ≤ nI d ∧ ¬ nI d < 0 := by decide +kernel
theorem off_c {l a : Nat} {ps tp : Nat → Int32} (X : TX l ps tp) (ha : a ≤ l) :
    (∃ a', a ≤ a' ∧ a' ≤ l ∧ fX5_readOffset (nI a) (nI l) ps = some (-8, nI a') ∧ fX11_takenOffset tp (nI l) (nI a) = some (-60, nI a')) ∨ (∃ (k : Int32) (a' : Nat), a ≤ a' ∧ a' ≤ l ∧ ¬ k = -8 ∧ ¬ k = -60 ∧ fX5_readOffset (nI a) (nI l) ps = some (k, nI a') ∧ fX11_takenOffset tp (nI l) (nI a) = some (k, nI a')) := by
  unfold fX5_readOffset fX11_takenOffset
  rcases take_c X ha 45 (by decide) with ⟨h, hs, t1, m1⟩ | ⟨hn, t1, m1⟩
  · rcases take_c X ha 43 (by decide) with ⟨-, hs2, -, -⟩ | ⟨-, -, m2⟩
    · rw [hs] at hs2; exact absurd hs2 (by decide)
    rw [t1, bd_some, if_neg i0ne1, m2, bd_some, if_pos rfl, m1, bd_some, if_neg i0ne1]
    unfold jX5_readOffset_22 jX11_takenOffset_27
    rw [if_neg (show ¬ (-1 : Int32) = 0 by decide)]
    dsimp only
    rcases dig_c X (show a + 1 ≤ l from h) with ⟨e1, e2⟩ | ⟨d, h2, hd, -, e1, e2⟩
    · rw [e1, e2, bd_some, bd_some, if_neg i0ne1, if_pos rfl, if_neg (show ¬ (0 : Int32) ≤ -1 by decide)]
      exact Or.inl ⟨a + 1, by omega, by omega, rfl, rfl⟩
    · obtain ⟨f1, f2, f3, f4, f5, f6, f7, f8⟩ := d7 d (by omega)
      rw [e1, e2, bd_some, bd_some, if_neg i0ne1, if_neg f3, if_pos f7, f1]
      exact Or.inr ⟨_, a + 1 + 1, by omega, by omega, f5, f6, rfl, rfl⟩
  · rcases take_c X ha 43 (by decide) with ⟨h, hs, t2, m2⟩ | ⟨hn2, t2, m2⟩
    · rw [t1, bd_some, if_pos rfl, t2, bd_some, if_neg i0ne1, m2, bd_some, if_neg i0ne1]
      unfold jX5_readOffset_22 jX11_takenOffset_27
      rw [if_neg (show ¬ (1 : Int32) = 0 by decide)]
      dsimp only
      rcases dig_c X (show a + 1 ≤ l from h) with ⟨e1, e2⟩ | ⟨d, h2, hd, -, e1, e2⟩
      · rw [e1, e2, bd_some, bd_some, if_pos rfl, if_neg (show ¬ (0 : Int32) ≤ -1 by decide)]
        exact Or.inl ⟨a + 1, by omega, by omega, rfl, rfl⟩
      · obtain ⟨f1, f2, f3, f4, f5, f6, f7, f8⟩ := d7 d (by omega)
        rw [e1, e2, bd_some, bd_some, if_pos rfl, if_pos f7, f2]
        exact Or.inr ⟨_, a + 1 + 1, by omega, by omega, f3, f4, rfl, rfl⟩
    · rw [t1, bd_some, if_pos rfl, t2, bd_some, if_pos rfl, m2, bd_some, if_pos rfl, m1, bd_some, if_pos rfl]
      unfold jX11_takenOffset_27
      rw [if_pos rfl]
      exact Or.inr ⟨0, a, by omega, by omega, by decide, by decide, rfl, rfl⟩
theorem enc_some (a b c d : Int32) : ∃ v, fX1_encode a b c d = some v := by
  unfold fX1_encode
  rw [isClaim_eq]
  obtain ⟨v, e⟩ := isClaim_01 a b c d
  rw [e, bd_some]
  cases v
  · exact ⟨_, rfl⟩
  · exact ⟨_, rfl⟩
/-- a digit, or a number and an offset, behind one of the first three signs -/
theorem either_c {l a : Nat} {ps tp : Nat → Int32} (X : TX l ps tp) (ha : a ≤ l) (rc : Int32) (y : Int32 × Int32) (one : Int32) (h1 : one = 1 ∨ one = 2 ∨ one = 3) :
    (∃ a' c' f1 f3 f4, a ≤ a' ∧ a' ≤ l ∧ jX5_readClaim_68 rc (nI l) ps y one (nI a) 0 = some (0, nI a', c') ∧ fX11_takesEither tp (nI l) (nI a) one = some (0, nI a', f1, f3, f4)) ∨ (∃ a' c' f1 f3 f4, a < a' ∧ a' ≤ l ∧ jX5_readClaim_68 rc (nI l) ps y one (nI a) 0 = some (1, nI a', c') ∧ fX11_takesEither tp (nI l) (nI a) one = some (1, nI a', f1, f3, f4) ∧ fX1_encode f1 y.1 f3 f4 = some c') := by
  have n4 : ¬ one = 4 := by rcases h1 with rfl | rfl | rfl <;> decide
  have e5 : (one - 1) + 5 = one + 4 := by rcases h1 with rfl | rfl | rfl <;> decide
  unfold jX5_readClaim_68 jX5_readClaim_83 jX5_readClaim_98 jX5_readClaim_113 jX5_readClaim_114 jX5_readClaim_132 jX5_readClaim_149 jX5_readClaim_163 fX11_takesEither
  rw [if_neg n4]
  rcases var_c X ha with ⟨v1, v2⟩ | ⟨d, h, hd, hs, v1, v2⟩
  · rw [v1, bd_some]
    simp only [i00, if_true]
    rcases dig_c X ha with ⟨g1, g2⟩ | ⟨k, h, hk, -, g1, g2⟩
    · left
      obtain ⟨v, ev⟩ := enc_some one y.1 0 (-8)
      rw [g1, g2, bd_some, bd_some, if_pos (show (-1 : Int32) < 0 by decide), v2, bd_some, if_neg (show ¬ (0 : Int32) ≤ -1 by decide)]
      unfold jX11_takesEither_66
      rw [ev, bd_some, if_pos rfl, if_pos (show (-1 : Int32) < 0 by decide)]
      exact ⟨a, _, _, _, _, by omega, by omega, rfl, rfl⟩
    · right
      obtain ⟨f1, f2, f3, f4, f5, f6, f7, f8⟩ := d7 k (by omega)
      obtain ⟨v, ev⟩ := enc_some one y.1 0 (nI k)
      rw [g1, g2, bd_some, bd_some, if_neg f8, ev, bd_some, if_neg f3]
      exact ⟨a + 1, _, _, _, _, by omega, by omega, rfl, rfl, ev⟩
  · have hd8 : ¬ nI d = -8 := (d7 d (by omega)).2.2.1
    have hd0 : (0 : Int32) ≤ nI d := (d7 d (by omega)).2.2.2.2.2.2.1
    have hdn : ¬ nI d < 0 := (d7 d (by omega)).2.2.2.2.2.2.2
    rw [v1, bd_some]
    simp only [i00, i10, if_neg hd8, if_true, if_false]
    have g2 : fX11_taken tp (nI l) (nI a) 48 55 = some (-1, nI a) := by
      rcases dig_c X ha with ⟨-, g2⟩ | ⟨k, -, hk, hs2, -, -⟩
      · exact g2
      · rw [hs] at hs2
        have := nI_inj (by omega) (by omega) hs2
        omega
    rw [g2, bd_some, if_pos (show (-1 : Int32) < 0 by decide), v2, bd_some, if_pos hd0]
    unfold jX11_takesEither_66
    dsimp only
    rw [e5]
    rcases off_c X (show a + 1 ≤ l from h) with ⟨a', l1, l2, o1, o2⟩ | ⟨k, a', l1, l2, k8, k60, o1, o2⟩
    · left
      obtain ⟨v, ev⟩ := enc_some (one + 4) y.1 (nI d) (-8)
      rw [o1, o2, bd_some, bd_some, ev, bd_some, if_pos rfl, if_neg hdn, if_pos rfl]
      exact ⟨a', _, _, _, _, by omega, l2, rfl, rfl⟩
    · right
      obtain ⟨v, ev⟩ := enc_some (one + 4) y.1 (nI d) k
      rw [o1, o2, bd_some, bd_some, ev, bd_some, if_neg k8, if_neg hdn, if_neg k60]
      exact ⟨a', _, _, _, _, by omega, l2, rfl, rfl, ev⟩
/-- a number and a digit behind & or % -/
theorem pair_c {l a : Nat} {ps tp : Nat → Int32} (X : TX l ps tp) (ha : a ≤ l) (rc : Int32) (y : Int32 × Int32) (one : Int32) (h1 : one = 8 ∨ one = 9) :
    (∃ a' c' f1 f3 f4, a ≤ a' ∧ a' ≤ l ∧ jX5_readClaim_63 rc (nI l) ps y one (nI a) = some (0, nI a', c') ∧ fX11_takesPair tp (nI l) (nI a) one = some (0, nI a', f1, f3, f4)) ∨ (∃ a' c' f1 f3 f4, a < a' ∧ a' ≤ l ∧ jX5_readClaim_63 rc (nI l) ps y one (nI a) = some (1, nI a', c') ∧ fX11_takesPair tp (nI l) (nI a) one = some (1, nI a', f1, f3, f4) ∧ fX1_encode f1 y.1 f3 f4 = some c') := by
  have n4 : ¬ one = 4 := by rcases h1 with rfl | rfl <;> decide
  unfold jX5_readClaim_63 jX5_readClaim_68 jX5_readClaim_83 jX5_readClaim_98 jX5_readClaim_113 jX5_readClaim_114 jX5_readClaim_132 jX5_readClaim_149 jX5_readClaim_163 fX11_takesPair jX11_takesPair_37
  rw [if_neg n4]
  rcases var_c X ha with ⟨v1, v2⟩ | ⟨d, h, hd, hs, v1, v2⟩
  · left
    rw [v1, v2, bd_some, bd_some]
    simp only [i10, if_true]
    rw [if_neg (show ¬ (0 : Int32) ≤ -1 by decide), if_pos (show (-1 : Int32) < 0 by decide)]
    exact ⟨a, _, _, _, _, by omega, by omega, rfl, rfl⟩
  · have hd8 : ¬ nI d = -8 := (d7 d (by omega)).2.2.1
    have hd0 : (0 : Int32) ≤ nI d := (d7 d (by omega)).2.2.2.2.2.2.1
    rw [v1, v2, bd_some, bd_some]
    simp only [i00, i10, if_neg hd8, if_true, if_false]
    rw [if_pos hd0]
    rcases dig_c X (show a + 1 ≤ l from h) with ⟨g1, g2⟩ | ⟨k, h, hk, -, g1, g2⟩
    · left
      obtain ⟨v, ev⟩ := enc_some one y.1 (nI d) (-8)
      rw [g1, g2, bd_some, bd_some, ev, bd_some, if_pos rfl, if_pos (show (-1 : Int32) < 0 by decide)]
      exact ⟨a + 1, _, _, _, _, by omega, by omega, rfl, rfl⟩
    · right
      obtain ⟨f1, f2, f3, f4, f5, f6, f7, f8⟩ := d7 k (by omega)
      obtain ⟨v, ev⟩ := enc_some one y.1 (nI d) (nI k)
      rw [g1, g2, bd_some, bd_some, ev, bd_some, if_neg f3, if_neg f8]
      exact ⟨a + 1 + 1, _, _, _, _, by omega, by omega, rfl, rfl, ev⟩
