theorem isClaim_01 (a b c d : Int32) : ∃ v : Bool, fX11_isClaim a b c d = some (b2i v) := by
  unfold fX11_isClaim jX11_isClaim_124
  rcases in_01 a 0 9 with ⟨e1, h1⟩ | ⟨e1, h1⟩ <;> rcases in_01 b 0 2 with ⟨e2, h2⟩ | ⟨e2, h2⟩ <;> rcases in_01 c 0 2 with ⟨e3, h3⟩ | ⟨e3, h3⟩ <;> rw [e1] <;> simp only [bd_some, e2, e3, i0ne1, ↓reduceIte] <;> first | exact ⟨false, rfl⟩ | skip
  rcases in_01 d 0 7 with ⟨e4, h4⟩ | ⟨e4, h4⟩ <;> rcases in_01 d (-7) 7 with ⟨e5, h5⟩ | ⟨e5, h5⟩ <;> rcases in_01 d 0 1 with ⟨e6, h6⟩ | ⟨e6, h6⟩ <;> simp only [bd_some, e4, e5, e6, i0ne1, ↓reduceIte] <;> (repeat' split) <;> first | exact ⟨false, rfl⟩ | exact ⟨true, rfl⟩
theorem part_eq (p w : Int32) : fX1_numberOf p w = fX11_part p w := rfl
theorem part_nI (p w : Int32) : ∃ j : Nat, j < 8 ∧ fX11_part p w = some (nI j) := by
  unfold fX11_part
  obtain ⟨j, hj, e⟩ := pk_andE (p >>> ((6 - 3 * w) &&& 31)) (m := 7) 3 (by decide)
  exact ⟨j, hj, by rw [e]⟩
/-- whether a claim, by its code, holds in a state -/
def sat (k s : Int32) : Bool := fX11_isSo k s == some 1
theorem isSo_sat (k s : Int32) : fX11_isSo k s = some (b2i (sat k s)) := by
  have h : fX11_isSo k s = some 0 ∨ fX11_isSo k s = some 1 := by
    unfold fX11_isSo fX11_xOf fX11_yOf fX11_kOf fX11_formOf
    simp only [bd_some]
    obtain ⟨j1, -, e1⟩ := part_nI s (k / 45 - k / 45 / 3 * 3)
    obtain ⟨j2, -, e2⟩ := part_nI s (k / 15 - k / 15 / 3 * 3)
    rw [e1, bd_some, e2, bd_some]
    repeat' split
    all_goals first | exact Or.inl rfl | exact Or.inr rfl
  rcases h with h | h
  · have e : sat k s = false := by unfold sat; rw [h]; rfl
    rw [e, h]; rfl
  · have e : sat k s = true := by unfold sat; rw [h]; rfl
    rw [e, h]; rfl
theorem even_eq : ∀ m, m < 29 → (((nI m - nI 7) &&& 1 = 0) ↔ ((nI m - nI 7) - (nI m - nI 7) / 2 * 2 = 0)) := by decide +kernel
theorem i32_as (a b c : Int32) : a + (b - c) = (a + b) - c := by
  rw [Int32.sub_eq_add_neg, Int32.sub_eq_add_neg, Int32.add_assoc]
set_option maxRecDepth 100000 in
theorem isMet_eq {k : Nat} (hk : k < 1350) (s : Int32) : fX1_isMetBy (nI k) s = fX11_isSo (nI k) s := by
  unfold fX1_isMetBy fX11_isSo fX11_xOf fX11_yOf fX11_kOf fX11_formOf
  simp only [bd_some, part_eq]
  have eF : nI k / 15 / 9 = nI k / 135 := by
    rw [show (15 : Int32) = nI 15 from rfl, show (9 : Int32) = nI 9 from rfl, show (135 : Int32) = nI 135 from rfl, pk_div (by omega) (by decide) (by decide), pk_div (by omega) (by decide) (by decide), pk_div (by omega) (by decide) (by decide)]
    exact congrArg nI (by omega)
  have eX : (nI k / 15 - nI k / 15 / 9 * 9) / 3 = nI k / 45 - nI k / 45 / 3 * 3 := by
    rw [show (15 : Int32) = nI 15 from rfl, show (9 : Int32) = nI 9 from rfl, show (45 : Int32) = nI 45 from rfl, show (3 : Int32) = nI 3 from rfl, pk_div (a := k) (by omega) (by decide) (by decide), pk_rem (by omega) (by decide) (by decide), pk_div (a := k) (by omega) (by decide) (by decide), pk_rem (by omega) (by decide) (by decide), pk_div (by omega) (by decide) (by decide)]
    exact congrArg nI (by omega)
  rw [eX, eF]
  obtain ⟨j1, h1, e1⟩ := part_nI s (nI k / 45 - nI k / 45 / 3 * 3)
  obtain ⟨j2, h2, e2⟩ := part_nI s (nI k / 15 - nI k / 15 / 3 * 3)
  rw [e1, bd_some, bd_some, e2, bd_some, bd_some]
  have eK : nI k - nI k / 15 * 15 = nI (k % 15) := pk_rem (d := 15) (by omega) (by decide) (by decide)
  rw [eK]
  have hE : ((nI j1 + nI j2 + (nI (k % 15) - 7)) &&& 1 = 0) ↔ ((nI j1 + nI j2 + (nI (k % 15) - 7)) - (nI j1 + nI j2 + (nI (k % 15) - 7)) / 2 * 2 = 0) := by
    rw [i32_as, nI_add, nI_add]
    exact even_eq (j1 + j2 + k % 15) (by omega)
  have eF2 : nI k / 135 = nI (k / 135) := pk_div (d := 135) (by omega) (by decide) (by decide)
  rw [eF2]
  obtain h | h | h | h | h | h | h | h | h | h : k / 135 = 0 ∨ k / 135 = 1 ∨ k / 135 = 2 ∨ k / 135 = 3 ∨ k / 135 = 4 ∨ k / 135 = 5 ∨ k / 135 = 6 ∨ k / 135 = 7 ∨ k / 135 = 8 ∨ k / 135 = 9 := by omega
  all_goals rw [h]
  · simp only [show ¬ nI 0 = (1 : Int32) by decide, show ¬ nI 0 = (2 : Int32) by decide, show ¬ nI 0 = (3 : Int32) by decide, show ¬ nI 0 = (4 : Int32) by decide, show ¬ nI 0 = (5 : Int32) by decide, show ¬ nI 0 = (6 : Int32) by decide, show ¬ nI 0 = (7 : Int32) by decide, show ¬ nI 0 = (8 : Int32) by decide, show ¬ nI 0 = (9 : Int32) by decide, (eq_true rfl : (nI 0 = (0 : Int32)) = True), ↓reduceIte]
  · simp only [show ¬ nI 1 = (0 : Int32) by decide, (eq_true rfl : (nI 1 = (1 : Int32)) = True), show ¬ nI 1 = (2 : Int32) by decide, show ¬ nI 1 = (3 : Int32) by decide, show ¬ nI 1 = (4 : Int32) by decide, show ¬ nI 1 = (5 : Int32) by decide, show ¬ nI 1 = (6 : Int32) by decide, show ¬ nI 1 = (7 : Int32) by decide, show ¬ nI 1 = (8 : Int32) by decide, show ¬ nI 1 = (9 : Int32) by decide, ↓reduceIte]
  · simp only [show ¬ nI 2 = (0 : Int32) by decide, show ¬ nI 2 = (1 : Int32) by decide, (eq_true rfl : (nI 2 = (2 : Int32)) = True), show ¬ nI 2 = (3 : Int32) by decide, show ¬ nI 2 = (4 : Int32) by decide, show ¬ nI 2 = (5 : Int32) by decide, show ¬ nI 2 = (6 : Int32) by decide, show ¬ nI 2 = (7 : Int32) by decide, show ¬ nI 2 = (8 : Int32) by decide, show ¬ nI 2 = (9 : Int32) by decide, ↓reduceIte]
  · simp only [show ¬ nI 3 = (0 : Int32) by decide, show ¬ nI 3 = (1 : Int32) by decide, show ¬ nI 3 = (2 : Int32) by decide, (eq_true rfl : (nI 3 = (3 : Int32)) = True), show ¬ nI 3 = (4 : Int32) by decide, show ¬ nI 3 = (5 : Int32) by decide, show ¬ nI 3 = (6 : Int32) by decide, show ¬ nI 3 = (7 : Int32) by decide, show ¬ nI 3 = (8 : Int32) by decide, show ¬ nI 3 = (9 : Int32) by decide, ↓reduceIte]
  · simp only [show ¬ nI 4 = (0 : Int32) by decide, show ¬ nI 4 = (1 : Int32) by decide, show ¬ nI 4 = (2 : Int32) by decide, show ¬ nI 4 = (3 : Int32) by decide, (eq_true rfl : (nI 4 = (4 : Int32)) = True), show ¬ nI 4 = (5 : Int32) by decide, show ¬ nI 4 = (6 : Int32) by decide, show ¬ nI 4 = (7 : Int32) by decide, show ¬ nI 4 = (8 : Int32) by decide, show ¬ nI 4 = (9 : Int32) by decide, ↓reduceIte]
  · simp only [show ¬ nI 5 = (0 : Int32) by decide, show ¬ nI 5 = (1 : Int32) by decide, show ¬ nI 5 = (2 : Int32) by decide, show ¬ nI 5 = (3 : Int32) by decide, show ¬ nI 5 = (4 : Int32) by decide, (eq_true rfl : (nI 5 = (5 : Int32)) = True), show ¬ nI 5 = (6 : Int32) by decide, show ¬ nI 5 = (7 : Int32) by decide, show ¬ nI 5 = (8 : Int32) by decide, show ¬ nI 5 = (9 : Int32) by decide, ↓reduceIte]
  · simp only [show ¬ nI 6 = (0 : Int32) by decide, show ¬ nI 6 = (1 : Int32) by decide, show ¬ nI 6 = (2 : Int32) by decide, show ¬ nI 6 = (3 : Int32) by decide, show ¬ nI 6 = (4 : Int32) by decide, show ¬ nI 6 = (5 : Int32) by decide, (eq_true rfl : (nI 6 = (6 : Int32)) = True), show ¬ nI 6 = (7 : Int32) by decide, show ¬ nI 6 = (8 : Int32) by decide, show ¬ nI 6 = (9 : Int32) by decide, ↓reduceIte]
  · simp only [show ¬ nI 7 = (0 : Int32) by decide, show ¬ nI 7 = (1 : Int32) by decide, show ¬ nI 7 = (2 : Int32) by decide, show ¬ nI 7 = (3 : Int32) by decide, show ¬ nI 7 = (4 : Int32) by decide, show ¬ nI 7 = (5 : Int32) by decide, show ¬ nI 7 = (6 : Int32) by decide, (eq_true rfl : (nI 7 = (7 : Int32)) = True), show ¬ nI 7 = (8 : Int32) by decide, show ¬ nI 7 = (9 : Int32) by decide, ↓reduceIte]
  · simp only [show ¬ nI 8 = (0 : Int32) by decide, show ¬ nI 8 = (1 : Int32) by decide, show ¬ nI 8 = (2 : Int32) by decide, show ¬ nI 8 = (3 : Int32) by decide, show ¬ nI 8 = (4 : Int32) by decide, show ¬ nI 8 = (5 : Int32) by decide, show ¬ nI 8 = (6 : Int32) by decide, show ¬ nI 8 = (7 : Int32) by decide, (eq_true rfl : (nI 8 = (8 : Int32)) = True), show ¬ nI 8 = (9 : Int32) by decide, ↓reduceIte]
  · simp only [show ¬ nI 9 = (0 : Int32) by decide, show ¬ nI 9 = (1 : Int32) by decide, show ¬ nI 9 = (2 : Int32) by decide, show ¬ nI 9 = (3 : Int32) by decide, show ¬ nI 9 = (4 : Int32) by decide, show ¬ nI 9 = (5 : Int32) by decide, show ¬ nI 9 = (6 : Int32) by decide, show ¬ nI 9 = (7 : Int32) by decide, show ¬ nI 9 = (8 : Int32) by decide, (eq_true rfl : (nI 9 = (9 : Int32)) = True), ↓reduceIte]
    show (if ((nI j1 + nI j2 + (nI (k % 15) - 7)) &&& 1) = 0 then some (1 : Int32) else some 0) = (if (nI j1 + nI j2 + (nI (k % 15) - 7)) - (nI j1 + nI j2 + (nI (k % 15) - 7)) / 2 * 2 = 0 then some 1 else some 0)
    by_cases hz : (nI j1 + nI j2 + (nI (k % 15) - 7)) &&& 1 = 0
    · rw [if_pos hz, if_pos (hE.mp hz)]
    · rw [if_neg hz, if_neg (fun q => hz (hE.mpr q))]
theorem isMet_sat {k : Nat} (hk : k < 1350) (s : Int32) : fX1_isMetBy (nI k) s = some (b2i (sat (nI k) s)) := by rw [isMet_eq hk, isSo_sat]
/-- which numbers are codes of claims -/
def vc (p : Int32) : Bool := fX11_isCode p == some 1
theorem isCode_01 (p : Int32) : fX11_isCode p = some (b2i (vc p)) := by
  have h : fX11_isCode p = some 0 ∨ fX11_isCode p = some 1 := by
    unfold fX11_isCode fX11_xOf fX11_yOf fX11_kOf fX11_formOf
    simp only [bd_some]
    rcases in_01 p 0 1349 with ⟨e, -⟩ | ⟨e, -⟩
    · rw [e]; exact Or.inl rfl
    · obtain ⟨v, hv⟩ := isClaim_01 (p / 135) (p / 45 - p / 45 / 3 * 3) (p / 15 - p / 15 / 3 * 3) (p - p / 15 * 15 - 7)
      rw [e, bd_some, if_neg i0ne1, hv, bd_some]
      cases v
      · exact Or.inl rfl
      · exact Or.inr rfl
  rcases h with h | h
  · have e : vc p = false := by unfold vc; rw [h]; rfl
    rw [e, h]; rfl
  · have e : vc p = true := by unfold vc; rw [h]; rfl
    rw [e, h]; rfl
theorem vc_lt {p : Int32} (h : vc p = true) : ∃ k : Nat, k < 1350 ∧ p = nI k := by
  have e : fX11_isCode p = some 1 := by rw [isCode_01, h]; rfl
  unfold fX11_isCode at e
  rcases in_01 p 0 1349 with ⟨e1, -⟩ | ⟨e1, h1, h2⟩
  · rw [e1, bd_some, if_pos rfl] at e
    exact absurd (Option.some.inj e) (by decide)
  · rw [tI0] at h1
    rw [show (1349 : Int32).toInt = 1349 by decide] at h2
    obtain ⟨k, hk, rfl⟩ := nI_of (x := p) (fun z => by rw [lt_toInt, tI0] at z; omega)
    rw [nI_toInt hk] at h2
    exact ⟨k, by omega, rfl⟩
theorem isCode_eq (p : Int32) : fX1_isCode p = some (b2i (vc p)) := by
  rw [← isCode_01]
  unfold fX1_isCode fX11_isCode fX11_xOf fX11_yOf fX11_kOf fX11_formOf
  simp only [bd_some]
  rw [isClaim_eq]
  rcases i32_cases p with ⟨k, hk, rfl⟩ | hn
  · rw [if_pos (nI_pos' hk)]
    have eF : nI k / 15 / 9 = nI (k / 135) := by
      rw [show (15 : Int32) = nI 15 from rfl, show (9 : Int32) = nI 9 from rfl, pk_div (by omega) (by decide) (by decide), pk_div (by omega) (by decide) (by decide)]
      exact congrArg nI (by omega)
    have eF2 : nI k / 135 = nI (k / 135) := pk_div (d := 135) (by omega) (by decide) (by decide)
    have eX : (nI k / 15 - nI k / 15 / 9 * 9) / 3 = nI k / 45 - nI k / 45 / 3 * 3 := by
      rw [show (15 : Int32) = nI 15 from rfl, show (9 : Int32) = nI 9 from rfl, show (45 : Int32) = nI 45 from rfl, show (3 : Int32) = nI 3 from rfl, pk_div (a := k) (by omega) (by decide) (by decide), pk_rem (by omega) (by decide) (by decide), pk_div (a := k) (by omega) (by decide) (by decide), pk_rem (by omega) (by decide) (by decide), pk_div (by omega) (by decide) (by decide)]
      exact congrArg nI (by omega)
    rw [eX, eF, eF2]
    obtain ⟨v, hv⟩ := isClaim_01 (nI (k / 135)) (nI k / 45 - nI k / 45 / 3 * 3) (nI k / 15 - nI k / 15 / 3 * 3) (nI k - nI k / 15 * 15 - 7)
    rcases in_01 (nI k) 0 1349 with ⟨e, h1⟩ | ⟨e, h1⟩
    · rw [e, bd_some, if_pos rfl]
      rw [nI_toInt hk, tI0, show (1349 : Int32).toInt = 1349 by decide] at h1
      have hz : fX11_isClaim (nI (k / 135)) (nI k / 45 - nI k / 45 / 3 * 3) (nI k / 15 - nI k / 15 / 3 * 3) (nI k - nI k / 15 * 15 - 7) = some 0 := by
        unfold fX11_isClaim
        rcases in_01 (nI (k / 135)) 0 9 with ⟨e2, -⟩ | ⟨-, h3, h4⟩
        · rw [e2]; rfl
        · rw [nI_toInt (by omega), tI9] at h4
          omega
      rw [hz]; rfl
    · rw [e, bd_some, if_neg i0ne1, hv, bd_some, bd_some, isB_b2i, gd_tr]
      cases v <;> rfl
  · have hn' : ¬ 0 ≤ p := fun z => by rw [lt_toInt] at hn; rw [le_toInt] at z; omega
    rw [if_neg hn']
    rcases in_01 p 0 1349 with ⟨e, -⟩ | ⟨-, h1, -⟩
    · rw [e]; rfl
    · rw [lt_toInt] at hn; omega
