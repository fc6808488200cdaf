/-! ===== copying a machine ===== -/
theorem gcp_n {n : Nat} (h : n ≤ 512) : gcp (0 : Int32) (0 : Int32) (nI n) 512 512 = true := by
  unfold gcp
  have e1 : (nI n).toInt = n := nI_toInt (by omega)
  rw [e1, tI0, ii0, ixn (by omega)]
  simp
  omega
theorem steps_copy (s_g s_h s_x s_y s_k os_g os_h os_x os_y os_k : Nat → Int32) (N : Int32) : ∃ g h x y k, fX8_copyFrom s_g s_h s_x s_y s_k N os_g os_h os_x os_y os_k = some (N, g, h, x, y, k) ∧ ∀ i, i < 8 → g i = os_g i ∧ h i = os_h i ∧ x i = os_x i ∧ y i = os_y i ∧ k i = os_k i := by
  have key : ∃ b, iter (gX8_copyFrom_10 os_g os_h os_x os_y os_k) FU ((0 : Int32), s_g, s_h, s_x, s_y, s_k) = some b ∧ ∀ i, i < 8 → b.2.1 i = os_g i ∧ b.2.2.1 i = os_h i ∧ b.2.2.2.1 i = os_x i ∧ b.2.2.2.2.1 i = os_y i ∧ b.2.2.2.2.2 i = os_k i := by
    refine iter0 (fun d (a : Int32 × (Nat → Int32) × (Nat → Int32) × (Nat → Int32) × (Nat → Int32) × (Nat → Int32)) => a.1 = nI d ∧ ∀ i, i < d → a.2.1 i = os_g i ∧ a.2.2.1 i = os_h i ∧ a.2.2.2.1 i = os_x i ∧ a.2.2.2.2.1 i = os_y i ∧ a.2.2.2.2.2 i = os_k i) (fun (b : Int32 × (Nat → Int32) × (Nat → Int32) × (Nat → Int32) × (Nat → Int32) × (Nat → Int32)) => ∀ i, i < 8 → b.2.1 i = os_g i ∧ b.2.2.1 i = os_h i ∧ b.2.2.2.1 i = os_x i ∧ b.2.2.2.2.1 i = os_y i ∧ b.2.2.2.2.2 i = os_k i) 8 _ (by decide) ⟨rfl, fun j hj => absurd hj (Nat.not_lt_zero _)⟩ (fun d a hd hI => Or.inl ?_) (fun a hI => ?_)
    · obtain ⟨v, g, h, x, y, k⟩ := a
      obtain ⟨rfl, hh⟩ := hI
      unfold gX8_copyFrom_10 fX8_copyStep
      dsimp only at hh ⊢
      rw [if_neg (c_ge (N := 8) (n := 8) rfl hd (by decide))]
      have gz : ∀ q : Option ((Nat → Int32) × (Nat → Int32) × (Nat → Int32) × (Nat → Int32) × (Nat → Int32)), gd (gi (nI d) 8) q = q := fun q => gd_nI hd (by decide)
      rw [gz, gz, gz, gz, gz, gz, gz, gz, gz, gz, ixn (by omega), bd_some]
      refine ⟨_, rfl, nI1 d, fun i hi => ?_⟩
      show upd g d _ i = _ ∧ upd h d _ i = _ ∧ upd x d _ i = _ ∧ upd y d _ i = _ ∧ upd k d _ i = _
      by_cases e : i = d
      · subst e
        rw [upd_s, upd_s, upd_s, upd_s, upd_s]
        exact ⟨rfl, rfl, rfl, rfl, rfl⟩
      · rw [upd_o e, upd_o e, upd_o e, upd_o e, upd_o e]
        exact hh i (by omega)
    · obtain ⟨v, g, h, x, y, k⟩ := a
      obtain ⟨rfl, hh⟩ := hI
      unfold gX8_copyFrom_10
      dsimp only at hh ⊢
      rw [if_pos (c_le (N := 8) (n := 8) rfl (Nat.le_refl _) (by decide))]
      exact ⟨_, rfl, hh⟩
  obtain ⟨b, hb, hp⟩ := key
  unfold fX8_copyFrom
  rw [hb, bd_some]
  exact ⟨_, _, _, _, _, rfl, hp⟩
theorem cpy40 (f g : Nat → Int32) {i : Nat} (hi : i < 40) : va_cpy f g (ix (0 : Int32)) (ix (0 : Int32)) (ix (40 : Int32)) i = f i := by
  rw [ii0, show ix 40 = 40 from ixn (k := 40) (by decide), pk_cpy_in (by omega) (by omega)]
  congr 1; omega
theorem cands_copy (c_c c_f c_s c_m c_r oc_c oc_f oc_s oc_m oc_r : Nat → Int32) (N : Int32) : ∃ c f s m r, fX0_copyFrom c_c c_f c_s c_m c_r N oc_c oc_f oc_s oc_m oc_r = some (N, c, f, s, m, r) ∧ ∀ i, i < 40 → c i = oc_c i ∧ f i = oc_f i ∧ s i = oc_s i ∧ m i = oc_m i ∧ r i = oc_r i := by
  unfold fX0_copyFrom
  have gz : ∀ q : Option (Int32 × (Nat → Int32) × (Nat → Int32) × (Nat → Int32) × (Nat → Int32) × (Nat → Int32)), gd (gcp (0 : Int32) (0 : Int32) (40 : Int32) 40 40) q = q := fun q => gd_t (by decide)
  rw [gz, gz, gz, gz, gz]
  exact ⟨_, _, _, _, _, rfl, fun i hi => ⟨cpy40 _ _ hi, cpy40 _ _ hi, cpy40 _ _ hi, cpy40 _ _ hi, cpy40 _ _ hi⟩⟩
theorem seen_copy (e_o : Nat → Int32) (we : Nat → Int64) (oe_o : Nat → Int32) (owe : Nat → Int64) {n : Nat} (hn : n ≤ 512) : ∃ o w, fX6_copyFrom e_o we (nI n) oe_o owe = some (nI n, o, w) ∧ (∀ j, j < n → o j = oe_o j) ∧ ∀ j, j < 8 → w j = owe j := by
  obtain ⟨w, e, h⟩ := cpyL we owe
  unfold fX6_copyFrom
  rw [gcp_n hn, gd_tr, e, bd_some]
  refine ⟨_, _, rfl, fun j hj => ?_, h⟩
  rw [ii0, ixn (by omega), pk_cpy_in (by omega) (by omega)]
  congr 1; omega
theorem kcopy_eq {B : Nat} {t : Nat → Int32} {M : MS} (A : MS) (h : RM B t M) : ∃ R, kcopy A M = some R ∧ RM B t R := by
  have h' := h
  obtain ⟨ns, nc, n, R, z, r, ⟨a1, a2, a3, a4, a5, a6⟩, ⟨b1, b2, b3, b4, b5⟩, -⟩ := h'
  obtain ⟨g', h', x', y', k', e1, p1⟩ := steps_copy (A.2.1 0) (A.2.1 1) (A.2.1 2) (A.2.1 3) (A.2.1 4) (M.2.1 0) (M.2.1 1) (M.2.1 2) (M.2.1 3) (M.2.1 4) (M.1 4)
  obtain ⟨c', f', s', m', r', e2, p2⟩ := cands_copy (A.2.1 5) (A.2.1 6) (A.2.1 7) (A.2.1 8) (A.2.1 9) (M.2.1 5) (M.2.1 6) (M.2.1 7) (M.2.1 8) (M.2.1 9) (M.1 5)
  obtain ⟨o', w', e3, p3, p4⟩ := seen_copy (A.2.1 10) A.2.2 (M.2.1 10) M.2.2 b4
  unfold kcopy fX3_copyFrom
  rw [e1, bd_some, e2, bd_some, a6, e3, bd_some, bd_some]
  refine ⟨_, rfl, ?_⟩
  refine h.congr (fun j _ => rfl) (fun i hi => ?_) (fun w hw i hi => ?_) (fun w hw1 hw2 i hi => ?_) (fun n' hn1 hn' i hi => ?_) (fun j hj => p4 j hj)
  · rcases (show i = 0 ∨ i = 1 ∨ i = 2 ∨ i = 3 ∨ i = 4 ∨ i = 5 ∨ i = 6 by omega) with rfl | rfl | rfl | rfl | rfl | rfl | rfl
    · rfl
    · rfl
    · rfl
    · rfl
    · rfl
    · rfl
    · exact a6.symm
  · obtain ⟨q0, q1, q2, q3, q4⟩ := p1 i hi
    rcases (show w = 0 ∨ w = 1 ∨ w = 2 ∨ w = 3 ∨ w = 4 by omega) with rfl | rfl | rfl | rfl | rfl
    · exact q0
    · exact q1
    · exact q2
    · exact q3
    · exact q4
  · obtain ⟨q0, q1, q2, q3, q4⟩ := p2 i hi
    rcases (show w = 5 ∨ w = 6 ∨ w = 7 ∨ w = 8 ∨ w = 9 by omega) with rfl | rfl | rfl | rfl | rfl
    · exact q0
    · exact q1
    · exact q2
    · exact q3
    · exact q4
  · rw [a6] at hn'
    have := nI_inj (by omega) (by omega) hn'
    exact p3 i (by omega)
