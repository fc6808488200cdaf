/-! ===== what is refused, of any object ===== -/
def good (B : Nat) (A : AS) (x : Option (Int32 × CS)) : Prop := ∃ c', x = some (1, c') ∧ IC B A c'
theorem gb {B : Nat} {A : AS} {α : Type} {x : Option α} {k : α → Option (Int32 × CS)} {y : α} (h : x = some y) (hk : good B A (k y)) : good B A (bd x k) := by rw [h]; exact hk
theorem gt {B : Nat} {A : AS} {p : Prop} [Decidable p] {a b : Option (Int32 × CS)} (hc : p) (h : good B A a) : good B A (if p then a else b) := by rw [if_pos hc]; exact h
theorem gf {B : Nat} {A : AS} {p : Prop} [Decidable p] {a b : Option (Int32 × CS)} (hc : ¬ p) (h : good B A b) : good B A (if p then a else b) := by rw [if_neg hc]; exact h
theorem n_start1 {t : RW} {p0 p1 p2 : Int32} (h : fX11_in p0 0 7 = some 0) : fX11_start t zR 0 1 p0 p1 p2 = some (-2, 0, t, zR) := by unfold fX11_start; rw [h, bd_some, if_pos rfl]
theorem n_start2 {t : RW} {p0 p1 p2 : Int32} (h0 : fX11_in p0 0 7 = some 1) (h : fX11_in p1 0 7 = some 0) : fX11_start t zR 0 1 p0 p1 p2 = some (-2, 0, t, zR) := by unfold fX11_start; rw [h0, bd_some, if_neg i0ne1, h, bd_some, if_pos rfl]
theorem n_start3 {t : RW} {p0 p1 p2 : Int32} (h0 : fX11_in p0 0 7 = some 1) (h1 : fX11_in p1 0 7 = some 1) (h : fX11_in p2 0 7 = some 0) : fX11_start t zR 0 1 p0 p1 p2 = some (-2, 0, t, zR) := by unfold fX11_start; rw [h0, bd_some, if_neg i0ne1, h1, bd_some, if_neg i0ne1, h, bd_some, if_pos rfl]
theorem n_wrap {t : RW} {p0 : Int32} (h : fX11_in p0 0 1 = some 0) : fX11_wrap t zR 0 1 p0 = some (-2, 0, t, zR) := by unfold fX11_wrap; rw [h, bd_some, if_pos rfl]
theorem n_step1 {t : RW} {p0 p1 p2 p3 p4 : Int32} (h : fX11_isCode p0 = some 0) : fX11_step t zR 0 1 p0 p1 p2 p3 p4 = some (-2, 0, t, zR) := by unfold fX11_step; rw [h, bd_some, if_pos rfl]
theorem n_step2 {t : RW} {p0 p1 p2 p3 p4 : Int32} (h0 : fX11_isCode p0 = some 1) (h : fX11_isAction p1 p2 p3 p4 = some 0) : fX11_step t zR 0 1 p0 p1 p2 p3 p4 = some (-2, 0, t, zR) := by unfold fX11_step; rw [h0, bd_some, if_neg i0ne1, h, bd_some, if_pos rfl]
theorem n_cand {t : RW} {p0 : Int32} (h : fX11_isCode p0 = some 0) : fX11_candidate t zR 0 1 p0 = some (-2, 0, t, zR) := by unfold fX11_candidate; rw [h, bd_some, if_pos rfl]
theorem n_guess {t : RW} {p0 : Int32} (h : fX11_in p0 1 9 = some 0) : fX11_guess t zR 0 1 p0 = some (-2, 0, t, zR) := by unfold fX11_guess; rw [h, bd_some, if_pos rfl]
theorem n_run1 {t : RW} {p0 p1 : Int32} (h : p0 < 0) : fX11_run t zR 0 1 p0 p1 = some (-2, 0, t, zR) := by unfold fX11_run; rw [if_pos h]
theorem n_run2 {t : RW} {p0 p1 : Int32} (h0 : ¬ p0 < 0) (h : fX11_in p1 1 99 = some 0) : fX11_run t zR 0 1 p0 p1 = some (-2, 0, t, zR) := by unfold fX11_run; rw [if_neg h0, h, bd_some, if_pos rfl]
theorem n_drop {t : RW} {p0 : Int32} (h : fX11_isStep t p0 = some 0) : fX11_drop t zR 0 1 p0 = some (-1, 0, t, zR) := by unfold fX11_drop; rw [h, bd_some, if_pos rfl]
theorem in_m1 (x : Int32) : fX11_in (-1) 0 x = some 0 := by unfold fX11_in; rw [if_pos (by decide)]
theorem in_top {n : Nat} (h : n < 2 ^ 31) : fX11_in (nI n) 0 (nI n - 1) = some 0 := in_n (Or.inr (by rw [toInt_p h, nI_toInt h]; omega))
theorem in_0 {n : Nat} (h0 : 0 < n) (h : n < 2 ^ 31) : fX11_in 0 0 (nI n - 1) = some 1 := by
  unfold fX11_in
  rw [if_neg (by decide), if_neg (by rw [lt_toInt, toInt_p h, tI0]; omega)]
theorem s_m1 (t : RW) : fX11_isStep t (-1) = some 0 := by unfold fX11_isStep; rw [gg2, gd_tr, in_m1, bd_some, show isB 0 = true by decide, gd_tr]
theorem s_top {t : RW} {n : Nat} (h : t 2 = nI n) (hn : n < 2 ^ 31) : fX11_isStep t (nI n) = some 0 := by unfold fX11_isStep; rw [gg2, gd_tr, ii2, h, in_top hn, bd_some, show isB 0 = true by decide, gd_tr]
theorem s_0 {t : RW} {n : Nat} (h : t 2 = nI n) (h0 : 0 < n) (hn : n < 2 ^ 31) : fX11_isStep t 0 = some 1 := by unfold fX11_isStep; rw [gg2, gd_tr, ii2, h, in_0 h0 hn, bd_some, show isB 1 = true by decide, gd_tr]
theorem n_ofStep {A : AS} {p0 p1 : Int32} (h : fX11_isStep A.1 p0 = some 0) : aq_ofStep A p0 p1 = some (-1) := by unfold aq_ofStep fX11_ofStep; rw [h, bd_some, if_pos rfl, bd_some]
theorem n_ofStep2 {A : AS} {p0 p1 : Int32} (h : fX11_isStep A.1 p0 = some 1) (h1 : fX11_in p1 0 6 = some 0) : aq_ofStep A p0 p1 = some (-2) := by unfold aq_ofStep fX11_ofStep; rw [h, bd_some, if_neg i0ne1, h1, bd_some, if_pos rfl, bd_some]
theorem n_leads {A : AS} {p0 p1 : Int32} (h : fX11_isStep A.1 p0 = some 0) : aq_leads A p0 p1 = some (-1) := by unfold aq_leads fX11_leads; rw [h, bd_some, if_pos rfl]
theorem n_leads2 {A : AS} {p0 p1 : Int32} (h : fX11_isStep A.1 p0 = some 1) (h1 : fX11_in p1 0 511 = some 0) : aq_leads A p0 p1 = some (-2) := by unfold aq_leads fX11_leads; rw [h, bd_some, if_neg i0ne1, h1, bd_some, if_pos rfl]
theorem n_ofC {A : AS} {p0 p1 : Int32} (h : fX11_in p0 0 (A.1 3 - 1) = some 0) : aq_ofCandidate A p0 p1 = some (-1) := by unfold aq_ofCandidate fX11_ofCandidate; rw [gg3, gd_tr, ii3, h, bd_some, if_pos rfl]
theorem n_ofC2 {A : AS} {p0 p1 : Int32} (h : fX11_in p0 0 (A.1 3 - 1) = some 1) (h1 : fX11_in p1 0 4 = some 0) : aq_ofCandidate A p0 p1 = some (-2) := by unfold aq_ofCandidate fX11_ofCandidate; rw [gg3, gd_tr, ii3, h, bd_some, if_neg i0ne1, h1, bd_some, if_pos rfl]
theorem n_count {A : AS} {p0 : Int32} (h : ∀ k : Nat, k < 13 → ¬ p0 = nI k) : aq_count A p0 = some (-2) := by
  unfold aq_count fX11_count
  rw [if_neg (show ¬ p0 = 0 from h 0 (by decide)), if_neg (show ¬ p0 = 1 from h 1 (by decide)), if_neg (show ¬ p0 = 2 from h 2 (by decide)), if_neg (show ¬ p0 = 3 from h 3 (by decide)), if_neg (show ¬ p0 = 4 from h 4 (by decide)), if_neg (show ¬ p0 = 5 from h 5 (by decide)), if_neg (show ¬ p0 = 6 from h 6 (by decide)), if_neg (show ¬ p0 = 7 from h 7 (by decide)), if_neg (show ¬ p0 = 8 from h 8 (by decide)), if_neg (show ¬ p0 = 9 from h 9 (by decide)), if_neg (show ¬ p0 = 10 from h 10 (by decide)), if_neg (show ¬ p0 = 11 from h 11 (by decide)), if_neg (show ¬ p0 = 12 from h 12 (by decide)), bd_some]
theorem n_ofState {A : AS} {p0 : Int32} (h : fX11_in p0 0 511 = some 0) : aq_ofState A p0 = some (-2) := by unfold aq_ofState fX11_ofState; rw [h, bd_some, if_pos rfl, bd_some]
theorem n_proves {A : AS} {p0 : Int32} (h : fX11_isCode p0 = some 0) : aq_proves A p0 = some (-2) := by unfold aq_proves fX11_proves; rw [h, bd_some, if_pos rfl, bd_some]
theorem n_witness {A : AS} {p0 : Int32} (h : fX11_isCode p0 = some 0) : aq_witness A p0 = some (-2) := by unfold aq_witness fX11_witness; rw [h, bd_some, if_pos rfl]
theorem n_isTrue {A : AS} {p0 : Int32} (h : fX11_isCode p0 = some 0) : aq_isTrue A p0 = some (-2) := by unfold aq_isTrue fX11_isTrue; rw [h, bd_some, if_pos rfl, bd_some]
theorem n_core {A : AS} {p0 : Int32} (h : fX11_isCode p0 = some 0) : aq_core A p0 = some (-2) := by unfold aq_core fX11_core; rw [h, bd_some, if_pos rfl, bd_some]
/-- how many steps and candidates there are -/
theorem C_cnt0 {B : Nat} {A : AS} {c : CS} (h : IC B A c) : ∃ (o : Int32 × CS) (n : Nat), oC_count c 0 = some o ∧ o.1 = nI n ∧ n ≤ 8 ∧ A.1 2 = nI n ∧ IC B A o.2 := by
  obtain ⟨o, e1, e2, e3⟩ := C_count h 0
  obtain ⟨ns, nc, n, R, z, r, ⟨a1, a2, a3, a4, a5, a6⟩, ⟨b1, b2, b3, b4, b5⟩, ⟨c1, c2, c3, -⟩, -⟩ := h.1
  have : aq_count A 0 = some (A.1 2) := by unfold aq_count fX11_count; rw [if_pos rfl, gg2, gd_tr, ii2, bd_some]
  exact ⟨o, ns, e1, by rw [aq_v e2 this, c3, a4], b1, by rw [c3, a4], e3⟩
theorem C_cnt1 {B : Nat} {A : AS} {c : CS} (h : IC B A c) : ∃ (o : Int32 × CS) (n : Nat), oC_count c 1 = some o ∧ o.1 = nI n ∧ n ≤ 40 ∧ A.1 3 = nI n ∧ IC B A o.2 := by
  obtain ⟨o, e1, e2, e3⟩ := C_count h 1
  obtain ⟨ns, nc, n, R, z, r, ⟨a1, a2, a3, a4, a5, a6⟩, ⟨b1, b2, b3, b4, b5⟩, ⟨c1, c2, c3, c4, -⟩, -⟩ := h.1
  have : aq_count A 1 = some (A.1 3) := by unfold aq_count fX11_count; rw [if_neg i0ne1, if_pos rfl, gg3, gd_tr, ii3, bd_some]
  exact ⟨o, nc, e1, by rw [aq_v e2 this, c4, a5], b2, by rw [c4, a5], e3⟩
set_option maxHeartbeats 4000000 in
theorem refuses_0 {B : Nat} {A : AS} {c : CS} (hB : B < 4000000) (I0 : IC B A c) : good B A (fL_refusesAny c 0) := by
  unfold fL_refusesAny
  refine gt rfl ?_
  unfold jL_refusesAny_10
  obtain ⟨o1, t1, e1, f1, r1⟩ := C_start I0 (-1) 0 0
  obtain ⟨v1, I1⟩ := ro_no f1 (chkV_of (n_start1 (by decide))) (by decide) r1
  refine gb e1 ?_
  refine gt v1 ?_
  obtain ⟨o2, t2, e2, f2, r2⟩ := C_start I1 0 (-1) 0
  obtain ⟨v2, I2⟩ := ro_no f2 (chkV_of (n_start2 (by decide) (by decide))) (by decide) r2
  refine gb e2 ?_
  refine gt v2 ?_
  obtain ⟨o3, t3, e3, f3, r3⟩ := C_start I2 0 0 (-1)
  obtain ⟨v3, I3⟩ := ro_no f3 (chkV_of (n_start3 (by decide) (by decide) (by decide))) (by decide) r3
  refine gb e3 ?_
  refine gt v3 ?_
  refine gt rfl ?_
  unfold jL_refusesAny_57
  obtain ⟨o4, t4, e4, f4, r4⟩ := C_wrap I3 (-1)
  obtain ⟨v4, I4⟩ := ro_no f4 (chkV_of (n_wrap (by decide))) (by decide) r4
  refine gb e4 ?_
  refine gt v4 ?_
  refine gt rfl ?_
  unfold jL_refusesAny_78
  obtain ⟨o5, t5, e5, f5, r5⟩ := C_step I4 6 0 0 0 0
  obtain ⟨v5, I5⟩ := ro_no f5 (chkV_of (n_step1 (by decide))) (by decide) r5
  refine gb e5 ?_
  refine gt v5 ?_
  refine gt rfl ?_
  unfold jL_refusesAny_102
  obtain ⟨o6, t6, e6, f6, r6⟩ := C_step I5 7 (-1) 0 0 0
  obtain ⟨v6, I6⟩ := ro_no f6 (chkV_of (n_step2 (by decide) (by decide))) (by decide) r6
  refine gb e6 ?_
  refine gt v6 ?_
  refine gt rfl ?_
  unfold jL_refusesAny_126
  obtain ⟨o7, t7, e7, f7, r7⟩ := C_step I6 7 0 (-1) 0 0
  obtain ⟨v7, I7⟩ := ro_no f7 (chkV_of (n_step2 (by decide) (by decide))) (by decide) r7
  refine gb e7 ?_
  refine gt v7 ?_
  refine gt rfl ?_
  unfold jL_refusesAny_150
  obtain ⟨o8, t8, e8, f8, r8⟩ := C_step I7 7 0 0 1 0
  obtain ⟨v8, I8⟩ := ro_no f8 (chkV_of (n_step2 (by decide) (by decide))) (by decide) r8
  refine gb e8 ?_
  refine gt v8 ?_
  obtain ⟨o9, t9, e9, f9, r9⟩ := C_step I8 7 0 0 0 (-1)
  obtain ⟨v9, I9⟩ := ro_no f9 (chkV_of (n_step2 (by decide) (by decide))) (by decide) r9
  refine gb e9 ?_
  refine gt v9 ?_
  refine gt rfl ?_
  unfold jL_refusesAny_191
  obtain ⟨o10, t10, e10, f10, r10⟩ := C_step I9 7 1 0 1 (-8)
  obtain ⟨v10, I10⟩ := ro_no f10 (chkV_of (n_step2 (by decide) (by decide))) (by decide) r10
  refine gb e10 ?_
  refine gt v10 ?_
  refine gt rfl ?_
  unfold jL_refusesAny_213
  obtain ⟨o11, t11, e11, f11, r11⟩ := C_step I10 7 1 0 (-1) 0
  obtain ⟨v11, I11⟩ := ro_no f11 (chkV_of (n_step2 (by decide) (by decide))) (by decide) r11
  refine gb e11 ?_
  refine gt v11 ?_
  refine gt rfl ?_
  unfold jL_refusesAny_236
  obtain ⟨o12, t12, e12, f12, r12⟩ := C_step I11 7 2 1 1 0
  obtain ⟨v12, I12⟩ := ro_no f12 (chkV_of (n_step2 (by decide) (by decide))) (by decide) r12
  refine gb e12 ?_
  refine gt v12 ?_
  refine gt rfl ?_
  unfold jL_refusesAny_261
  obtain ⟨o13, t13, e13, f13, r13⟩ := C_drop I12 (-1)
  obtain ⟨v13, I13⟩ := ro_no f13 (chkV_of (n_drop (s_m1 _))) (by decide) r13
  refine gb e13 ?_
  refine gt v13 ?_
  refine gt rfl ?_
  unfold jL_refusesAny_279
  obtain ⟨o14, t14, e14, f14, r14⟩ := C_candidate hB I13 8
  obtain ⟨v14, I14⟩ := ro_no f14 (chkV_of (n_cand (by decide))) (by decide) r14
  refine gb e14 ?_
  refine gt v14 ?_
  refine gt rfl ?_
  unfold jL_refusesAny_298
  obtain ⟨o15, t15, e15, f15, r15⟩ := C_guess hB I14 0
  obtain ⟨v15, I15⟩ := ro_no f15 (chkV_of (n_guess (by decide))) (by decide) r15
  refine gb e15 ?_
  refine gt v15 ?_
  obtain ⟨o16, t16, e16, f16, r16⟩ := C_run hB I15 (-1) 5
  obtain ⟨v16, I16⟩ := ro_no f16 (chkV_of (n_run1 (by decide))) (by decide) r16
  refine gb e16 ?_
  refine gt v16 ?_
  refine gt rfl ?_
  unfold jL_refusesAny_329
  obtain ⟨o17, t17, e17, f17, r17⟩ := C_run hB I16 1 0
  obtain ⟨v17, I17⟩ := ro_no f17 (chkV_of (n_run2 (by decide) (by decide))) (by decide) r17
  refine gb e17 ?_
  refine gt v17 ?_
  obtain ⟨o18, e18, f18, I18⟩ := C_holds I17 6 0
  have v18 := aq_v (v := -2) f18 ((by decide +kernel))
  refine gb e18 ?_
  refine gt (v18) ?_
  refine gt rfl ?_
  unfold jL_refusesAny_363
  obtain ⟨o19, e19, f19, I19⟩ := C_holds I18 7 (-1)
  have v19 := aq_v (v := -2) f19 ((by decide +kernel))
  refine gb e19 ?_
  refine gt (v19) ?_
  refine gt rfl ?_
  unfold jL_refusesAny_385
  obtain ⟨o20, e20, f20, I20⟩ := C_ofStep I19 (-1) 9
  have v20 := aq_v f20 (n_ofStep (s_m1 _))
  refine gb e20 ?_
  refine gt (v20) ?_
  obtain ⟨o21, n21, e21, w21, b21, z21, I21⟩ := C_cnt0 I20
  refine gb e21 ?_
  rw [w21]
  suffices next21 : ∀ y : CS, IC B A y → good B A (jL_refusesAny_424 0 y) by
    by_cases h21 : n21 = 0
    · subst h21
      exact gt (show nI 0 ≤ (0 : Int32) by decide) (next21 _ I21)
    · refine gf (show ¬ nI n21 ≤ (0 : Int32) from c_ge (i := 0) rfl (by omega) (by omega)) ?_
      refine gt rfl ?_
      unfold jL_refusesAny_414
      obtain ⟨o, e, f, I⟩ := C_ofStep I21 0 (-1)
      have v := aq_v f (n_ofStep2 (s_0 z21 (Nat.pos_of_ne_zero h21) (by omega)) (by decide))
      exact gb e (gt v (next21 _ I))
  intro c' I'
  have I22 := I'
  unfold jL_refusesAny_424
  refine gt rfl ?_
  unfold jL_refusesAny_438
  obtain ⟨o23, e23, f23, I23⟩ := C_leads I22 (-1) 999
  have v23 := aq_v f23 (n_leads (s_m1 _))
  refine gb e23 ?_
  refine gt (v23) ?_
  obtain ⟨o24, n24, e24, w24, b24, z24, I24⟩ := C_cnt0 I23
  refine gb e24 ?_
  rw [w24]
  suffices next24 : ∀ y : CS, IC B A y → good B A (jL_refusesAny_477 0 y) by
    by_cases h24 : n24 = 0
    · subst h24
      exact gt (show nI 0 ≤ (0 : Int32) by decide) (next24 _ I24)
    · refine gf (show ¬ nI n24 ≤ (0 : Int32) from c_ge (i := 0) rfl (by omega) (by omega)) ?_
      refine gt rfl ?_
      unfold jL_refusesAny_469
      obtain ⟨o, e, f, I⟩ := C_leads I24 0 (-1)
      have v := aq_v f (n_leads2 (s_0 z24 (Nat.pos_of_ne_zero h24) (by omega)) (by decide))
      exact gb e (gt v (next24 _ I))
  intro c' I'
  have I25 := I'
  unfold jL_refusesAny_477
  refine gt rfl ?_
  unfold jL_refusesAny_491
  obtain ⟨o26, e26, f26, I26⟩ := C_ofCandidate I25 (-1) 9
  have v26 := aq_v f26 (n_ofC (in_m1 _))
  refine gb e26 ?_
  refine gt (v26) ?_
  obtain ⟨o27, n27, e27, w27, b27, z27, I27⟩ := C_cnt1 I26
  refine gb e27 ?_
  rw [w27]
  suffices next27 : ∀ y : CS, IC B A y → good B A (jL_refusesAny_527 0 y) by
    by_cases h27 : n27 = 0
    · subst h27
      exact gt (show nI 0 ≤ (0 : Int32) by decide) (next27 _ I27)
    · refine gf (show ¬ nI n27 ≤ (0 : Int32) from c_ge (i := 0) rfl (by omega) (by omega)) ?_
      refine gt rfl ?_
      unfold jL_refusesAny_519
      obtain ⟨o, e, f, I⟩ := C_ofCandidate I27 0 (-1)
      have v := aq_v f (n_ofC2 (by rw [z27]; exact in_0 (Nat.pos_of_ne_zero h27) (by omega)) (by decide))
      exact gb e (gt v (next27 _ I))
  intro c' I'
  have I28 := I'
  unfold jL_refusesAny_527
  refine gt rfl ?_
  unfold jL_refusesAny_538
  obtain ⟨o29, e29, f29, I29⟩ := C_count I28 (-1)
  have v29 := aq_v f29 (n_count (fun k hk => by rcases (show k = 0 ∨ k = 1 ∨ k = 2 ∨ k = 3 ∨ k = 4 ∨ k = 5 ∨ k = 6 ∨ k = 7 ∨ k = 8 ∨ k = 9 ∨ k = 10 ∨ k = 11 ∨ k = 12 by omega) with rfl | rfl | rfl | rfl | rfl | rfl | rfl | rfl | rfl | rfl | rfl | rfl | rfl <;> decide))
  refine gb e29 ?_
  refine gt (v29) ?_
  refine gt rfl ?_
  unfold jL_refusesAny_558
  obtain ⟨o30, e30, f30, I30⟩ := C_ofState I29 (-1)
  have v30 := aq_v f30 (n_ofState (by decide))
  refine gb e30 ?_
  refine gt (v30) ?_
  refine gt rfl ?_
  unfold jL_refusesAny_578
  obtain ⟨o31, e31, f31, I31⟩ := C_proves I30 6
  have v31 := aq_v f31 (n_proves (by decide))
  refine gb e31 ?_
  refine gt (v31) ?_
  obtain ⟨o32, e32, f32, I32⟩ := C_witness I31 8
  have v32 := aq_v f32 (n_witness (by decide))
  refine gb e32 ?_
  refine gt (v32) ?_
  obtain ⟨o33, e33, f33, I33⟩ := C_isTrue I32 1350
  have v33 := aq_v f33 (n_isTrue (by decide))
  refine gb e33 ?_
  refine gt (v33) ?_
  refine gt rfl ?_
  unfold jL_refusesAny_621
  obtain ⟨o34, e34, f34, I34⟩ := C_core I33 8
  have v34 := aq_v f34 (n_core (by decide))
  refine gb e34 ?_
  refine gt (lc_t v34) ?_
  refine gt rfl ?_
  unfold jL_refusesAny_645
  obtain ⟨o35, e35, v35, I35⟩ := C_put_bad I34 (p0 := 0) (by decide +kernel)
  refine gb e35 ?_
  refine gt v35 ?_
  refine gt rfl ?_
  unfold jL_refusesAny_667
  obtain ⟨o36, e36, v36, I36⟩ := C_put_bad I35 (p0 := 6488163) (by decide +kernel)
  refine gb e36 ?_
  refine gt v36 ?_
  refine gt rfl ?_
  unfold jL_refusesAny_685
  obtain ⟨o37, e37, v37, I37⟩ := C_save_bad I36 (p := (-1)) (by decide)
  refine gb e37 ?_
  refine gt v37 ?_
  refine gt rfl ?_
  unfold jL_refusesAny_703
  obtain ⟨o38, e38, v38, I38⟩ := C_restore_bad I37 (p := (-1)) (by decide)
  refine gb e38 ?_
  refine gt v38 ?_
  exact ⟨_, rfl, I38⟩
set_option maxHeartbeats 4000000 in
theorem refuses_1 {B : Nat} {A : AS} {c : CS} (hB : B < 4000000) (I0 : IC B A c) : good B A (fL_refusesAny c 1) := by
  unfold fL_refusesAny
  refine gf i0ne1 ?_
  unfold jL_refusesAny_10
  obtain ⟨o1, t1, e1, f1, r1⟩ := C_start I0 8 0 0
  obtain ⟨v1, I1⟩ := ro_no f1 (chkV_of (n_start1 (by decide))) (by decide) r1
  refine gb e1 ?_
  refine gt v1 ?_
  obtain ⟨o2, t2, e2, f2, r2⟩ := C_start I1 0 8 0
  obtain ⟨v2, I2⟩ := ro_no f2 (chkV_of (n_start2 (by decide) (by decide))) (by decide) r2
  refine gb e2 ?_
  refine gt v2 ?_
  obtain ⟨o3, t3, e3, f3, r3⟩ := C_start I2 0 0 8
  obtain ⟨v3, I3⟩ := ro_no f3 (chkV_of (n_start3 (by decide) (by decide) (by decide))) (by decide) r3
  refine gb e3 ?_
  refine gt v3 ?_
  refine gf i0ne1 ?_
  unfold jL_refusesAny_57
  obtain ⟨o4, t4, e4, f4, r4⟩ := C_wrap I3 2
  obtain ⟨v4, I4⟩ := ro_no f4 (chkV_of (n_wrap (by decide))) (by decide) r4
  refine gb e4 ?_
  refine gt v4 ?_
  refine gf i0ne1 ?_
  unfold jL_refusesAny_78
  obtain ⟨o5, t5, e5, f5, r5⟩ := C_step I4 1350 0 0 0 0
  obtain ⟨v5, I5⟩ := ro_no f5 (chkV_of (n_step1 (by decide))) (by decide) r5
  refine gb e5 ?_
  refine gt v5 ?_
  refine gf i0ne1 ?_
  unfold jL_refusesAny_102
  obtain ⟨o6, t6, e6, f6, r6⟩ := C_step I5 7 3 0 0 0
  obtain ⟨v6, I6⟩ := ro_no f6 (chkV_of (n_step2 (by decide) (by decide))) (by decide) r6
  refine gb e6 ?_
  refine gt v6 ?_
  refine gf i0ne1 ?_
  unfold jL_refusesAny_126
  obtain ⟨o7, t7, e7, f7, r7⟩ := C_step I6 7 0 3 0 0
  obtain ⟨v7, I7⟩ := ro_no f7 (chkV_of (n_step2 (by decide) (by decide))) (by decide) r7
  refine gb e7 ?_
  refine gt v7 ?_
  refine gf i0ne1 ?_
  unfold jL_refusesAny_150
  obtain ⟨o8, t8, e8, f8, r8⟩ := C_step I7 7 0 0 (-1) 0
  obtain ⟨v8, I8⟩ := ro_no f8 (chkV_of (n_step2 (by decide) (by decide))) (by decide) r8
  refine gb e8 ?_
  refine gt v8 ?_
  obtain ⟨o9, t9, e9, f9, r9⟩ := C_step I8 7 0 0 0 8
  obtain ⟨v9, I9⟩ := ro_no f9 (chkV_of (n_step2 (by decide) (by decide))) (by decide) r9
  refine gb e9 ?_
  refine gt v9 ?_
  refine gf i0ne1 ?_
  unfold jL_refusesAny_191
  obtain ⟨o10, t10, e10, f10, r10⟩ := C_step I9 7 1 0 1 8
  obtain ⟨v10, I10⟩ := ro_no f10 (chkV_of (n_step2 (by decide) (by decide))) (by decide) r10
  refine gb e10 ?_
  refine gt v10 ?_
  refine gf i0ne1 ?_
  unfold jL_refusesAny_213
  obtain ⟨o11, t11, e11, f11, r11⟩ := C_step I10 7 1 0 3 0
  obtain ⟨v11, I11⟩ := ro_no f11 (chkV_of (n_step2 (by decide) (by decide))) (by decide) r11
  refine gb e11 ?_
  refine gt v11 ?_
  refine gf i0ne1 ?_
  unfold jL_refusesAny_236
  obtain ⟨o12, t12, e12, f12, r12⟩ := C_step I11 7 2 1 2 1
  obtain ⟨v12, I12⟩ := ro_no f12 (chkV_of (n_step2 (by decide) (by decide))) (by decide) r12
  refine gb e12 ?_
  refine gt v12 ?_
  refine gf i0ne1 ?_
  obtain ⟨o13, n13, e13, w13, b13, z13, I13⟩ := C_cnt0 I12
  refine gb e13 ?_
  rw [w13]
  unfold jL_refusesAny_261
  obtain ⟨o14, t14, e14, f14, r14⟩ := C_drop I13 (nI n13)
  obtain ⟨v14, I14⟩ := ro_no f14 (chkV_of (n_drop (s_top z13 (by omega)))) (by decide) r14
  refine gb e14 ?_
  refine gt v14 ?_
  refine gf i0ne1 ?_
  unfold jL_refusesAny_279
  obtain ⟨o15, t15, e15, f15, r15⟩ := C_candidate hB I14 (-1)
  obtain ⟨v15, I15⟩ := ro_no f15 (chkV_of (n_cand (by decide))) (by decide) r15
  refine gb e15 ?_
  refine gt v15 ?_
  refine gf i0ne1 ?_
  unfold jL_refusesAny_298
  obtain ⟨o16, t16, e16, f16, r16⟩ := C_guess hB I15 10
  obtain ⟨v16, I16⟩ := ro_no f16 (chkV_of (n_guess (by decide))) (by decide) r16
  refine gb e16 ?_
  refine gt v16 ?_
  obtain ⟨o17, t17, e17, f17, r17⟩ := C_run hB I16 (-1) 5
  obtain ⟨v17, I17⟩ := ro_no f17 (chkV_of (n_run1 (by decide))) (by decide) r17
  refine gb e17 ?_
  refine gt v17 ?_
  refine gf i0ne1 ?_
  unfold jL_refusesAny_329
  obtain ⟨o18, t18, e18, f18, r18⟩ := C_run hB I17 1 100
  obtain ⟨v18, I18⟩ := ro_no f18 (chkV_of (n_run2 (by decide) (by decide))) (by decide) r18
  refine gb e18 ?_
  refine gt v18 ?_
  obtain ⟨o19, e19, f19, I19⟩ := C_holds I18 6 0
  have v19 := aq_v (v := -2) f19 ((by decide +kernel))
  refine gb e19 ?_
  refine gt (v19) ?_
  refine gf i0ne1 ?_
  unfold jL_refusesAny_363
  obtain ⟨o20, e20, f20, I20⟩ := C_holds I19 7 512
  have v20 := aq_v (v := -2) f20 ((by decide +kernel))
  refine gb e20 ?_
  refine gt (v20) ?_
  refine gf i0ne1 ?_
  obtain ⟨o21, n21, e21, w21, b21, z21, I21⟩ := C_cnt0 I20
  refine gb e21 ?_
  rw [w21]
  unfold jL_refusesAny_385
  obtain ⟨o22, e22, f22, I22⟩ := C_ofStep I21 (nI n21) 9
  have v22 := aq_v f22 (n_ofStep (s_top z21 (by omega)))
  refine gb e22 ?_
  refine gt (v22) ?_
  obtain ⟨o23, n23, e23, w23, b23, z23, I23⟩ := C_cnt0 I22
  refine gb e23 ?_
  rw [w23]
  suffices next23 : ∀ y : CS, IC B A y → good B A (jL_refusesAny_424 1 y) by
    by_cases h23 : n23 = 0
    · subst h23
      exact gt (show nI 0 ≤ (0 : Int32) by decide) (next23 _ I23)
    · refine gf (show ¬ nI n23 ≤ (0 : Int32) from c_ge (i := 0) rfl (by omega) (by omega)) ?_
      refine gf i0ne1 ?_
      unfold jL_refusesAny_414
      obtain ⟨o, e, f, I⟩ := C_ofStep I23 0 7
      have v := aq_v f (n_ofStep2 (s_0 z23 (Nat.pos_of_ne_zero h23) (by omega)) (by decide))
      exact gb e (gt v (next23 _ I))
  intro c' I'
  have I24 := I'
  unfold jL_refusesAny_424
  refine gf i0ne1 ?_
  obtain ⟨o25, n25, e25, w25, b25, z25, I25⟩ := C_cnt0 I24
  refine gb e25 ?_
  rw [w25]
  unfold jL_refusesAny_438
  obtain ⟨o26, e26, f26, I26⟩ := C_leads I25 (nI n25) 999
  have v26 := aq_v f26 (n_leads (s_top z25 (by omega)))
  refine gb e26 ?_
  refine gt (v26) ?_
  obtain ⟨o27, n27, e27, w27, b27, z27, I27⟩ := C_cnt0 I26
  refine gb e27 ?_
  rw [w27]
  suffices next27 : ∀ y : CS, IC B A y → good B A (jL_refusesAny_477 1 y) by
    by_cases h27 : n27 = 0
    · subst h27
      exact gt (show nI 0 ≤ (0 : Int32) by decide) (next27 _ I27)
    · refine gf (show ¬ nI n27 ≤ (0 : Int32) from c_ge (i := 0) rfl (by omega) (by omega)) ?_
      refine gf i0ne1 ?_
      unfold jL_refusesAny_469
      obtain ⟨o, e, f, I⟩ := C_leads I27 0 512
      have v := aq_v f (n_leads2 (s_0 z27 (Nat.pos_of_ne_zero h27) (by omega)) (by decide))
      exact gb e (gt v (next27 _ I))
  intro c' I'
  have I28 := I'
  unfold jL_refusesAny_477
  refine gf i0ne1 ?_
  obtain ⟨o29, n29, e29, w29, b29, z29, I29⟩ := C_cnt1 I28
  refine gb e29 ?_
  rw [w29]
  unfold jL_refusesAny_491
  obtain ⟨o30, e30, f30, I30⟩ := C_ofCandidate I29 (nI n29) 9
  have v30 := aq_v f30 (n_ofC (by rw [z29]; exact in_top (by omega)))
  refine gb e30 ?_
  refine gt (v30) ?_
  obtain ⟨o31, n31, e31, w31, b31, z31, I31⟩ := C_cnt1 I30
  refine gb e31 ?_
  rw [w31]
  suffices next31 : ∀ y : CS, IC B A y → good B A (jL_refusesAny_527 1 y) by
    by_cases h31 : n31 = 0
    · subst h31
      exact gt (show nI 0 ≤ (0 : Int32) by decide) (next31 _ I31)
    · refine gf (show ¬ nI n31 ≤ (0 : Int32) from c_ge (i := 0) rfl (by omega) (by omega)) ?_
      refine gf i0ne1 ?_
      unfold jL_refusesAny_519
      obtain ⟨o, e, f, I⟩ := C_ofCandidate I31 0 5
      have v := aq_v f (n_ofC2 (by rw [z31]; exact in_0 (Nat.pos_of_ne_zero h31) (by omega)) (by decide))
      exact gb e (gt v (next31 _ I))
  intro c' I'
  have I32 := I'
  unfold jL_refusesAny_527
  refine gf i0ne1 ?_
  unfold jL_refusesAny_538
  obtain ⟨o33, e33, f33, I33⟩ := C_count I32 13
  have v33 := aq_v f33 (n_count (fun k hk => by rcases (show k = 0 ∨ k = 1 ∨ k = 2 ∨ k = 3 ∨ k = 4 ∨ k = 5 ∨ k = 6 ∨ k = 7 ∨ k = 8 ∨ k = 9 ∨ k = 10 ∨ k = 11 ∨ k = 12 by omega) with rfl | rfl | rfl | rfl | rfl | rfl | rfl | rfl | rfl | rfl | rfl | rfl | rfl <;> decide))
  refine gb e33 ?_
  refine gt (v33) ?_
  refine gf i0ne1 ?_
  unfold jL_refusesAny_558
  obtain ⟨o34, e34, f34, I34⟩ := C_ofState I33 512
  have v34 := aq_v f34 (n_ofState (by decide))
  refine gb e34 ?_
  refine gt (v34) ?_
  refine gf i0ne1 ?_
  unfold jL_refusesAny_578
  obtain ⟨o35, e35, f35, I35⟩ := C_proves I34 (-7)
  have v35 := aq_v f35 (n_proves (by decide))
  refine gb e35 ?_
  refine gt (v35) ?_
  obtain ⟨o36, e36, f36, I36⟩ := C_witness I35 8
  have v36 := aq_v f36 (n_witness (by decide))
  refine gb e36 ?_
  refine gt (v36) ?_
  obtain ⟨o37, e37, f37, I37⟩ := C_isTrue I36 1350
  have v37 := aq_v f37 (n_isTrue (by decide))
  refine gb e37 ?_
  refine gt (v37) ?_
  refine gf i0ne1 ?_
  unfold jL_refusesAny_621
  obtain ⟨o38, e38, f38, I38⟩ := C_core I37 (-2147483648)
  have v38 := aq_v f38 (n_core (by decide))
  refine gb e38 ?_
  refine gt (lc_t v38) ?_
  refine gf i0ne1 ?_
  unfold jL_refusesAny_645
  obtain ⟨o39, e39, v39, I39⟩ := C_put_bad I38 (p0 := 32) (by decide +kernel)
  refine gb e39 ?_
  refine gt v39 ?_
  refine gf i0ne1 ?_
  unfold jL_refusesAny_667
  obtain ⟨o40, e40, v40, I40⟩ := C_put_bad I39 (p0 := 32611) (by decide +kernel)
  refine gb e40 ?_
  refine gt v40 ?_
  refine gf i0ne1 ?_
  unfold jL_refusesAny_685
  obtain ⟨o41, e41, v41, I41⟩ := C_save_bad I40 (p := 2) (by decide)
  refine gb e41 ?_
  refine gt v41 ?_
  refine gf i0ne1 ?_
  unfold jL_refusesAny_703
  obtain ⟨o42, e42, v42, I42⟩ := C_restore_bad I41 (p := 2) (by decide)
  refine gb e42 ?_
  refine gt v42 ?_
  exact ⟨_, rfl, I42⟩
