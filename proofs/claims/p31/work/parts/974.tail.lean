/-! ===== the law's text, whole ===== -/
theorem nI_subm {a b : Nat} (h : b ≤ a) : nI a - nI b = nI (a - b) := by
  have k := nI_add (a - b) b
  rw [Nat.sub_add_cancel h] at k
  rw [← k, Int32.add_sub_cancel]
theorem cnt2_st {A : AS} {v : Int32} (h : aq_st A.1 = some v) : aq_count A 2 = some v := by
  unfold aq_st at h
  obtain ⟨y, e1, h⟩ := k_bd h
  obtain ⟨z, e2, h⟩ := k_bd h
  cases h
  unfold aq_count fX11_count
  rw [if_neg (by decide), if_neg (by decide), if_pos rfl, e1, bd_some, e2, bd_some, bd_some]
theorem cnt6 {A : AS} : aq_count A 6 = some (A.1 0) := by
  unfold aq_count fX11_count
  rw [if_neg (by decide), if_neg (by decide), if_neg (by decide), if_neg (by decide), if_neg (by decide), if_neg (by decide), if_pos rfl, gg0, gd_tr, ii0, bd_some]
theorem C_undo_r {B : Nat} {A : AS} {c : CS} (h : IC B A c) {u : RW} {us : List RW} (hr : A.2.1.reverse = u :: us) : ∃ (o : Int32 × CS) (Lb : List RW), oC_undo c = some o ∧ o.1 = nI Lb.length ∧ Lb.reverse = us ∧ IC B (u, Lb, A.2.2) o.2 := by
  obtain ⟨o, e, h | ⟨Lb, w, q, q2, q3⟩⟩ := C_undo h
  · rw [h.1] at hr; simp at hr
  · rw [q, List.reverse_append] at hr
    have h1 : w :: Lb.reverse = u :: us := hr
    obtain ⟨h2, h3⟩ := List.cons.inj h1
    subst h2
    exact ⟨o, Lb, e, q2, h3, q3⟩
/-- undo by undo, what is seen is what was seen -/
theorem loop478 {m : Nat} {w : Nat → Int64} {e0 : Int32 × Int32 × CS × (Nat → Int64)} {y0 : Int64 × CS} {t : RW} {Ls : List RW} {sp : (Nat → Option RW) × List Int32} {c : CS} (hm : m ≤ 24) (he : e0.1 = nI m) (hw : vp_updL e0.2.2.2 (ix e0.1) y0.1 = w) (h : IC 24 (t, Ls, sp) c) (hs : SF t = w m) (hW : HW w m Ls.reverse) : ∃ e, iter (gL_law_478 e0 y0) FU ((0 : Int32), c) = some (.inl e) ∧ ∃ t' : RW, IC 24 (t', [], sp) e.2 := by
  have hl6 : Ls.length ≤ 6 := h.2.1.1
  obtain ⟨b, hb, e, rfl, he'⟩ := iter0 (g := gL_law_478 e0 y0) (fun (i : Nat) (a : Int32 × CS) => a.1 = nI i ∧ ∃ (t : RW) (Lb : List RW), Lb.length + i = Ls.length ∧ i ≤ m ∧ IC 24 (t, Lb, sp) a.2 ∧ SF t = w (m - i) ∧ HW w (m - i) Lb.reverse) (fun (b : (Int32 × CS) ⊕ Int32) => ∃ e, b = .inl e ∧ ∃ t' : RW, IC 24 (t', [], sp) e.2) Ls.length ((0 : Int32), c) (by omega) ⟨rfl, t, Ls, rfl, Nat.zero_le m, h, hs, hW⟩ (fun i a hi hI => by
    obtain ⟨n, c1⟩ := a
    obtain ⟨hn, t1, Lb, k1, k2, I, k3, k4⟩ := hI
    dsimp only at hn I
    left
    have hne : Lb.length ≠ 0 := by omega
    obtain ⟨u, us, hr⟩ : ∃ u us, Lb.reverse = u :: us := by
      cases hq : Lb.reverse with
      | nil => exact absurd (by rw [← List.length_reverse, hq]; rfl) hne
      | cons u us => exact ⟨u, us, rfl⟩
    rw [hr] at k4
    obtain ⟨o1, e1, f1, I1⟩ := C_count I 12
    obtain ⟨o2, e2, v2, I2⟩ := seen_F I1
    obtain ⟨o3, Lc, e3, v3, r3, I3⟩ := C_undo_r I2 hr
    have hlen : Lc.length + 1 = Lb.length := by
      rw [← List.length_reverse (as := Lc), r3, ← List.length_reverse (as := Lb), hr]; rfl
    have hm1 : 1 ≤ m - i := k4.1
    unfold gL_law_478
    dsimp only
    rw [e1, bd_some, if_neg (show ¬ o1.1 ≤ 0 by rw [aq_v f1 cnt12]; exact c_ge (i := 0) rfl (Nat.pos_of_ne_zero hne) (by show Lb.length < 2 ^ 31; omega)), if_neg (show ¬ (6 : Int32) < n by rw [hn, lt_toInt, nI_toInt (by omega), show (6 : Int32).toInt = 6 by decide]; omega), e2, bd_some, hw, he, hn, show nI m - nI i = nI (m - i) from nI_subm (by omega), gd_nI (by omega) (by decide), ixn (by omega), if_pos (lc_t (v2.trans k3)), e3, bd_some, if_pos (show 0 ≤ o3.1 by rw [v3, le_toInt, tI0, nI_toInt (by omega)]; omega)]
    refine ⟨_, rfl, nI1 i, u, Lc, by omega, by omega, I3, ?_, ?_⟩
    · rw [k4.2.1, Nat.sub_sub]
    · rw [r3, show m - (i + 1) = m - i - 1 by omega]; exact k4.2.2) (fun a hI => by
    obtain ⟨n, c1⟩ := a
    obtain ⟨hn, t1, Lb, k1, k2, I, k3, k4⟩ := hI
    dsimp only at hn I
    have h0 : Lb.length = 0 := by omega
    have hnil : Lb = [] := List.eq_nil_of_length_eq_zero h0
    subst hnil
    obtain ⟨o1, e1, f1, I1⟩ := C_count I 12
    unfold gL_law_478
    dsimp only
    rw [e1, bd_some, if_pos (show o1.1 ≤ 0 by rw [aq_v f1 cnt12]; show nI 0 ≤ (0 : Int32); decide)]
    exact ⟨_, rfl, _, rfl, t1, I1⟩)
  exact ⟨e, hb, he'⟩
/-- steps up to their limit -/
theorem loop565 {A : AS} {c : CS} (h : IC 24 A c) (hV : vOK A.1) : ∃ c', iter gL_law_565 FU c = some (.inl c') ∧ ∃ A' : AS, IC 24 A' c' ∧ A'.1 2 = nI 8 ∧ vOK A'.1 := by
  obtain ⟨o0, n0, -, -, hn8, hz, -⟩ := C_cnt0 h
  obtain ⟨b, hb, c', rfl, hc'⟩ := iter0 (g := gL_law_565) (fun (i : Nat) (c : CS) => ∃ A' : AS, IC 24 A' c ∧ A'.1 2 = nI (n0 + i) ∧ vOK A'.1) (fun (b : CS ⊕ Int32) => ∃ c', b = .inl c' ∧ ∃ A' : AS, IC 24 A' c' ∧ A'.1 2 = nI 8 ∧ vOK A'.1) (8 - n0) c (by omega) ⟨A, h, hz, hV⟩ (fun i c1 hi hI => by
    obtain ⟨A1, I, k2, k3⟩ := hI
    left
    obtain ⟨o1, n1, e1, v1, -, z1, I1⟩ := C_cnt0 I
    obtain ⟨o2, t2, e2, f2, r2⟩ := C_step I1 7 0 0 0 0
    obtain ⟨p1, p2⟩ := F_step I1.1 k2 (by omega) f2
    unfold gL_law_565
    rw [e1, bd_some, if_neg (show ¬ (8 : Int32) ≤ o1.1 by rw [v1, ← z1, k2]; exact c_ge (N := 8) (n := 8) rfl (by omega) (by decide)), e2, bd_some, if_pos p1]
    refine ⟨_, rfl, ?_⟩
    rcases r2 with ⟨q1, -, -⟩ | ⟨-, q2⟩
    · rw [lt_toInt] at q1; rw [le_toInt] at p1; omega
    · exact ⟨_, q2, p2, W_V q2.1 (K_step e2 (V_W I1.1 k3))⟩) (fun c1 hI => by
    obtain ⟨A1, I, k2, k3⟩ := hI
    obtain ⟨o1, n1, e1, v1, -, z1, I1⟩ := C_cnt0 I
    have h8 : n0 + (8 - n0) = 8 := by omega
    rw [h8] at k2
    unfold gL_law_565
    rw [e1, bd_some, if_pos (show (8 : Int32) ≤ o1.1 by rw [v1, ← z1, k2]; decide)]
    exact ⟨_, rfl, _, rfl, A1, I1, k2, k3⟩)
  exact ⟨c', hb, hc'⟩
theorem codes_45 : ∀ i, i < 45 → vc (nI (960 + i)) = true := by decide +kernel
/-- candidates up to their limit: there are more codes than places -/
theorem loop595 {A : AS} {c : CS} (h : IC 24 A c) (h2 : A.1 2 = nI 8) (hV : vOK A.1) : ∃ e, iter gL_law_595 FU ((945 : Int32), c) = some (.inl e) ∧ ∃ A' : AS, IC 24 A' e.2 ∧ A'.1 2 = nI 8 ∧ A'.1 3 = nI 40 ∧ vOK A'.1 := by
  obtain ⟨b, hb, e, rfl, he⟩ := iter0 (g := gL_law_595) (fun (i : Nat) (a : Int32 × CS) => a.1 = nI (945 + i) ∧ ∃ (A' : AS) (n : Nat), IC 24 A' a.2 ∧ A'.1 2 = nI 8 ∧ A'.1 3 = nI n ∧ n ≤ 40 ∧ vOK A'.1 ∧ ∀ q, 945 ≤ q → q < 945 + i → vc (nI q) = true → ∃ j, j < n ∧ A'.1 (47 + 5 * j) = nI q) (fun (b : (Int32 × CS) ⊕ Int32) => ∃ e, b = .inl e ∧ ∃ A' : AS, IC 24 A' e.2 ∧ A'.1 2 = nI 8 ∧ A'.1 3 = nI 40 ∧ vOK A'.1) 405 ((945 : Int32), c) (by decide) (by
    obtain ⟨o1, n1, -, -, b1, z1, -⟩ := C_cnt1 h
    exact ⟨rfl, A, n1, h, h2, z1, b1, hV, fun q q1 q2 => absurd q2 (by omega)⟩) (fun i a hi hI => by
    obtain ⟨x, c1⟩ := a
    obtain ⟨hx, A1, n, I, k2, k3, k4, k5, k6⟩ := hI
    dsimp only at hx I
    obtain ⟨o1, n1, e1, v1, -, z1, I1⟩ := C_cnt1 I
    unfold gL_law_595
    dsimp only
    rw [hx, if_neg (c_ge (N := 1350) (n := 1350) rfl (show 945 + i < 1350 by omega) (by decide)), e1, bd_some]
    by_cases h40 : n = 40
    · right
      rw [if_pos (show (40 : Int32) ≤ o1.1 by rw [v1, ← z1, k3, h40]; decide)]
      exact ⟨_, rfl, _, rfl, A1, I1, k2, by rw [k3, h40], k5⟩
    · left
      have hn : n < 40 := by omega
      rw [if_neg (show ¬ (40 : Int32) ≤ o1.1 by rw [v1, ← z1, k3]; exact c_ge (N := 40) (n := 40) rfl hn (by decide))]
      obtain ⟨o2, e2, hd⟩ := C_cand_law (by decide) I1 k3 hn (show 945 + i < 1350 by omega) k5
      rw [e2, bd_some, show nI (945 + i) + 1 = nI (945 + (i + 1)) from nI1 (945 + i)]
      rcases hd with ⟨p1, p2, p3⟩ | ⟨p1, p2, p3⟩ | ⟨p1, t', Lc, p2, p3, p4, p5, p6, p7⟩
      · rw [p1, if_neg (by decide), if_pos rfl]
        refine ⟨_, rfl, rfl, A1, n, p3, k2, k3, k4, k5, fun q q1 q2 q3 => ?_⟩
        by_cases eq : q = 945 + i
        · rw [eq, p2] at q3; exact absurd q3 (by decide)
        · exact k6 q q1 (by omega) q3
      · rw [p1, if_neg (by decide), if_neg (by decide), if_pos rfl]
        refine ⟨_, rfl, rfl, A1, n, p3, k2, k3, k4, k5, fun q q1 q2 q3 => ?_⟩
        by_cases eq : q = 945 + i
        · rw [eq]; exact p2
        · exact k6 q q1 (by omega) q3
      · rw [if_pos p1]
        refine ⟨_, rfl, rfl, (t', Lc, A1.2.2), n + 1, p2, by rw [← k2]; exact p4, p5, hn, p3, fun q q1 q2 q3 => ?_⟩
        by_cases eq : q = 945 + i
        · rw [eq]; exact ⟨n, Nat.lt_succ_self n, p7⟩
        · obtain ⟨j, j1, j2⟩ := k6 q q1 (by omega) q3
          exact ⟨j, Nat.lt_succ_of_lt j1, (p6 j j1).trans j2⟩) (fun a hI => by
    obtain ⟨x, c1⟩ := a
    obtain ⟨hx, A1, n, I, k2, k3, k4, k5, k6⟩ := hI
    dsimp only at hx I
    have h40 : n = 40 := by
      rcases Nat.lt_or_ge n 40 with hn | hn
      · exfalso
        have hex : ∀ i, i < 45 → ∃ j, j < n ∧ A1.1 (47 + 5 * j) = nI (960 + i) := fun i hi => k6 (960 + i) (by omega) (by omega) (codes_45 i hi)
        let g : Nat → Nat := fun i => if hi : i < 45 then Classical.choose (hex i hi) else 0
        have hg : ∀ i, i < 45 → g i < n ∧ A1.1 (47 + 5 * g i) = nI (960 + i) := fun i hi => by
          have e : g i = Classical.choose (hex i hi) := dif_pos hi
          rw [e]
          exact Classical.choose_spec (hex i hi)
        obtain ⟨i, j, hij, hj, he⟩ := fb_twice (m := n) (n := 45) (f := g) (fun i hi => (hg i hi).1) (by omega)
        have e1 := (hg i (by omega)).2
        have e2 := (hg j hj).2
        rw [he, e2] at e1
        have := nI_inj (by omega) (by omega) e1
        omega
      · omega
    unfold gL_law_595
    dsimp only
    rw [hx, if_pos (show (1350 : Int32) ≤ nI (945 + 405) by decide)]
    exact ⟨_, rfl, _, rfl, A1, I, k2, by rw [k3, h40], k5⟩)
  exact ⟨e, hb, he⟩
theorem tail648 {A : AS} {e : Int32 × CS} (h : IC 24 A e.2) (h2 : A.1 2 = nI 8) (h3 : A.1 3 = nI 40) (hV : vOK A.1) : jL_law_648 e = some 1 := by
  obtain ⟨o1, t1, e1, f1, r1⟩ := C_step h 7 0 0 0 0
  obtain ⟨v1, I1⟩ := ro_no f1 (chkV_of (F_step8 h2)) (by decide) r1
  obtain ⟨o2, t2, e2, f2, r2⟩ := C_step I1 6 0 0 0 0
  obtain ⟨v2, I2⟩ := ro_no f2 (chkV_of (n_step1 (by decide +kernel))) (by decide) r2
  obtain ⟨o3, n3, e3, v3, -, z3, I3⟩ := C_cnt1 I2
  obtain ⟨o4, e4, f4, I4⟩ := C_ofCandidate I3 0 0
  have hc : aq_ofCandidate A 0 0 = some (A.1 47) := by
    unfold aq_ofCandidate fX11_ofCandidate
    rw [gg3, gd_tr, ii3, h3, show fX11_in 0 0 (nI 40 - 1) = some 1 by decide, bd_some, if_neg i0ne1, show fX11_in 0 0 4 = some 1 by decide, bd_some, if_neg i0ne1, show fX11_of A.1 0 0 = some (A.1 47) from of_eq (t := A.1) (c := 0) (j := 0) (J := 0) rfl (by decide) (by decide), bd_some]
  have v4 := aq_v f4 hc
  have hv0 : vc (A.1 47) = true := by
    obtain ⟨m, m1, m2, m3⟩ := hV
    have em : m = 40 := nI_inj (by omega) (by decide) (by rw [← m2, h3])
    exact m3 0 (by omega)
  obtain ⟨o5, t5, e5, f5, r5⟩ := C_candidate (by decide) I4 (A.1 47)
  have hf : fX11_candidate A.1 zR 0 1 (A.1 47) = some (-4, 0, A.1, zR) := by
    unfold fX11_candidate
    rw [isCode_01, hv0, bd_some, if_neg (by decide : ¬ b2i true = 0), gg3, gd_tr, ii3, h3, if_pos (show nI 40 = (40 : Int32) from rfl)]
  obtain ⟨v5, I5⟩ := ro_no f5 (chkV_of hf) (by decide) r5
  obtain ⟨o6, e6, v6⟩ := C_guess40 (by decide) I5 h3
  unfold jL_law_648
  rw [e1, bd_some, if_pos v1, e2, bd_some, if_pos v2, e3, bd_some, if_pos (show o3.1 = 40 by rw [v3, ← z3, h3]; rfl), e4, bd_some, v4, e5, bd_some, if_pos v5, e6, bd_some, if_pos v6]
theorem law_true {L : Nat} (hL : L ≤ 260) (sv : Nat → Int32) : fL_law L sv = some 1 := by
  unfold fL_law
  refine bs1 codes_true ?_
  refine if_f i0ne1 ?_
  refine bs1 counts_true ?_
  refine if_f i0ne1 ?_
  refine bs1 texts_true ?_
  refine if_f i0ne1 ?_
  refine bs1 carried_true ?_
  refine if_f i0ne1 ?_
  obtain ⟨c0, e0, I0⟩ := new_IC
  refine bs1 e0 ?_
  obtain ⟨e, he, m, t, Ls, hm, h1, h2, I, hV, hW⟩ := drawn_loop (sv := sv) hL I0
  refine bs1 he ?_
  rw [se_l]
  have hL6 : Ls.length ≤ 6 := I.2.1.1
  obtain ⟨o1, e1, v1, I1⟩ := seen_F I
  refine bs1 e1 ?_
  refine gd1 (by rw [h1]; exact gi_nI (by omega) (by decide)) ?_
  -- the start, the wrap, what is refused
  obtain ⟨o2, t1, e2, f2, r2⟩ := C_start I1 0 0 7
  obtain ⟨p2, q2⟩ := F_start I1.1 f2
  refine bs1 e2 ?_
  refine if_f (by rw [lt_toInt]; rw [le_toInt] at p2; omega) ?_
  have I2 : IC 24 (t1, push Ls t, A0.2.2) o2.2 := by
    rcases r2 with ⟨q1, -, -⟩ | ⟨-, q3⟩
    · rw [lt_toInt] at q1; rw [le_toInt] at p2; omega
    · exact q3
  have V2 : vOK t1 := W_V I2.1 (K_start e2 (V_W I1.1 hV))
  obtain ⟨o3, t2, e3, f3, r3⟩ := C_wrap I2 0
  obtain ⟨p3, q3⟩ := F_wrap I2.1 f3
  refine bs1 e3 ?_
  refine if_f (by rw [lt_toInt]; rw [le_toInt] at p3; omega) ?_
  have I3 : IC 24 (t2, push (push Ls t) t1, A0.2.2) o3.2 := by
    rcases r3 with ⟨q1, -, -⟩ | ⟨-, q4⟩
    · rw [lt_toInt] at q1; rw [le_toInt] at p3; omega
    · exact q4
  have V3 : vOK t2 := W_V I3.1 (K_wrap e3 (V_W I2.1 V2))
  obtain ⟨c4, e4, I4⟩ := refused_T (by decide) I3
  refine bs1 e4 ?_
  refine if_f i0ne1 ?_
  -- what stands, and saving
  obtain ⟨o5, e5, f5, I5⟩ := C_count I4 2
  refine bs1 e5 ?_
  obtain ⟨o6, e6, f6, I6⟩ := C_save I5 (q := 0) (by decide)
  refine bs1 e6 ?_
  have st : o6.1 = o5.1 := (aq_v f5 (cnt2_st f6)).symm
  refine if_t st ?_
  -- back behind the wrap and the start
  have hp6 : (push Ls t).length ≤ 6 := I2.2.1.1
  have hr1 : (push (push Ls t) t1).reverse = t1 :: (t :: Ls.reverse.take 5).take 5 := by rw [push_rev hp6, push_rev hL6]; rfl
  obtain ⟨o7, L7, e7, v7, r7, I7⟩ := C_undo_r I6 (u := t1) hr1
  refine bs1 e7 ?_
  have hr2 : L7.reverse = t :: (Ls.reverse.take 5).take 4 := r7
  have l7 : 1 ≤ L7.length := by rw [← List.length_reverse, hr2]; exact Nat.succ_le_succ (Nat.zero_le _)
  have l76 : L7.length ≤ 6 := I7.2.1.1
  refine if_f (by rw [v7, lt_toInt, nI_toInt (by omega), tI1]; omega) ?_
  obtain ⟨o8, L8, e8, v8, r8, I8⟩ := C_undo_r I7 (u := t) hr2
  refine bs1 e8 ?_
  have l86 : L8.length ≤ 6 := I8.2.1.1
  refine if_t (by rw [v8, le_toInt, nI_toInt (by omega), tI0]; omega) ?_
  -- all that was seen, backwards
  obtain ⟨e9, h9, t9, I9⟩ := loop478 (w := vp_updL e.2.2.2 (ix e.1) o1.1) (e0 := e) (y0 := o1) hm h1 rfl I8 (by rw [h1, ixn (by omega), upl_s, v1]) (by rw [r8, h1, ixn (by omega)]; exact ((hW.take 5).take 4).upd (Nat.le_refl m))
  refine bs1 h9 ?_
  rw [se_l]
  obtain ⟨oa, ea, va, Ia⟩ := C_undo_e I9 rfl
  refine bs1 ea ?_
  refine if_t va ?_
  obtain ⟨ob, eb, hb⟩ := C_restore Ia (q := 0) (by decide)
  refine bs1 eb ?_
  obtain ⟨fb, Ib⟩ : aq_st t2 = some ob.1 ∧ ∃ Lb, IC 24 (t2, Lb, (upS A0.2.2.1 0 t2, ([] : List Int32))) ob.2 ∧ Lb.length = 1 := by
    rcases hb with ⟨z, -⟩ | ⟨u, z, z2, z3⟩
    · exact absurd z (by show ¬ some t2 = none; exact fun q => by cases q)
    · have hu : t2 = u := Option.some.inj (show some t2 = some u from z)
      subst hu
      exact ⟨z2, _, z3, rfl⟩
  obtain ⟨Lb, Ib, lb⟩ := Ib
  refine if_t ((aq_v fb f6).trans st) ?_
  obtain ⟨oc, ec, fc, Ic⟩ := C_count Ib 6
  refine bs1 ec ?_
  refine if_t (by rw [aq_v fc cnt6]; exact q3.trans q2) ?_
  obtain ⟨od, ed, fd, Id⟩ := C_count Ic 12
  refine bs1 ed ?_
  refine if_t (by rw [aq_v fd cnt12]; show nI Lb.length = 1; rw [lb]; rfl) ?_
  -- steps and candidates up to their limits
  obtain ⟨cf, ef, Af, If, h2f, Vf⟩ := loop565 Id V3
  refine bs1 ef ?_
  rw [se_l]
  obtain ⟨eg, hg, Ag, Ig, h2g, h3g, Vg⟩ := loop595 If h2f Vf
  refine bs1 hg ?_
  rw [se_l]
  exact tail648 Ig h2g h3g Vg
