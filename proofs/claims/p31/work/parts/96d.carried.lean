theorem e8 (i : Nat) : ((8 : Int32) * nI i) + 8 = nI (8 * i + 8) := by rw [show (8 : Int32) * nI i = nI (8 * i) from pk_mul 8 i]; exact nI_add (8 * i) 8
theorem put375 : ∀ i, i < 10 → chkP (fX11_put (pad (List.replicate (8 * i) 107)) (nI (List.replicate (8 * i) (107 : Int32)).length) 7740398493674204011) (nI (8 * i + 8)) (List.replicate (8 * (i + 1)) 107) = true := by decide +kernel
theorem loop375 {B : Nat} {t : RW} {L : List RW} {sl : Nat → Option RW} {c : CS} (h : IC B (t, L, sl, []) c) : ∃ c', iter gL_carried_375 FU ((0 : Int32), c) = some (.inl (10, c')) ∧ IC B (t, L, sl, List.replicate 80 107) c' := by
  obtain ⟨b, e, c', rfl, hc⟩ := iter0 (g := gL_carried_375) (fun (i : Nat) (a : Int32 × CS) => a.1 = nI i ∧ IC B (t, L, sl, List.replicate (8 * i) 107) a.2) (fun (b : (Int32 × CS) ⊕ Int32) => ∃ c', b = .inl (10, c') ∧ IC B (t, L, sl, List.replicate 80 107) c') 10 (0, c) (by decide) ⟨rfl, h⟩ (fun i a hi hI => by
    obtain ⟨n, c1⟩ := a
    obtain ⟨rfl, hc⟩ := hI
    left
    dsimp only at hc
    obtain ⟨o, k1, k2, k3⟩ := C_put_ok hc (put375 i hi)
    unfold gL_carried_375
    dsimp only
    rw [if_neg (c_ge (N := 10) (n := 10) rfl hi (by decide)), k1, bd_some, show ((8 : Int32) * nI i) + 8 = nI (8 * i + 8) from e8 i, if_pos k2]
    exact ⟨_, rfl, nI1 i, k3⟩) (fun a hI => by
    obtain ⟨n, c1⟩ := a
    obtain ⟨rfl, hc⟩ := hI
    unfold gL_carried_375
    dsimp only
    rw [if_pos (c_le (N := 10) (n := 10) rfl (Nat.le_refl _) (by decide))]
    exact ⟨_, rfl, _, rfl, hc⟩)
  exact ⟨c', e, hc⟩
set_option maxRecDepth 100000 in
set_option maxHeartbeats 4000000 in
theorem carried_true : fL_carried = some 1 := by
  unfold fL_carried
  obtain ⟨c0, e0, I0⟩ := new_IC
  refine bs1 e0 ?_
  obtain ⟨o1, e1, v1, J1⟩ := puts_T I0 (by decide) ev_R_1 (by decide)
  have I1 : IC 0 AR1 o1.2 := J1
  refine bs1 e1 ?_
  refine if_f (by rw [v1] <;> decide) ?_
  obtain ⟨o2, e2, v2, J2⟩ := puts_T I1 (by decide) ev_R_2 (by decide)
  have I2 : IC 0 AR2 o2.2 := J2
  refine bs1 e2 ?_
  refine if_f (by rw [v2] <;> decide) ?_
  obtain ⟨o3, e3, v3, J3⟩ := puts_T I2 (by decide) ev_R_3 (by decide)
  have I3 : IC 0 AR3 o3.2 := J3
  refine bs1 e3 ?_
  refine if_f (by rw [v3] <;> decide) ?_
  obtain ⟨o4, e4, v4, J4⟩ := puts_T I3 (by decide) ev_R_4 (by decide)
  have I4 : IC 0 AR4 o4.2 := J4
  refine bs1 e4 ?_
  refine if_f (by rw [v4] <;> decide) ?_
  obtain ⟨o5, e5, f5, I5⟩ := C_count I4 11
  have v5 := aq_v f5 ev_R_5
  refine bs1 e5 ?_
  refine if_t (by rw [v5] <;> decide) ?_
  obtain ⟨o6, e6, v6, J6⟩ := C_carry (by decide) I5 ev_R_6
  have I6 : IC 100 AR5 o6.2 := J6
  refine bs1 e6 ?_
  refine if_t (by rw [v6] <;> decide) ?_
  obtain ⟨o7, e7, f7, I7⟩ := C_count I6 11
  have v7 := aq_v f7 ev_R_7
  refine bs1 e7 ?_
  refine if_t (by rw [v7] <;> decide) ?_
  obtain ⟨o8, e8, f8, I8⟩ := C_count I7 12
  have v8 := aq_v f8 ev_R_8
  refine bs1 e8 ?_
  refine if_t (by rw [v8] <;> decide) ?_
  obtain ⟨o9, e9, f9, I9⟩ := C_count I8 0
  have v9 := aq_v f9 ev_R_9
  refine bs1 e9 ?_
  refine if_t (by rw [v9] <;> decide) ?_
  obtain ⟨o10, e10, f10, I10⟩ := C_count I9 1
  have v10 := aq_v f10 ev_R_10
  refine bs1 e10 ?_
  refine if_t (by rw [v10] <;> decide) ?_
  obtain ⟨o11, e11, v11, I11⟩ := isC_T I10 ev_R_11_1 ev_R_11_2 ev_R_11_3 ev_R_11_4
  refine bs1 e11 ?_
  refine if_f (by rw [v11] <;> decide) ?_
  obtain ⟨o12, e12, f12, I12⟩ := C_ofCandidate I11 0 0
  have v12 := aq_v f12 ev_R_12
  refine bs1 e12 ?_
  refine if_t (by rw [v12] <;> decide) ?_
  obtain ⟨o13, e13, f13, I13⟩ := C_ofCandidate I12 1 0
  have v13 := aq_v f13 ev_R_13
  refine bs1 e13 ?_
  refine if_t (by rw [v13] <;> decide) ?_
  obtain ⟨o14, e14, v14, I14⟩ := isC_T I13 ev_R_14_1 ev_R_14_2 ev_R_14_3 ev_R_14_4
  refine bs1 e14 ?_
  refine if_f (by rw [v14] <;> decide) ?_
  obtain ⟨o15, e15, v15, J15⟩ := puts_T I14 (by decide) ev_R_15 (by decide)
  have I15 : IC 100 AR6 o15.2 := J15
  refine bs1 e15 ?_
  refine if_f (by rw [v15] <;> decide) ?_
  obtain ⟨o16, e16, v16, J16⟩ := C_carry (by decide) I15 ev_R_16
  have I16 : IC 200 AR7 o16.2 := J16
  refine bs1 e16 ?_
  refine if_t (by rw [v16] <;> decide) ?_
  obtain ⟨o17, e17, f17, I17⟩ := C_count I16 12
  have v17 := aq_v f17 ev_R_17
  refine bs1 e17 ?_
  refine if_t (by rw [v17] <;> decide) ?_
  obtain ⟨o18, e18, v18, J18⟩ := puts_T I17 (by decide) ev_R_18 (by decide)
  have I18 : IC 200 AR8 o18.2 := J18
  refine bs1 e18 ?_
  refine if_f (by rw [v18] <;> decide) ?_
  obtain ⟨o19, e19, v19, J19⟩ := C_carry (by decide) I18 ev_R_19
  have I19 : IC 300 AR9 o19.2 := J19
  refine bs1 e19 ?_
  refine if_t (by rw [v19] <;> decide) ?_
  obtain ⟨o20, e20, f20, I20⟩ := C_count I19 12
  have v20 := aq_v f20 ev_R_20
  refine bs1 e20 ?_
  refine if_t (by rw [v20] <;> decide) ?_
  obtain ⟨o21, e21, v21, J21⟩ := puts_T I20 (by decide) ev_R_21 (by decide)
  have I21 : IC 300 AR10 o21.2 := J21
  refine bs1 e21 ?_
  refine if_f (by rw [v21] <;> decide) ?_
  obtain ⟨o22, e22, v22, J22⟩ := C_carry (by decide) I21 ev_R_22
  have I22 : IC 400 AR11 o22.2 := J22
  refine bs1 e22 ?_
  refine if_t (by rw [v22] <;> decide) ?_
  obtain ⟨o23, e23, f23, I23⟩ := C_ofStep I22 1 0
  have v23 := aq_v f23 ev_R_23
  refine bs1 e23 ?_
  obtain ⟨o24, e24, f24, I24⟩ := C_claim I23 4 1 0 2
  have v24 := aq_v f24 ev_R_24
  refine bs1 e24 ?_
  refine if_t (by rw [v23, v24] <;> decide) ?_
  obtain ⟨o25, e25, f25, I25⟩ := C_ofStep I24 1 1
  have v25 := aq_v f25 ev_R_25
  refine bs1 e25 ?_
  refine if_t (by rw [v25] <;> decide) ?_
  obtain ⟨o26, e26, f26, I26⟩ := C_ofStep I25 1 2
  have v26 := aq_v f26 ev_R_26
  refine bs1 e26 ?_
  refine if_t (by rw [v26] <;> decide) ?_
  obtain ⟨o27, e27, f27, I27⟩ := C_ofStep I26 1 3
  have v27 := aq_v f27 ev_R_27
  refine bs1 e27 ?_
  refine if_t (by rw [v27] <;> decide) ?_
  obtain ⟨o28, e28, f28, I28⟩ := C_ofStep I27 1 4
  have v28 := aq_v f28 ev_R_28
  refine bs1 e28 ?_
  refine if_t (by rw [v28] <;> decide) ?_
  obtain ⟨o29, e29, v29, J29⟩ := puts_T I28 (by decide) ev_R_29 (by decide)
  have I29 : IC 400 AR12 o29.2 := J29
  refine bs1 e29 ?_
  refine if_f (by rw [v29] <;> decide) ?_
  obtain ⟨o30, e30, v30, J30⟩ := puts_T I29 (by decide) ev_R_30 (by decide)
  have I30 : IC 400 AR13 o30.2 := J30
  refine bs1 e30 ?_
  refine if_f (by rw [v30] <;> decide) ?_
  obtain ⟨o31, e31, v31, J31⟩ := C_carry (by decide) I30 ev_R_31
  have I31 : IC 500 AR14 o31.2 := J31
  refine bs1 e31 ?_
  refine if_t (by rw [v31] <;> decide) ?_
  obtain ⟨o32, e32, f32, I32⟩ := C_ofCandidate I31 3 0
  have v32 := aq_v f32 ev_R_32
  refine bs1 e32 ?_
  obtain ⟨o33, e33, f33, I33⟩ := C_claim I32 6 1 0 (-1)
  have v33 := aq_v f33 ev_R_33
  refine bs1 e33 ?_
  refine if_t (by rw [v32, v33] <;> decide) ?_
  obtain ⟨o34, e34, v34, J34⟩ := puts_T I33 (by decide) ev_R_34 (by decide)
  have I34 : IC 500 AR15 o34.2 := J34
  refine bs1 e34 ?_
  refine if_f (by rw [v34] <;> decide) ?_
  obtain ⟨o35, e35, v35, I35⟩ := C_carry_bad I34 ev_R_35 (by decide)
  refine bs1 e35 ?_
  refine if_t (by rw [v35] <;> decide) ?_
  obtain ⟨o36, e36, f36, I36⟩ := C_count I35 11
  have v36 := aq_v f36 ev_R_36
  refine bs1 e36 ?_
  refine if_t (by rw [v36] <;> decide) ?_
  obtain ⟨o37, e37, v37, J37⟩ := C_wipe I36
  replace v37 : o37.1 = 2 := v37
  have I37 : IC 500 AR16 o37.2 := J37
  refine bs1 e37 ?_
  refine if_t (by rw [v37] <;> decide) ?_
  obtain ⟨c38, e38, J38⟩ := loop375 I37
  refine bs1 e38 ?_
  show _ = some 1
  have I38 : IC 500 AR17 c38 := J38
  rw [se_l]
  obtain ⟨o39, e39, v39, J39⟩ := C_put_ok I38 ev_R_39
  have I39 : IC 500 AR17 o39.2 := J39
  refine bs1 e39 ?_
  refine if_t (by rw [v39] <;> decide) ?_
  obtain ⟨o40, e40, v40, J40⟩ := C_wipe I39
  replace v40 : o40.1 = 80 := v40
  have I40 : IC 500 AR18 o40.2 := J40
  refine bs1 e40 ?_
  refine if_t (by rw [v40] <;> decide) ?_
  obtain ⟨o41, e41, v41, J41⟩ := C_undo_l I40 (L := AR13.2.1) (u := AR13.1) rfl
  have I41 : IC 500 AR19 o41.2 := J41
  replace v41 : o41.1 = 4 := v41
  refine bs1 e41 ?_
  refine if_t (by rw [v41] <;> decide) ?_
  obtain ⟨o42, e42, f42, I42⟩ := C_count I41 1
  have v42 := aq_v f42 ev_R_42
  refine bs1 e42 ?_
  refine if_t (by rw [v42] <;> decide) ?_
  rfl
