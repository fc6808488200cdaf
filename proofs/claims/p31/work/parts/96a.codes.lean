set_option maxRecDepth 100000 in
set_option maxHeartbeats 4000000 in
theorem codes_true : fL_codes = some 1 := by
  unfold fL_codes
  obtain ⟨c0, e0, I0⟩ := new_IC
  refine bs1 e0 ?_
  obtain ⟨o1, e1, f1, I1⟩ := C_claim I0 0 0 0 0
  have v1 := aq_v f1 ev_K_1
  refine bs1 e1 ?_
  refine if_t (by rw [v1] <;> decide) ?_
  obtain ⟨o2, e2, f2, I2⟩ := C_claim I1 1 2 0 5
  have v2 := aq_v f2 ev_K_2
  refine bs1 e2 ?_
  refine if_t (by rw [v2] <;> decide) ?_
  obtain ⟨o3, e3, f3, I3⟩ := C_claim I2 5 0 1 (-7)
  have v3 := aq_v f3 ev_K_3
  refine bs1 e3 ?_
  refine if_t (by rw [v3] <;> decide) ?_
  obtain ⟨o4, e4, f4, I4⟩ := C_claim I3 9 1 2 1
  have v4 := aq_v f4 ev_K_4
  refine bs1 e4 ?_
  refine if_t (by rw [v4] <;> decide) ?_
  obtain ⟨o5, e5, f5, I5⟩ := C_claim I4 0 1 0 0
  have v5 := aq_v f5 ev_K_5
  refine bs1 e5 ?_
  refine if_t (by rw [v5] <;> decide) ?_
  obtain ⟨o6, e6, f6, I6⟩ := C_claim I5 0 0 0 1
  have v6 := aq_v f6 ev_K_6
  refine bs1 e6 ?_
  refine if_t (by rw [v6] <;> decide) ?_
  obtain ⟨o7, e7, f7, I7⟩ := C_claim I6 1 0 1 0
  have v7 := aq_v f7 ev_K_7
  refine bs1 e7 ?_
  refine if_t (by rw [v7] <;> decide) ?_
  obtain ⟨o8, e8, f8, I8⟩ := C_claim I7 1 0 0 8
  have v8 := aq_v f8 ev_K_8
  refine bs1 e8 ?_
  refine if_t (by rw [v8] <;> decide) ?_
  obtain ⟨o9, e9, f9, I9⟩ := C_claim I8 4 0 0 (-1)
  have v9 := aq_v f9 ev_K_9
  refine bs1 e9 ?_
  refine if_t (by rw [v9] <;> decide) ?_
  obtain ⟨o10, e10, f10, I10⟩ := C_claim I9 5 1 1 0
  have v10 := aq_v f10 ev_K_10
  refine bs1 e10 ?_
  refine if_t (by rw [v10] <;> decide) ?_
  obtain ⟨o11, e11, f11, I11⟩ := C_claim I10 7 0 1 8
  have v11 := aq_v f11 ev_K_11
  refine bs1 e11 ?_
  refine if_t (by rw [v11] <;> decide) ?_
  obtain ⟨o12, e12, f12, I12⟩ := C_claim I11 8 1 0 3
  have v12 := aq_v f12 ev_K_12
  refine bs1 e12 ?_
  refine if_t (by rw [v12] <;> decide) ?_
  obtain ⟨o13, e13, f13, I13⟩ := C_claim I12 8 0 1 8
  have v13 := aq_v f13 ev_K_13
  refine bs1 e13 ?_
  refine if_t (by rw [v13] <;> decide) ?_
  obtain ⟨o14, e14, f14, I14⟩ := C_claim I13 9 0 1 2
  have v14 := aq_v f14 ev_K_14
  refine bs1 e14 ?_
  refine if_t (by rw [v14] <;> decide) ?_
  obtain ⟨o15, e15, f15, I15⟩ := C_claim I14 10 0 0 0
  have v15 := aq_v f15 ev_K_15
  refine bs1 e15 ?_
  refine if_t (by rw [v15] <;> decide) ?_
  obtain ⟨o16, e16, f16, I16⟩ := C_claim I15 1 3 0 0
  have v16 := aq_v f16 ev_K_16
  refine bs1 e16 ?_
  refine if_t (by rw [v16] <;> decide) ?_
  obtain ⟨o17, e17, f17, I17⟩ := C_claim I16 (-1) 0 0 0
  have v17 := aq_v f17 ev_K_17
  refine bs1 e17 ?_
  refine if_t (by rw [v17] <;> decide) ?_
  obtain ⟨o18, e18, f18, I18⟩ := C_claim I17 5 0 1 2
  have v18 := aq_v f18 ev_K_18
  refine bs1 e18 ?_
  rw [v18]
  obtain ⟨o19, e19, f19, I19⟩ := C_holds I18 699 275
  have v19 := aq_v f19 ev_K_19
  refine bs1 e19 ?_
  refine if_t (by rw [v19] <;> decide) ?_
  obtain ⟨o20, e20, f20, I20⟩ := C_claim I19 6 0 1 2
  have v20 := aq_v f20 ev_K_20
  refine bs1 e20 ?_
  rw [v20]
  obtain ⟨o21, e21, f21, I21⟩ := C_holds I20 834 275
  have v21 := aq_v f21 ev_K_21
  refine bs1 e21 ?_
  refine if_t (by rw [v21] <;> decide) ?_
  obtain ⟨o22, e22, f22, I22⟩ := C_claim I21 7 2 1 0
  have v22 := aq_v f22 ev_K_22
  refine bs1 e22 ?_
  rw [v22]
  obtain ⟨o23, e23, f23, I23⟩ := C_holds I22 1057 275
  have v23 := aq_v f23 ev_K_23
  refine bs1 e23 ?_
  refine if_t (by rw [v23] <;> decide) ?_
  obtain ⟨o24, e24, f24, I24⟩ := C_claim I23 7 2 1 1
  have v24 := aq_v f24 ev_K_24
  refine bs1 e24 ?_
  rw [v24]
  obtain ⟨o25, e25, f25, I25⟩ := C_holds I24 1058 275
  have v25 := aq_v f25 ev_K_25
  refine bs1 e25 ?_
  refine if_t (by rw [v25] <;> decide) ?_
  obtain ⟨o26, e26, f26, I26⟩ := C_claim I25 8 0 2 7
  have v26 := aq_v f26 ev_K_26
  refine bs1 e26 ?_
  rw [v26]
  obtain ⟨o27, e27, f27, I27⟩ := C_holds I26 1124 275
  have v27 := aq_v f27 ev_K_27
  refine bs1 e27 ?_
  refine if_t (by rw [v27] <;> decide) ?_
  obtain ⟨o28, e28, f28, I28⟩ := C_claim I27 9 0 2 1
  have v28 := aq_v f28 ev_K_28
  refine bs1 e28 ?_
  rw [v28]
  obtain ⟨o29, e29, f29, I29⟩ := C_holds I28 1253 275
  have v29 := aq_v f29 ev_K_29
  refine bs1 e29 ?_
  refine if_t (by rw [v29] <;> decide) ?_
  obtain ⟨o30, e30, f30, I30⟩ := C_claim I29 9 0 1 1
  have v30 := aq_v f30 ev_K_30
  refine bs1 e30 ?_
  rw [v30]
  obtain ⟨o31, e31, f31, I31⟩ := C_holds I30 1238 275
  have v31 := aq_v f31 ev_K_31
  refine bs1 e31 ?_
  refine if_t (by rw [v31] <;> decide) ?_
  obtain ⟨o32, e32, f32, I32⟩ := C_claim I31 3 2 0 3
  have v32 := aq_v f32 ev_K_32
  refine bs1 e32 ?_
  rw [v32]
  obtain ⟨o33, e33, f33, I33⟩ := C_holds I32 505 275
  have v33 := aq_v f33 ev_K_33
  refine bs1 e33 ?_
  refine if_t (by rw [v33] <;> decide) ?_
  obtain ⟨o34, e34, f34, I34⟩ := C_claim I33 4 2 0 4
  have v34 := aq_v f34 ev_K_34
  refine bs1 e34 ?_
  rw [v34]
  obtain ⟨o35, e35, f35, I35⟩ := C_holds I34 641 275
  have v35 := aq_v f35 ev_K_35
  refine bs1 e35 ?_
  refine if_t (by rw [v35] <;> decide) ?_
  obtain ⟨o36, e36, f36, I36⟩ := C_claim I35 2 1 0 2
  have v36 := aq_v f36 ev_K_36
  refine bs1 e36 ?_
  rw [v36]
  obtain ⟨o37, e37, f37, I37⟩ := C_holds I36 324 275
  have v37 := aq_v f37 ev_K_37
  refine bs1 e37 ?_
  refine if_t (by rw [v37] <;> decide) ?_
  obtain ⟨o38, e38, f38, I38⟩ := C_holds I37 690 56
  have v38 := aq_v f38 ev_K_38
  refine bs1 e38 ?_
  refine if_t (by rw [v38] <;> decide) ?_
  rfl
