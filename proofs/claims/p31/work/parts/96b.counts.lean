set_option maxRecDepth 100000 in
set_option maxHeartbeats 4000000 in
theorem counts_true : fL_counts = some 1 := by
  unfold fL_counts
  obtain ⟨c0, e0, I0⟩ := new_IC
  refine bs1 e0 ?_
  obtain ⟨o1, e1, v1, I1⟩ := C_undo_e I0 rfl
  refine bs1 e1 ?_
  refine if_t (by rw [v1] <;> decide) ?_
  obtain ⟨o2, e2, v2, I2⟩ := C_restore_e I1 (q := 0) (by decide) rfl
  refine bs1 e2 ?_
  refine if_t (by rw [v2] <;> decide) ?_
  obtain ⟨o3, e3, f3, I3⟩ := C_count I2 8
  have v3 := aq_v f3 ev_C_3
  refine bs1 e3 ?_
  refine if_t (by rw [v3] <;> decide) ?_
  obtain ⟨o4, e4, f4, I4⟩ := C_count I3 9
  have v4 := aq_v f4 ev_C_4
  refine bs1 e4 ?_
  refine if_t (by rw [v4] <;> decide) ?_
  obtain ⟨o5, e5, f5, I5⟩ := C_count I4 10
  have v5 := aq_v f5 ev_C_5
  refine bs1 e5 ?_
  refine if_t (by rw [v5] <;> decide) ?_
  obtain ⟨o6, e6, f6, I6⟩ := C_core I5 7
  have v6 := aq_v f6 ev_C_6
  refine bs1 e6 ?_
  refine if_t (by rw [v6] <;> decide) ?_
  obtain ⟨o7, t7, e7, f7, r7⟩ := C_step I6 7 1 0 0 1
  obtain ⟨v7, J7⟩ := ro_ok f7 ev_C_7 (by decide) r7
  have I7 : IC 0 AC1 o7.2 := J7
  refine bs1 e7 ?_
  refine if_t (by rw [v7] <;> decide) ?_
  obtain ⟨o8, e8, f8, I8⟩ := C_leads I7 0 0
  have v8 := aq_v f8 ev_C_8
  refine bs1 e8 ?_
  refine if_t (by rw [v8] <;> decide) ?_
  obtain ⟨o9, e9, f9, I9⟩ := C_leads I8 0 448
  have v9 := aq_v f9 ev_C_9
  refine bs1 e9 ?_
  refine if_t (by rw [v9] <;> decide) ?_
  obtain ⟨o10, e10, f10, I10⟩ := C_count I9 9
  have v10 := aq_v f10 ev_C_10
  refine bs1 e10 ?_
  refine if_t (by rw [v10] <;> decide) ?_
  obtain ⟨o11, e11, f11, I11⟩ := C_ofStep I10 0 4
  have v11 := aq_v f11 ev_C_11
  refine bs1 e11 ?_
  refine if_t (by rw [v11] <;> decide) ?_
  obtain ⟨o12, e12, f12, I12⟩ := C_ofStep I11 0 5
  have v12 := aq_v f12 ev_C_12
  refine bs1 e12 ?_
  refine if_t (by rw [v12] <;> decide) ?_
  obtain ⟨o13, t13, e13, f13, r13⟩ := C_candidate (by decide) I12 418
  obtain ⟨v13, J13⟩ := ro_ok f13 ev_C_13 (by decide) r13
  have I13 : IC 0 AC2 o13.2 := J13
  refine bs1 e13 ?_
  refine if_t (by rw [v13] <;> decide) ?_
  obtain ⟨o14, t14, e14, f14, r14⟩ := C_candidate (by decide) I13 232
  obtain ⟨v14, J14⟩ := ro_ok f14 ev_C_14 (by decide) r14
  have I14 : IC 0 AC3 o14.2 := J14
  refine bs1 e14 ?_
  refine if_t (by rw [v14] <;> decide) ?_
  obtain ⟨o15, t15, e15, f15, r15⟩ := C_candidate (by decide) I14 1237
  obtain ⟨v15, J15⟩ := ro_ok f15 ev_C_15 (by decide) r15
  have I15 : IC 0 AC4 o15.2 := J15
  refine bs1 e15 ?_
  refine if_t (by rw [v15] <;> decide) ?_
  obtain ⟨o16, t16, e16, f16, r16⟩ := C_candidate (by decide) I15 232
  obtain ⟨v16, I16⟩ := ro_no f16 ev_C_16 (by decide) r16
  refine bs1 e16 ?_
  refine if_t (by rw [v16] <;> decide) ?_
  obtain ⟨o17, e17, f17, I17⟩ := C_claim I16 1 0 0 3
  have v17 := aq_v f17 ev_C_17
  refine bs1 e17 ?_
  rw [v17]
  obtain ⟨o18, t18, e18, f18, r18⟩ := C_candidate (by decide) I17 145
  obtain ⟨v18, J18⟩ := ro_ok f18 ev_C_18 (by decide) r18
  have I18 : IC 0 AC5 o18.2 := J18
  refine bs1 e18 ?_
  refine if_t (by rw [v18] <;> decide) ?_
  obtain ⟨o19, e19, v19, I19⟩ := isC_T I18 ev_C_19_1 ev_C_19_2 ev_C_19_3 ev_C_19_4
  refine bs1 e19 ?_
  refine if_f (by rw [v19] <;> decide) ?_
  obtain ⟨o20, e20, f20, I20⟩ := C_count I19 2
  have v20 := aq_v f20 ev_C_20
  refine bs1 e20 ?_
  refine if_t (by rw [v20] <;> decide) ?_
  obtain ⟨o21, t21, e21, f21, r21⟩ := C_run (by decide) I20 0 3
  obtain ⟨v21, J21⟩ := ro_ok f21 ev_C_21 (by decide) r21
  have I21 : IC 1 AC6 o21.2 := J21
  refine bs1 e21 ?_
  refine if_t (by rw [v21] <;> decide) ?_
  obtain ⟨o22, e22, f22, I22⟩ := C_count I21 3
  have v22 := aq_v f22 ev_C_22
  refine bs1 e22 ?_
  refine if_t (by rw [v22] <;> decide) ?_
  obtain ⟨o23, e23, f23, I23⟩ := C_count I22 4
  have v23 := aq_v f23 ev_C_23
  refine bs1 e23 ?_
  refine if_t (by rw [v23] <;> decide) ?_
  obtain ⟨o24, e24, v24, I24⟩ := isC_T I23 ev_C_24_1 ev_C_24_2 ev_C_24_3 ev_C_24_4
  refine bs1 e24 ?_
  refine if_f (by rw [v24] <;> decide) ?_
  obtain ⟨o25, e25, v25, I25⟩ := isC_T I24 ev_C_25_1 ev_C_25_2 ev_C_25_3 ev_C_25_4
  refine bs1 e25 ?_
  refine if_f (by rw [v25] <;> decide) ?_
  obtain ⟨o26, t26, e26, f26, r26⟩ := C_run (by decide) I25 77 3
  obtain ⟨v26, J26⟩ := ro_ok f26 ev_C_26 (by decide) r26
  have I26 : IC 2 AC7 o26.2 := J26
  refine bs1 e26 ?_
  refine if_t (by rw [v26] <;> decide) ?_
  obtain ⟨o27, e27, f27, I27⟩ := C_count I26 4
  have v27 := aq_v f27 ev_C_27
  refine bs1 e27 ?_
  refine if_t (by rw [v27] <;> decide) ?_
  obtain ⟨o28, e28, f28, I28⟩ := C_count I27 10
  have v28 := aq_v f28 ev_C_28
  refine bs1 e28 ?_
  refine if_t (by rw [v28] <;> decide) ?_
  obtain ⟨o29, e29, f29, I29⟩ := C_proves I28 232
  have v29 := aq_v f29 ev_C_29
  refine bs1 e29 ?_
  refine if_t (by rw [v29] <;> decide) ?_
  obtain ⟨o30, e30, f30, I30⟩ := C_core I29 232
  have v30 := aq_v f30 ev_C_30
  refine bs1 e30 ?_
  refine if_t (by rw [v30] <;> decide) ?_
  obtain ⟨o31, e31, f31, I31⟩ := C_witness I30 232
  have v31 := aq_v f31 ev_C_31
  refine bs1 e31 ?_
  refine if_t (by rw [v31] <;> decide) ?_
  obtain ⟨o32, t32, al32, e32, f32, r32⟩ := C_strike I31
  obtain ⟨v32, J32⟩ := ro_ok f32 ev_C_32 (by decide) r32
  have I32 : IC 2 AC8 o32.2 := J32
  refine bs1 e32 ?_
  refine if_t (by rw [v32] <;> decide) ?_
  obtain ⟨o33, e33, v33, I33⟩ := isC_T I32 ev_C_33_1 ev_C_33_2 ev_C_33_3 ev_C_33_4
  refine bs1 e33 ?_
  refine if_f (by rw [v33] <;> decide) ?_
  obtain ⟨o34, e34, f34, I34⟩ := C_count I33 5
  have v34 := aq_v f34 ev_C_34
  refine bs1 e34 ?_
  refine if_t (by rw [v34] <;> decide) ?_
  obtain ⟨o35, t35, al35, e35, f35, r35⟩ := C_strike I34
  obtain ⟨v35, J35⟩ := ro_ok f35 ev_C_35 (by decide) r35
  have I35 : IC 2 AC9 o35.2 := J35
  refine bs1 e35 ?_
  refine if_t (by rw [v35] <;> decide) ?_
  obtain ⟨o36, e36, f36, I36⟩ := C_count I35 5
  have v36 := aq_v f36 ev_C_36
  refine bs1 e36 ?_
  refine if_t (by rw [v36] <;> decide) ?_
  obtain ⟨o37, t37, al37, e37, f37, r37⟩ := C_settle I36
  obtain ⟨v37, J37⟩ := ro_ok f37 ev_C_37 (by decide) r37
  have I37 : IC 2 AC10 o37.2 := J37
  refine bs1 e37 ?_
  refine if_t (by rw [v37] <;> decide) ?_
  obtain ⟨o38, e38, f38, I38⟩ := C_count I37 10
  have v38 := aq_v f38 ev_C_38
  refine bs1 e38 ?_
  refine if_t (by rw [v38] <;> decide) ?_
  obtain ⟨o39, e39, f39, I39⟩ := C_count I38 8
  have v39 := aq_v f39 ev_C_39
  refine bs1 e39 ?_
  refine if_t (by rw [v39] <;> decide) ?_
  obtain ⟨o40, e40, f40, I40⟩ := C_claim I39 1 1 0 0
  have v40 := aq_v f40 ev_C_40
  refine bs1 e40 ?_
  obtain ⟨o41, e41, f41, I41⟩ := C_proves I40 232
  have v41 := aq_v f41 ev_C_41
  refine bs1 e41 ?_
  refine if_t (by rw [v41] <;> decide) ?_
  obtain ⟨o42, e42, f42, I42⟩ := C_witness I41 418
  have v42 := aq_v f42 ev_C_42
  refine bs1 e42 ?_
  refine if_t (by rw [v42] <;> decide) ?_
  rw [v40]
  obtain ⟨o43, e43, f43, I43⟩ := C_isTrue I42 187
  have v43 := aq_v f43 ev_C_43
  refine bs1 e43 ?_
  refine if_t (by rw [v43] <;> decide) ?_
  obtain ⟨o44, e44, f44, I44⟩ := C_proves I43 187
  have v44 := aq_v f44 ev_C_44
  refine bs1 e44 ?_
  refine if_t (by rw [v44] <;> decide) ?_
  obtain ⟨o45, e45, f45, I45⟩ := C_witness I44 187
  have v45 := aq_v f45 ev_C_45
  refine bs1 e45 ?_
  refine if_t (by rw [v45] <;> decide) ?_
  obtain ⟨o46, e46, f46, I46⟩ := C_core I45 187
  have v46 := aq_v f46 ev_C_46
  refine bs1 e46 ?_
  refine if_t (by rw [v46] <;> decide) ?_
  obtain ⟨o47, e47, f47, I47⟩ := C_core I46 232
  have v47 := aq_v f47 ev_C_47
  refine bs1 e47 ?_
  refine if_t (by rw [v47] <;> decide) ?_
  obtain ⟨o48, e48, f48, I48⟩ := C_needless I47
  have v48 := aq_v f48 ev_C_48
  refine bs1 e48 ?_
  refine if_t (by rw [v48] <;> decide) ?_
  obtain ⟨o49, t49, e49, f49, r49⟩ := C_candidate (by decide) I48 7
  obtain ⟨v49, J49⟩ := ro_ok f49 ev_C_49 (by decide) r49
  have I49 : IC 2 AC11 o49.2 := J49
  refine bs1 e49 ?_
  refine if_t (by rw [v49] <;> decide) ?_
  obtain ⟨o50, e50, f50, I50⟩ := C_needless I49
  have v50 := aq_v f50 ev_C_50
  refine bs1 e50 ?_
  refine if_t (by rw [v50] <;> decide) ?_
  obtain ⟨o51, e51, f51, I51⟩ := C_core I50 232
  have v51 := aq_v f51 ev_C_51
  refine bs1 e51 ?_
  refine if_t (by rw [v51] <;> decide) ?_
  obtain ⟨o52, e52, f52, I52⟩ := C_ofStep I51 0 6
  have v52 := aq_v f52 ev_C_52
  refine bs1 e52 ?_
  refine if_t (by rw [v52] <;> decide) ?_
  obtain ⟨o53, e53, f53, I53⟩ := C_ofState I52 64
  have v53 := aq_v f53 ev_C_53
  refine bs1 e53 ?_
  refine if_t (by rw [v53] <;> decide) ?_
  obtain ⟨o54, e54, f54, I54⟩ := C_ofState I53 448
  have v54 := aq_v f54 ev_C_54
  refine bs1 e54 ?_
  refine if_t (by rw [v54] <;> decide) ?_
  obtain ⟨o55, e55, f55, I55⟩ := C_ofState I54 1
  have v55 := aq_v f55 ev_C_55
  refine bs1 e55 ?_
  refine if_t (by rw [v55] <;> decide) ?_
  obtain ⟨o56, t56, e56, f56, r56⟩ := C_guess (by decide) I55 5
  obtain ⟨v56, J56⟩ := ro_ok f56 ev_C_56 (by decide) r56
  have I56 : IC 2 AC12 o56.2 := J56
  refine bs1 e56 ?_
  refine if_t (by rw [v56] <;> decide) ?_
  obtain ⟨o57, e57, f57, I57⟩ := C_ofCandidate I56 5 0
  have v57 := aq_v f57 ev_C_57
  refine bs1 e57 ?_
  refine if_t (by rw [v57] <;> decide) ?_
  obtain ⟨o58, e58, f58, I58⟩ := C_ofCandidate I57 6 0
  have v58 := aq_v f58 ev_C_58
  refine bs1 e58 ?_
  refine if_t (by rw [v58] <;> decide) ?_
  obtain ⟨o59, t59, e59, f59, r59⟩ := C_guess (by decide) I58 5
  obtain ⟨v59, J59⟩ := ro_ok f59 ev_C_59 (by decide) r59
  have I59 : IC 2 AC13 o59.2 := J59
  refine bs1 e59 ?_
  refine if_t (by rw [v59] <;> decide) ?_
  obtain ⟨o60, e60, f60, I60⟩ := C_claim I59 2 0 0 2
  have v60 := aq_v f60 ev_C_60
  refine bs1 e60 ?_
  rw [v60]
  obtain ⟨o61, t61, e61, f61, r61⟩ := C_candidate (by decide) I60 279
  obtain ⟨v61, J61⟩ := ro_ok f61 ev_C_61 (by decide) r61
  have I61 : IC 2 AC14 o61.2 := J61
  refine bs1 e61 ?_
  refine if_t (by rw [v61] <;> decide) ?_
  obtain ⟨o62, e62, v62, I62⟩ := isC_T I61 ev_C_62_1 ev_C_62_2 ev_C_62_3 ev_C_62_4
  refine bs1 e62 ?_
  refine if_f (by rw [v62] <;> decide) ?_
  obtain ⟨c63, e63, I63⟩ := refused_T (by decide) I62
  refine bs1 e63 ?_
  have v63 : (1 : Int32) = 1 := rfl
  refine if_f (show ¬ (1 : Int32) = 0 by decide) ?_
  obtain ⟨o64, t64, e64, f64, r64⟩ := C_wrap I63 1
  obtain ⟨v64, J64⟩ := ro_ok f64 ev_C_64 (by decide) r64
  have I64 : IC 2 AC15 o64.2 := J64
  refine bs1 e64 ?_
  refine if_t (by rw [v64] <;> decide) ?_
  obtain ⟨o65, e65, f65, I65⟩ := C_leads I64 0 448
  have v65 := aq_v f65 ev_C_65
  refine bs1 e65 ?_
  refine if_t (by rw [v65] <;> decide) ?_
  obtain ⟨o66, e66, f66, I66⟩ := C_count I65 3
  have v66 := aq_v f66 ev_C_66
  refine bs1 e66 ?_
  refine if_t (by rw [v66] <;> decide) ?_
  obtain ⟨o67, e67, f67, I67⟩ := C_count I66 4
  have v67 := aq_v f67 ev_C_67
  refine bs1 e67 ?_
  refine if_t (by rw [v67] <;> decide) ?_
  obtain ⟨o68, e68, f68, I68⟩ := C_count I67 5
  have v68 := aq_v f68 ev_C_68
  refine bs1 e68 ?_
  refine if_t (by rw [v68] <;> decide) ?_
  obtain ⟨o69, e69, v69, I69⟩ := isC_T I68 ev_C_69_1 ev_C_69_2 ev_C_69_3 ev_C_69_4
  refine bs1 e69 ?_
  refine if_f (by rw [v69] <;> decide) ?_
  obtain ⟨o70, e70, v70, I70⟩ := isC_T I69 ev_C_70_1 ev_C_70_2 ev_C_70_3 ev_C_70_4
  refine bs1 e70 ?_
  refine if_f (by rw [v70] <;> decide) ?_
  obtain ⟨o71, t71, e71, f71, r71⟩ := C_drop I70 0
  obtain ⟨v71, J71⟩ := ro_ok f71 ev_C_71 (by decide) r71
  have I71 : IC 2 AC16 o71.2 := J71
  refine bs1 e71 ?_
  refine if_t (by rw [v71] <;> decide) ?_
  obtain ⟨o72, t72, e72, f72, r72⟩ := C_run (by decide) I71 5 9
  obtain ⟨v72, J72⟩ := ro_ok f72 ev_C_72 (by decide) r72
  have I72 : IC 3 AC17 o72.2 := J72
  refine bs1 e72 ?_
  refine if_t (by rw [v72] <;> decide) ?_
  obtain ⟨o73, e73, f73, I73⟩ := C_count I72 4
  have v73 := aq_v f73 ev_C_73
  refine bs1 e73 ?_
  refine if_t (by rw [v73] <;> decide) ?_
  obtain ⟨o74, t74, e74, f74, r74⟩ := C_start I73 3 0 0
  obtain ⟨v74, J74⟩ := ro_ok f74 ev_C_74 (by decide) r74
  have I74 : IC 3 AC18 o74.2 := J74
  refine bs1 e74 ?_
  refine if_f (by rw [v74] <;> decide) ?_
  obtain ⟨o75, e75, v75, I75⟩ := isC_T I74 ev_C_75_1 ev_C_75_2 ev_C_75_3 ev_C_75_4
  refine bs1 e75 ?_
  refine if_f (by rw [v75] <;> decide) ?_
  obtain ⟨o76, e76, v76, I76⟩ := isC_T I75 ev_C_76_1 ev_C_76_2 ev_C_76_3 ev_C_76_4
  refine bs1 e76 ?_
  refine if_f (by rw [v76] <;> decide) ?_
  obtain ⟨o77, t77, e77, f77, r77⟩ := C_step I76 7 2 0 1 0
  obtain ⟨v77, J77⟩ := ro_ok f77 ev_C_77 (by decide) r77
  have I77 : IC 3 AC19 o77.2 := J77
  refine bs1 e77 ?_
  refine if_t (by rw [v77] <;> decide) ?_
  obtain ⟨o78, e78, f78, I78⟩ := C_leads I77 0 192
  have v78 := aq_v f78 ev_C_78
  refine bs1 e78 ?_
  refine if_t (by rw [v78] <;> decide) ?_
  obtain ⟨o79, e79, f79, I79⟩ := C_leads I78 0 511
  have v79 := aq_v f79 ev_C_79
  refine bs1 e79 ?_
  refine if_t (by rw [v79] <;> decide) ?_
  obtain ⟨o80, e80, f80, I80⟩ := C_count I79 9
  have v80 := aq_v f80 ev_C_80
  refine bs1 e80 ?_
  refine if_t (by rw [v80] <;> decide) ?_
  obtain ⟨o81, e81, f81, J81⟩ := C_save I80 (q := 1) (by decide)
  have v81 := aq_v f81 ev_C_81
  have I81 : IC 3 AC20 o81.2 := J81
  refine bs1 e81 ?_
  obtain ⟨o82, e82, f82, I82⟩ := C_count I81 2
  have v82 := aq_v f82 ev_C_82
  refine bs1 e82 ?_
  refine if_t (by rw [v81, v82] <;> decide) ?_
  obtain ⟨c83, e83, I83⟩ := refused_T (by decide) I82
  refine bs1 e83 ?_
  have v83 : (1 : Int32) = 1 := rfl
  refine if_f (show ¬ (1 : Int32) = 0 by decide) ?_
  rfl
