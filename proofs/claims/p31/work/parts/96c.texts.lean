theorem fau_0 {c0 : CS} (e0 : newC = some c0) (I0 : IC 0 A0 c0) {v : Int32} (h : aq_fault A0.2.2.2 = some v) : fL_faultOf 0 0 = some v := by
  unfold fL_faultOf
  obtain ⟨o1, e1, v1, I1⟩ := puts_0 I0
  obtain ⟨o2, e2, v2, I2⟩ := puts_0 I1
  obtain ⟨o3, e3, f3, I3⟩ := C_fault I2
  rw [e0, bd_some, e1, bd_some, if_neg (by rw [v1]; decide), e2, bd_some, if_neg (by rw [v2]; decide), e3, bd_some, aq_v f3 h]
theorem fau_1 {c0 : CS} (e0 : newC = some c0) (I0 : IC 0 A0 c0) {w : Int64} {n : Nat} {pd : List Int32} {v : Int32} (hw : ¬ lg_cmp w 0 = 0) (ck : chkP (fX11_put (pad A0.2.2.2) (nI A0.2.2.2.length) w) (nI n) pd = true) (hn : ¬ nI n ≤ 0) (h : aq_fault pd = some v) : fL_faultOf w 0 = some v := by
  unfold fL_faultOf
  obtain ⟨o1, e1, v1, I1⟩ := puts_T I0 hw ck hn
  obtain ⟨o2, e2, v2, I2⟩ := puts_0 I1
  obtain ⟨o3, e3, f3, I3⟩ := C_fault I2
  rw [e0, bd_some, e1, bd_some, if_neg (by rw [v1]; decide), e2, bd_some, if_neg (by rw [v2]; decide), e3, bd_some, aq_v f3 h]
theorem tx_0 : fL_faultOf 0 0 = some 0 := by
  obtain ⟨c0, e0, I0⟩ := new_IC
  exact fau_0 e0 I0 (by decide +kernel)
theorem tx_1 : fL_faultOf 99 0 = some 1 := by
  obtain ⟨c0, e0, I0⟩ := new_IC
  exact fau_1 (pd := [99]) (n := 1) e0 I0 (by decide) (by decide +kernel) (by decide) (by decide +kernel)
theorem tx_2 : fL_faultOf 25386 0 = some (-6) := by
  obtain ⟨c0, e0, I0⟩ := new_IC
  exact fau_1 (pd := [99, 42]) (n := 2) e0 I0 (by decide) (by decide +kernel) (by decide) (by decide +kernel)
theorem tx_3 : fL_faultOf 25441 0 = some 2 := by
  obtain ⟨c0, e0, I0⟩ := new_IC
  exact fau_1 (pd := [99, 97]) (n := 2) e0 I0 (by decide) (by decide +kernel) (by decide) (by decide +kernel)
theorem tx_4 : fL_faultOf 6512957 0 = some 3 := by
  obtain ⟨c0, e0, I0⟩ := new_IC
  exact fau_1 (pd := [99, 97, 61]) (n := 3) e0 I0 (by decide) (by decide +kernel) (by decide) (by decide +kernel)
theorem tx_5 : fL_faultOf 1667317048 0 = some 3 := by
  obtain ⟨c0, e0, I0⟩ := new_IC
  exact fau_1 (pd := [99, 97, 61, 56]) (n := 4) e0 I0 (by decide) (by decide +kernel) (by decide) (by decide +kernel)
theorem tx_6 : fL_faultOf 1667317043 0 = some (-6) := by
  obtain ⟨c0, e0, I0⟩ := new_IC
  exact fau_1 (pd := [99, 97, 61, 51]) (n := 4) e0 I0 (by decide) (by decide +kernel) (by decide) (by decide +kernel)
theorem tx_7 : fL_faultOf 1667317090 0 = some (-6) := by
  obtain ⟨c0, e0, I0⟩ := new_IC
  exact fau_1 (pd := [99, 97, 61, 98]) (n := 4) e0 I0 (by decide) (by decide +kernel) (by decide) (by decide +kernel)
theorem tx_8 : fL_faultOf 426833175083 0 = some 5 := by
  obtain ⟨c0, e0, I0⟩ := new_IC
  exact fau_1 (pd := [99, 97, 61, 98, 43]) (n := 5) e0 I0 (by decide) (by decide +kernel) (by decide) (by decide +kernel)
theorem tx_9 : fL_faultOf 109269292821815 0 = some (-6) := by
  obtain ⟨c0, e0, I0⟩ := new_IC
  exact fau_1 (pd := [99, 97, 61, 98, 45, 55]) (n := 6) e0 I0 (by decide) (by decide +kernel) (by decide) (by decide +kernel)
theorem tx_10 : fL_faultOf 1667317346 0 = some 3 := by
  obtain ⟨c0, e0, I0⟩ := new_IC
  exact fau_1 (pd := [99, 97, 62, 98]) (n := 4) e0 I0 (by decide) (by decide +kernel) (by decide) (by decide +kernel)
theorem tx_11 : fL_faultOf 1667311155 0 = some 3 := by
  obtain ⟨c0, e0, I0⟩ := new_IC
  exact fau_1 (pd := [99, 97, 38, 51]) (n := 4) e0 I0 (by decide) (by decide +kernel) (by decide) (by decide +kernel)
theorem tx_12 : fL_faultOf 1667311202 0 = some 4 := by
  obtain ⟨c0, e0, I0⟩ := new_IC
  exact fau_1 (pd := [99, 97, 38, 98]) (n := 4) e0 I0 (by decide) (by decide +kernel) (by decide) (by decide +kernel)
theorem tx_13 : fL_faultOf 426831667763 0 = some (-6) := by
  obtain ⟨c0, e0, I0⟩ := new_IC
  exact fau_1 (pd := [99, 97, 38, 98, 51]) (n := 5) e0 I0 (by decide) (by decide +kernel) (by decide) (by decide +kernel)
theorem tx_14 : fL_faultOf 426831602489 0 = some 4 := by
  obtain ⟨c0, e0, I0⟩ := new_IC
  exact fau_1 (pd := [99, 97, 37, 99, 57]) (n := 5) e0 I0 (by decide) (by decide +kernel) (by decide) (by decide +kernel)
theorem tx_15 : fL_faultOf 1935752497 0 = some 4 := by
  obtain ⟨c0, e0, I0⟩ := new_IC
  exact fau_1 (pd := [115, 97, 61, 49]) (n := 4) e0 I0 (by decide) (by decide +kernel) (by decide) (by decide +kernel)
theorem tx_16 : fL_faultOf 1932147297 0 = some 4 := by
  obtain ⟨c0, e0, I0⟩ := new_IC
  exact fau_1 (pd := [115, 42, 58, 97]) (n := 4) e0 I0 (by decide) (by decide +kernel) (by decide) (by decide +kernel)
theorem tx_17 : fL_faultOf 126625205271857 0 = some (-6) := by
  obtain ⟨c0, e0, I0⟩ := new_IC
  exact fau_1 (pd := [115, 42, 58, 97, 61, 49]) (n := 6) e0 I0 (by decide) (by decide +kernel) (by decide) (by decide +kernel)
theorem tx_18 : fL_faultOf 126625205288545 0 = some (-6) := by
  obtain ⟨c0, e0, I0⟩ := new_IC
  exact fau_1 (pd := [115, 42, 58, 97, 126, 97]) (n := 6) e0 I0 (by decide) (by decide +kernel) (by decide) (by decide +kernel)
theorem tx_19 : fL_faultOf 8298509452699642680 0 = some 7 := by
  obtain ⟨c0, e0, I0⟩ := new_IC
  exact fau_1 (pd := [115, 42, 58, 97, 61, 98, 43, 56]) (n := 8) e0 I0 (by decide) (by decide +kernel) (by decide) (by decide +kernel)
theorem tx_20 : fL_faultOf 126625205264689 0 = some 4 := by
  obtain ⟨c0, e0, I0⟩ := new_IC
  exact fau_1 (pd := [115, 42, 58, 97, 33, 49]) (n := 6) e0 I0 (by decide) (by decide +kernel) (by decide) (by decide +kernel)
theorem tx_21 : fL_faultOf 29233 0 = some 2 := by
  obtain ⟨c0, e0, I0⟩ := new_IC
  exact fau_1 (pd := [114, 49]) (n := 2) e0 I0 (by decide) (by decide +kernel) (by decide) (by decide +kernel)
theorem tx_22 : fL_faultOf 490434800178 0 = some 2 := by
  obtain ⟨c0, e0, I0⟩ := new_IC
  exact fau_1 (pd := [114, 48, 49, 42, 50]) (n := 5) e0 I0 (by decide) (by decide +kernel) (by decide) (by decide +kernel)
theorem tx_23 : fL_faultOf 32142230381668914 0 = some 4 := by
  obtain ⟨c0, e0, I0⟩ := new_IC
  exact fau_1 (pd := [114, 49, 48, 48, 48, 42, 50]) (n := 7) e0 I0 (by decide) (by decide +kernel) (by decide) (by decide +kernel)
theorem tx_24 : fL_faultOf 8230672711680604473 0 = some (-6) := by
  obtain ⟨c0, e0, I0⟩ := new_IC
  exact fau_1 (pd := [114, 57, 57, 57, 42, 57, 57, 57]) (n := 8) e0 I0 (by decide) (by decide +kernel) (by decide) (by decide +kernel)
theorem tx_25 : fL_faultOf 27451 0 = some 2 := by
  obtain ⟨c0, e0, I0⟩ := new_IC
  exact fau_1 (pd := [107, 59]) (n := 2) e0 I0 (by decide) (by decide +kernel) (by decide) (by decide +kernel)
theorem tx_26 : fL_faultOf 27499 0 = some 1 := by
  obtain ⟨c0, e0, I0⟩ := new_IC
  exact fau_1 (pd := [107, 107]) (n := 2) e0 I0 (by decide) (by decide +kernel) (by decide) (by decide +kernel)
theorem tx_27 : fL_faultOf 7027576 0 = some 2 := by
  obtain ⟨c0, e0, I0⟩ := new_IC
  exact fau_1 (pd := [107, 59, 120]) (n := 3) e0 I0 (by decide) (by decide +kernel) (by decide) (by decide +kernel)
theorem tx_28 : fL_faultOf 109269276048235 0 = some (-6) := by
  obtain ⟨c0, e0, I0⟩ := new_IC
  exact fau_1 (pd := [99, 97, 60, 98, 59, 107]) (n := 6) e0 I0 (by decide) (by decide +kernel) (by decide) (by decide +kernel)
theorem tx_29 : fL_faultOf 6498859 0 = some 2 := by
  obtain ⟨c0, e0, I0⟩ := new_IC
  exact fau_1 (pd := [99, 42, 43]) (n := 3) e0 I0 (by decide) (by decide +kernel) (by decide) (by decide +kernel)
theorem texts_true : fL_texts = some 1 := by
  unfold fL_texts
  refine bs1 tx_0 ?_
  refine if_t rfl ?_
  refine bs1 tx_1 ?_
  refine if_t rfl ?_
  refine bs1 tx_2 ?_
  refine if_t rfl ?_
  refine bs1 tx_3 ?_
  refine if_t rfl ?_
  refine bs1 tx_4 ?_
  refine if_t rfl ?_
  refine bs1 tx_5 ?_
  refine if_t rfl ?_
  refine bs1 tx_6 ?_
  refine if_t rfl ?_
  refine bs1 tx_7 ?_
  refine if_t rfl ?_
  refine bs1 tx_8 ?_
  refine if_t rfl ?_
  refine bs1 tx_9 ?_
  refine if_t rfl ?_
  refine bs1 tx_10 ?_
  refine if_t rfl ?_
  refine bs1 tx_11 ?_
  refine if_t rfl ?_
  refine bs1 tx_12 ?_
  refine if_t rfl ?_
  refine bs1 tx_13 ?_
  refine if_t rfl ?_
  refine bs1 tx_14 ?_
  refine if_t rfl ?_
  refine bs1 tx_15 ?_
  refine if_t rfl ?_
  refine bs1 tx_16 ?_
  refine if_t rfl ?_
  refine bs1 tx_17 ?_
  refine if_t rfl ?_
  refine bs1 tx_18 ?_
  refine if_t rfl ?_
  refine bs1 tx_19 ?_
  refine if_t rfl ?_
  refine bs1 tx_20 ?_
  refine if_t rfl ?_
  refine bs1 tx_21 ?_
  refine if_t rfl ?_
  refine bs1 tx_22 ?_
  refine if_t rfl ?_
  refine bs1 tx_23 ?_
  refine if_t rfl ?_
  refine bs1 tx_24 ?_
  refine if_t rfl ?_
  refine bs1 tx_25 ?_
  refine if_t rfl ?_
  refine bs1 tx_26 ?_
  refine if_t rfl ?_
  refine bs1 tx_27 ?_
  refine if_t rfl ?_
  refine bs1 tx_28 ?_
  refine if_t rfl ?_
  refine bs1 tx_29 ?_
  refine if_t rfl ?_
  rfl
