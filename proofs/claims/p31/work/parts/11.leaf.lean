def rmX10_isState : Room := { frames := 0, cells := 0, slots := 0, locals := 0 }
def fX10_isState (p0 : Int32) : Option (Int32) :=
  if p0 < 0 then some (0 : Int32) else if (512 : Int32) ≤ p0 then some (0 : Int32) else some (1 : Int32)
set_option maxRecDepth 100000 in
set_option maxHeartbeats 4000000 in
theorem eX10_isState (x : GX) (C : GC x cX10_isState RX10 rmX10_isState) (N : xn x = 1) (p0 : Int32) (o : Int32) (E : GE x (some .boolean) 0 0 (fun zv zw => zv = some (.int o) ∧ zw = [])) (hf : fX10_isState p0 = some o)  : GW x 0 0 [] [(0, .int p0)] 0 [] := by
  unfold fX10_isState at hf
  refine g_iload_n C (pc := 0) 0 dX10_isState_0 rfl rfl ?_
  refine g_if_lt C (pc := 1) 15 dX10_isState_1 (by decide) (fun c_1 => ?_) (fun c_1 => ?_)
  · replace hf := (k_if hf).1 c_1
    refine g_iconst C (pc := 15) dX10_isState_15 ck_iconst_0 ?_
    cases hf
    exact g_zret C E rfl (pc := 16) dX10_isState_16 ⟨rfl, rfl⟩
  · replace hf := (k_if hf).2 c_1
    refine g_iload_n C (pc := 4) 0 dX10_isState_4 rfl rfl ?_
    refine g_sipush C (pc := 5) dX10_isState_5 ck_sipush_512 ?_
    refine g_icmp_ge C (pc := 8) 15 dX10_isState_8 (by decide) (fun c_8 => ?_) (fun c_8 => ?_)
    · replace hf := (k_if hf).1 c_8
      refine g_iconst C (pc := 15) dX10_isState_15 ck_iconst_0 ?_
      cases hf
      exact g_zret C E rfl (pc := 16) dX10_isState_16 ⟨rfl, rfl⟩
    · replace hf := (k_if hf).2 c_8
      refine g_iconst C (pc := 11) dX10_isState_11 ck_iconst_1 ?_
      refine g_goto C (pc := 12) (tgt := 16) dX10_isState_12 (by decide) ?_
      cases hf
      exact g_zret C E rfl (pc := 16) dX10_isState_16 ⟨rfl, rfl⟩
set_option maxRecDepth 100000 in
theorem cX10_isState_k (l : Launch) (D : va_G) (yy : Nat → ClassId) (p0 : Int32) (o : Int32) (hf : fX10_isState p0 = some o) : GMet l yX10_isState cX10_isState 1 (some .boolean) rmX10_isState 0 0 D yy [.int p0] [] (fun zv zw => zv = some (.int o) ∧ zw = []) :=
  g_met (by decide +kernel) (Nat.le_of_ble_eq_true rfl) (fun x hl hD hy hn C E _ => by subst hD; subst hy; exact eX10_isState x C hn p0 o E hf)
def rmX10_asNumber : Room := { frames := 0, cells := 0, slots := 0, locals := 0 }
def fX10_asNumber (p0 : Int32) : Option (Int32) :=
  if p0 = 0 then some (0 : Int32) else some (1 : Int32)
set_option maxRecDepth 100000 in
set_option maxHeartbeats 4000000 in
theorem eX10_asNumber (x : GX) (C : GC x cX10_asNumber RX10 rmX10_asNumber) (N : xn x = 1) (p0 : Int32) (o : Int32) (E : GE x (some .int) 0 0 (fun zv zw => zv = some (.int o) ∧ zw = [])) (hf : fX10_asNumber p0 = some o)  : GW x 0 0 [] [(0, .int p0)] 0 [] := by
  unfold fX10_asNumber at hf
  refine g_iload_n C (pc := 0) 0 dX10_asNumber_0 rfl rfl ?_
  refine g_if_eq C (pc := 1) 8 dX10_asNumber_1 (by decide) (fun c_1 => ?_) (fun c_1 => ?_)
  · replace hf := (k_if hf).1 c_1
    refine g_iconst C (pc := 8) dX10_asNumber_8 ck_iconst_0 ?_
    cases hf
    exact g_iret C E (pc := 9) dX10_asNumber_9 ⟨rfl, rfl⟩
  · replace hf := (k_if hf).2 c_1
    refine g_iconst C (pc := 4) dX10_asNumber_4 ck_iconst_1 ?_
    refine g_goto C (pc := 5) (tgt := 9) dX10_asNumber_5 (by decide) ?_
    cases hf
    exact g_iret C E (pc := 9) dX10_asNumber_9 ⟨rfl, rfl⟩
set_option maxRecDepth 100000 in
theorem cX10_asNumber_k (l : Launch) (D : va_G) (yy : Nat → ClassId) (p0 : Int32) (o : Int32) (hf : fX10_asNumber p0 = some o) : GMet l yX10_asNumber cX10_asNumber 1 (some .int) rmX10_asNumber 0 0 D yy [.int p0] [] (fun zv zw => zv = some (.int o) ∧ zw = []) :=
  g_met (by decide +kernel) (Nat.le_of_ble_eq_true rfl) (fun x hl hD hy hn C E _ => by subst hD; subst hy; exact eX10_asNumber x C hn p0 o E hf)
def rmX1_isDigit : Room := { frames := 0, cells := 0, slots := 0, locals := 0 }
def fX1_isDigit (p0 : Int32) : Option (Int32) :=
  if p0 < 0 then some (0 : Int32) else if (7 : Int32) < p0 then some (0 : Int32) else some (1 : Int32)
set_option maxRecDepth 100000 in
set_option maxHeartbeats 4000000 in
theorem eX1_isDigit (x : GX) (C : GC x cX1_isDigit RX1 rmX1_isDigit) (N : xn x = 1) (p0 : Int32) (o : Int32) (E : GE x (some .boolean) 0 0 (fun zv zw => zv = some (.int o) ∧ zw = [])) (hf : fX1_isDigit p0 = some o)  : GW x 0 0 [] [(0, .int p0)] 0 [] := by
  unfold fX1_isDigit at hf
  refine g_iload_n C (pc := 0) 0 dX1_isDigit_0 rfl rfl ?_
  refine g_if_lt C (pc := 1) 14 dX1_isDigit_1 (by decide) (fun c_1 => ?_) (fun c_1 => ?_)
  · replace hf := (k_if hf).1 c_1
    refine g_iconst C (pc := 14) dX1_isDigit_14 ck_iconst_0 ?_
    cases hf
    exact g_zret C E rfl (pc := 15) dX1_isDigit_15 ⟨rfl, rfl⟩
  · replace hf := (k_if hf).2 c_1
    refine g_iload_n C (pc := 4) 0 dX1_isDigit_4 rfl rfl ?_
    refine g_bipush C (pc := 5) dX1_isDigit_5 ck_bipush_7 ?_
    refine g_icmp_gt C (pc := 7) 14 dX1_isDigit_7 (by decide) (fun c_7 => ?_) (fun c_7 => ?_)
    · replace hf := (k_if hf).1 c_7
      refine g_iconst C (pc := 14) dX1_isDigit_14 ck_iconst_0 ?_
      cases hf
      exact g_zret C E rfl (pc := 15) dX1_isDigit_15 ⟨rfl, rfl⟩
    · replace hf := (k_if hf).2 c_7
      refine g_iconst C (pc := 10) dX1_isDigit_10 ck_iconst_1 ?_
      refine g_goto C (pc := 11) (tgt := 15) dX1_isDigit_11 (by decide) ?_
      cases hf
      exact g_zret C E rfl (pc := 15) dX1_isDigit_15 ⟨rfl, rfl⟩
set_option maxRecDepth 100000 in
theorem cX1_isDigit_k (l : Launch) (D : va_G) (yy : Nat → ClassId) (p0 : Int32) (o : Int32) (hf : fX1_isDigit p0 = some o) : GMet l yX1_isDigit cX1_isDigit 1 (some .boolean) rmX1_isDigit 0 0 D yy [.int p0] [] (fun zv zw => zv = some (.int o) ∧ zw = []) :=
  g_met (by decide +kernel) (Nat.le_of_ble_eq_true rfl) (fun x hl hD hy hn C E _ => by subst hD; subst hy; exact eX1_isDigit x C hn p0 o E hf)
def rmX1_isOffset : Room := { frames := 0, cells := 0, slots := 0, locals := 0 }
def fX1_isOffset (p0 : Int32) : Option (Int32) :=
  if p0 < (-7 : Int32) then some (0 : Int32) else if (7 : Int32) < p0 then some (0 : Int32) else some (1 : Int32)
set_option maxRecDepth 100000 in
set_option maxHeartbeats 4000000 in
theorem eX1_isOffset (x : GX) (C : GC x cX1_isOffset RX1 rmX1_isOffset) (N : xn x = 1) (p0 : Int32) (o : Int32) (E : GE x (some .boolean) 0 0 (fun zv zw => zv = some (.int o) ∧ zw = [])) (hf : fX1_isOffset p0 = some o)  : GW x 0 0 [] [(0, .int p0)] 0 [] := by
  unfold fX1_isOffset at hf
  refine g_iload_n C (pc := 0) 0 dX1_isOffset_0 rfl rfl ?_
  refine g_bipush C (pc := 1) dX1_isOffset_1 ck_bipush_m7 ?_
  refine g_icmp_lt C (pc := 3) 16 dX1_isOffset_3 (by decide) (fun c_3 => ?_) (fun c_3 => ?_)
  · replace hf := (k_if hf).1 c_3
    refine g_iconst C (pc := 16) dX1_isOffset_16 ck_iconst_0 ?_
    cases hf
    exact g_zret C E rfl (pc := 17) dX1_isOffset_17 ⟨rfl, rfl⟩
  · replace hf := (k_if hf).2 c_3
    refine g_iload_n C (pc := 6) 0 dX1_isOffset_6 rfl rfl ?_
    refine g_bipush C (pc := 7) dX1_isOffset_7 ck_bipush_7 ?_
    refine g_icmp_gt C (pc := 9) 16 dX1_isOffset_9 (by decide) (fun c_9 => ?_) (fun c_9 => ?_)
    · replace hf := (k_if hf).1 c_9
      refine g_iconst C (pc := 16) dX1_isOffset_16 ck_iconst_0 ?_
      cases hf
      exact g_zret C E rfl (pc := 17) dX1_isOffset_17 ⟨rfl, rfl⟩
    · replace hf := (k_if hf).2 c_9
      refine g_iconst C (pc := 12) dX1_isOffset_12 ck_iconst_1 ?_
      refine g_goto C (pc := 13) (tgt := 17) dX1_isOffset_13 (by decide) ?_
      cases hf
      exact g_zret C E rfl (pc := 17) dX1_isOffset_17 ⟨rfl, rfl⟩
set_option maxRecDepth 100000 in
theorem cX1_isOffset_k (l : Launch) (D : va_G) (yy : Nat → ClassId) (p0 : Int32) (o : Int32) (hf : fX1_isOffset p0 = some o) : GMet l yX1_isOffset cX1_isOffset 1 (some .boolean) rmX1_isOffset 0 0 D yy [.int p0] [] (fun zv zw => zv = some (.int o) ∧ zw = []) :=
  g_met (by decide +kernel) (Nat.le_of_ble_eq_true rfl) (fun x hl hD hy hn C E _ => by subst hD; subst hy; exact eX1_isOffset x C hn p0 o E hf)
def rmX1_numberOf : Room := { frames := 0, cells := 0, slots := 0, locals := 0 }
def fX1_numberOf (p0 : Int32) (p1 : Int32) : Option (Int32) :=
  some ((p0 >>> (((6 : Int32) - ((3 : Int32) * p1)) &&& 31)) &&& (7 : Int32))
set_option maxRecDepth 100000 in
set_option maxHeartbeats 4000000 in
theorem eX1_numberOf (x : GX) (C : GC x cX1_numberOf RX1 rmX1_numberOf) (N : xn x = 2) (p0 : Int32) (p1 : Int32) (o : Int32) (E : GE x (some .int) 0 0 (fun zv zw => zv = some (.int o) ∧ zw = [])) (hf : fX1_numberOf p0 p1 = some o)  : GW x 0 0 [] [(0, .int p0), (1, .int p1)] 0 [] := by
  unfold fX1_numberOf at hf
  refine g_iload_n C (pc := 0) 0 dX1_numberOf_0 rfl rfl ?_
  refine g_bipush C (pc := 1) dX1_numberOf_1 ck_bipush_6 ?_
  refine g_iconst C (pc := 3) dX1_numberOf_3 ck_iconst_3 ?_
  refine g_iload_n C (pc := 4) 1 dX1_numberOf_4 rfl rfl ?_
  refine g_imul C (pc := 5) dX1_numberOf_5 ?_
  refine g_isub C (pc := 6) dX1_numberOf_6 ?_
  refine g_ishr C (pc := 7) dX1_numberOf_7 ?_
  refine g_bipush C (pc := 8) dX1_numberOf_8 ck_bipush_7 ?_
  refine g_iand C (pc := 10) dX1_numberOf_10 ?_
  cases hf
  exact g_iret C E (pc := 11) dX1_numberOf_11 ⟨rfl, rfl⟩
set_option maxRecDepth 100000 in
theorem cX1_numberOf_k (l : Launch) (D : va_G) (yy : Nat → ClassId) (p0 : Int32) (p1 : Int32) (o : Int32) (hf : fX1_numberOf p0 p1 = some o) : GMet l yX1_numberOf cX1_numberOf 2 (some .int) rmX1_numberOf 0 0 D yy [.int p0, .int p1] [] (fun zv zw => zv = some (.int o) ∧ zw = []) :=
  g_met (by decide +kernel) (Nat.le_of_ble_eq_true rfl) (fun x hl hD hy hn C E _ => by subst hD; subst hy; exact eX1_numberOf x C hn p0 p1 o E hf)
def rmX1_isMetBy : Room := { frames := 1, cells := 0, slots := 0, locals := 21 }
def fX1_isMetBy (p0 : Int32) (p1 : Int32) : Option (Int32) :=
  bd (fX1_numberOf p1 (((p0 / (15 : Int32)) - (p0 / (15 : Int32)) / (9 : Int32) * (9 : Int32)) / (3 : Int32))) fun y_20 : Int32 => bd (fX1_numberOf p1 ((p0 / (15 : Int32)) - (p0 / (15 : Int32)) / (3 : Int32) * (3 : Int32))) fun y_29 : Int32 => if (p0 / (15 : Int32)) / (9 : Int32) = 1 then if y_20 = ((p0 - p0 / (15 : Int32) * (15 : Int32)) - (7 : Int32)) then some (1 : Int32) else some (0 : Int32) else if (p0 / (15 : Int32)) / (9 : Int32) = 2 then if y_20 = ((p0 - p0 / (15 : Int32) * (15 : Int32)) - (7 : Int32)) then some (0 : Int32) else some (1 : Int32) else if (p0 / (15 : Int32)) / (9 : Int32) = 3 then if ((p0 - p0 / (15 : Int32) * (15 : Int32)) - (7 : Int32)) < y_20 then some (0 : Int32) else some (1 : Int32) else if (p0 / (15 : Int32)) / (9 : Int32) = 4 then if y_20 < ((p0 - p0 / (15 : Int32) * (15 : Int32)) - (7 : Int32)) then some (0 : Int32) else some (1 : Int32) else if (p0 / (15 : Int32)) / (9 : Int32) = 5 then if y_20 = (y_29 + ((p0 - p0 / (15 : Int32) * (15 : Int32)) - (7 : Int32))) then some (1 : Int32) else some (0 : Int32) else if (p0 / (15 : Int32)) / (9 : Int32) = 6 then if y_20 = (y_29 + ((p0 - p0 / (15 : Int32) * (15 : Int32)) - (7 : Int32))) then some (0 : Int32) else some (1 : Int32) else if (p0 / (15 : Int32)) / (9 : Int32) = 7 then if (y_29 + ((p0 - p0 / (15 : Int32) * (15 : Int32)) - (7 : Int32))) < y_20 then some (0 : Int32) else some (1 : Int32) else if (p0 / (15 : Int32)) / (9 : Int32) = 8 then if (y_20 + y_29) = ((p0 - p0 / (15 : Int32) * (15 : Int32)) - (7 : Int32)) then some (1 : Int32) else some (0 : Int32) else if (p0 / (15 : Int32)) / (9 : Int32) = 9 then if (((y_20 + y_29) + ((p0 - p0 / (15 : Int32) * (15 : Int32)) - (7 : Int32))) &&& (1 : Int32)) = 0 then some (1 : Int32) else some (0 : Int32) else some (1 : Int32)
set_option maxRecDepth 100000 in
set_option maxHeartbeats 4000000 in
theorem eX1_isMetBy (x : GX) (C : GC x cX1_isMetBy RX1 rmX1_isMetBy) (N : xn x = 6) (p0 : Int32) (p1 : Int32) (o : Int32) (E : GE x (some .boolean) 0 0 (fun zv zw => zv = some (.int o) ∧ zw = [])) (hf : fX1_isMetBy p0 p1 = some o)  : GW x 0 0 [] [(0, .int p0), (1, .int p1)] 0 [] := by
  unfold fX1_isMetBy at hf
  refine g_iload_n C (pc := 0) 0 dX1_isMetBy_0 rfl rfl ?_
  refine g_bipush C (pc := 1) dX1_isMetBy_1 ck_bipush_15 ?_
  refine g_idiv C (pc := 3) dX1_isMetBy_3 (by decide) ?_
  refine g_istore_n C (pc := 4) (lo' := [(2, .int (p0 / (15 : Int32))), (0, .int p0), (1, .int p1)]) dX1_isMetBy_4 rfl N rfl rfl ?_
  refine g_iload_n C (pc := 5) 1 dX1_isMetBy_5 rfl rfl ?_
  refine g_bipush C (pc := 6) dX1_isMetBy_6 ck_bipush_15 ?_
  refine g_irem C (pc := 8) dX1_isMetBy_8 (by decide) ?_
  refine g_bipush C (pc := 9) dX1_isMetBy_9 ck_bipush_7 ?_
  refine g_isub C (pc := 11) dX1_isMetBy_11 ?_
  refine g_istore_n C (pc := 12) (lo' := [(3, .int ((p0 - p0 / (15 : Int32) * (15 : Int32)) - (7 : Int32))), (2, .int (p0 / (15 : Int32))), (0, .int p0), (1, .int p1)]) dX1_isMetBy_12 rfl N rfl rfl ?_
  refine g_iload_n C (pc := 13) 3 dX1_isMetBy_13 rfl rfl ?_
  refine g_iload_n C (pc := 14) 1 dX1_isMetBy_14 rfl rfl ?_
  refine g_bipush C (pc := 15) dX1_isMetBy_15 ck_bipush_9 ?_
  refine g_irem C (pc := 17) dX1_isMetBy_17 (by decide) ?_
  refine g_iconst C (pc := 18) dX1_isMetBy_18 ck_iconst_3 ?_
  refine g_idiv C (pc := 19) dX1_isMetBy_19 (by decide) ?_
  obtain ⟨y_20, h_20, hf⟩ := k_bd hf
  refine g_callS0 C (pc := 20) (As := [.int p1, .int (((p0 / (15 : Int32)) - (p0 / (15 : Int32)) / (9 : Int32) * (9 : Int32)) / (3 : Int32))]) (rest := []) (v1 := (some (.int y_20))) (st' := [.int y_20]) lkX1_numberOf lSX1_22 (cX1_numberOf_k (xl x) (xD x) (xy x) p1 (((p0 / (15 : Int32)) - (p0 / (15 : Int32)) / (9 : Int32) * (9 : Int32)) / (3 : Int32)) y_20 h_20) rfl ⟨⟨Nat.le_of_ble_eq_true rfl, Nat.le_of_ble_eq_true rfl⟩, ⟨rfl, rfl⟩, ⟨Nat.le_of_ble_eq_true rfl, Nat.le_of_ble_eq_true rfl⟩⟩ rfl (Nat.le_of_ble_eq_true rfl) rfl dX1_isMetBy_20 ?_
  refine g_istore C (pc := 23) (lo' := [(4, .int y_20), (3, .int ((p0 - p0 / (15 : Int32) * (15 : Int32)) - (7 : Int32))), (2, .int (p0 / (15 : Int32))), (0, .int p0), (1, .int p1)]) dX1_isMetBy_23 N rfl rfl ?_
  refine g_iload_n C (pc := 25) 4 dX1_isMetBy_25 rfl rfl ?_
  refine g_iload_n C (pc := 26) 2 dX1_isMetBy_26 rfl rfl ?_
  refine g_iconst C (pc := 27) dX1_isMetBy_27 ck_iconst_3 ?_
  refine g_irem C (pc := 28) dX1_isMetBy_28 (by decide) ?_
  obtain ⟨y_29, h_29, hf⟩ := k_bd hf
  refine g_callS0 C (pc := 29) (As := [.int p1, .int ((p0 / (15 : Int32)) - (p0 / (15 : Int32)) / (3 : Int32) * (3 : Int32))]) (rest := []) (v1 := (some (.int y_29))) (st' := [.int y_29]) lkX1_numberOf lSX1_22 (cX1_numberOf_k (xl x) (xD x) (xy x) p1 ((p0 / (15 : Int32)) - (p0 / (15 : Int32)) / (3 : Int32) * (3 : Int32)) y_29 h_29) rfl ⟨⟨Nat.le_of_ble_eq_true rfl, Nat.le_of_ble_eq_true rfl⟩, ⟨rfl, rfl⟩, ⟨Nat.le_of_ble_eq_true rfl, Nat.le_of_ble_eq_true rfl⟩⟩ rfl (Nat.le_of_ble_eq_true rfl) rfl dX1_isMetBy_29 ?_
  refine g_istore C (pc := 32) (lo' := [(5, .int y_29), (4, .int y_20), (3, .int ((p0 - p0 / (15 : Int32) * (15 : Int32)) - (7 : Int32))), (2, .int (p0 / (15 : Int32))), (0, .int p0), (1, .int p1)]) dX1_isMetBy_32 N rfl rfl ?_
  refine g_iload_n C (pc := 34) 3 dX1_isMetBy_34 rfl rfl ?_
  refine g_bipush C (pc := 35) dX1_isMetBy_35 ck_bipush_9 ?_
  refine g_idiv C (pc := 37) dX1_isMetBy_37 (by decide) ?_
  by_cases s_38_0 : (p0 / (15 : Int32)) / (9 : Int32) = 1
  · replace hf := (k_if hf).1 s_38_0
    refine g_tsw C (pc := 38) (off := 50) 88 dX1_isMetBy_38 (by rw [s_38_0]; decide +kernel) (by rw [s_38_0]; decide +kernel) (by rw [s_38_0] <;> rfl) (by decide) ?_
    refine g_iload C (pc := 88) 1 dX1_isMetBy_88 rfl ?_
    refine g_iload_n C (pc := 90) 2 dX1_isMetBy_90 rfl rfl ?_
    refine g_icmp_ne C (pc := 91) 98 dX1_isMetBy_91 (by decide) (fun c_91 => ?_) (fun c_91 => ?_)
    · replace hf := (k_if hf).2 c_91
      refine g_iconst C (pc := 98) dX1_isMetBy_98 ck_iconst_0 ?_
      cases hf
      exact g_zret C E rfl (pc := 99) dX1_isMetBy_99 ⟨rfl, rfl⟩
    · replace hf := (k_if hf).1 c_91
      refine g_iconst C (pc := 94) dX1_isMetBy_94 ck_iconst_1 ?_
      refine g_goto C (pc := 95) (tgt := 99) dX1_isMetBy_95 (by decide) ?_
      cases hf
      exact g_zret C E rfl (pc := 99) dX1_isMetBy_99 ⟨rfl, rfl⟩
  replace hf := (k_if hf).2 s_38_0
  by_cases s_38_1 : (p0 / (15 : Int32)) / (9 : Int32) = 2
  · replace hf := (k_if hf).1 s_38_1
    refine g_tsw C (pc := 38) (off := 62) 100 dX1_isMetBy_38 (by rw [s_38_1]; decide +kernel) (by rw [s_38_1]; decide +kernel) (by rw [s_38_1] <;> rfl) (by decide) ?_
    refine g_iload C (pc := 100) 1 dX1_isMetBy_100 rfl ?_
    refine g_iload_n C (pc := 102) 2 dX1_isMetBy_102 rfl rfl ?_
    refine g_icmp_eq C (pc := 103) 110 dX1_isMetBy_103 (by decide) (fun c_103 => ?_) (fun c_103 => ?_)
    · replace hf := (k_if hf).1 c_103
      refine g_iconst C (pc := 110) dX1_isMetBy_110 ck_iconst_0 ?_
      cases hf
      exact g_zret C E rfl (pc := 111) dX1_isMetBy_111 ⟨rfl, rfl⟩
    · replace hf := (k_if hf).2 c_103
      refine g_iconst C (pc := 106) dX1_isMetBy_106 ck_iconst_1 ?_
      refine g_goto C (pc := 107) (tgt := 111) dX1_isMetBy_107 (by decide) ?_
      cases hf
      exact g_zret C E rfl (pc := 111) dX1_isMetBy_111 ⟨rfl, rfl⟩
  replace hf := (k_if hf).2 s_38_1
  by_cases s_38_2 : (p0 / (15 : Int32)) / (9 : Int32) = 3
  · replace hf := (k_if hf).1 s_38_2
    refine g_tsw C (pc := 38) (off := 74) 112 dX1_isMetBy_38 (by rw [s_38_2]; decide +kernel) (by rw [s_38_2]; decide +kernel) (by rw [s_38_2] <;> rfl) (by decide) ?_
    refine g_iload C (pc := 112) 1 dX1_isMetBy_112 rfl ?_
    refine g_iload_n C (pc := 114) 2 dX1_isMetBy_114 rfl rfl ?_
    refine g_icmp_gt C (pc := 115) 122 dX1_isMetBy_115 (by decide) (fun c_115 => ?_) (fun c_115 => ?_)
    · replace hf := (k_if hf).1 c_115
      refine g_iconst C (pc := 122) dX1_isMetBy_122 ck_iconst_0 ?_
      cases hf
      exact g_zret C E rfl (pc := 123) dX1_isMetBy_123 ⟨rfl, rfl⟩
    · replace hf := (k_if hf).2 c_115
      refine g_iconst C (pc := 118) dX1_isMetBy_118 ck_iconst_1 ?_
      refine g_goto C (pc := 119) (tgt := 123) dX1_isMetBy_119 (by decide) ?_
      cases hf
      exact g_zret C E rfl (pc := 123) dX1_isMetBy_123 ⟨rfl, rfl⟩
  replace hf := (k_if hf).2 s_38_2
  by_cases s_38_3 : (p0 / (15 : Int32)) / (9 : Int32) = 4
  · replace hf := (k_if hf).1 s_38_3
    refine g_tsw C (pc := 38) (off := 86) 124 dX1_isMetBy_38 (by rw [s_38_3]; decide +kernel) (by rw [s_38_3]; decide +kernel) (by rw [s_38_3] <;> rfl) (by decide) ?_
    refine g_iload C (pc := 124) 1 dX1_isMetBy_124 rfl ?_
    refine g_iload_n C (pc := 126) 2 dX1_isMetBy_126 rfl rfl ?_
    refine g_icmp_lt C (pc := 127) 134 dX1_isMetBy_127 (by decide) (fun c_127 => ?_) (fun c_127 => ?_)
    · replace hf := (k_if hf).1 c_127
      refine g_iconst C (pc := 134) dX1_isMetBy_134 ck_iconst_0 ?_
      cases hf
      exact g_zret C E rfl (pc := 135) dX1_isMetBy_135 ⟨rfl, rfl⟩
    · replace hf := (k_if hf).2 c_127
      refine g_iconst C (pc := 130) dX1_isMetBy_130 ck_iconst_1 ?_
      refine g_goto C (pc := 131) (tgt := 135) dX1_isMetBy_131 (by decide) ?_
      cases hf
      exact g_zret C E rfl (pc := 135) dX1_isMetBy_135 ⟨rfl, rfl⟩
  replace hf := (k_if hf).2 s_38_3
  by_cases s_38_4 : (p0 / (15 : Int32)) / (9 : Int32) = 5
  · replace hf := (k_if hf).1 s_38_4
    refine g_tsw C (pc := 38) (off := 98) 136 dX1_isMetBy_38 (by rw [s_38_4]; decide +kernel) (by rw [s_38_4]; decide +kernel) (by rw [s_38_4] <;> rfl) (by decide) ?_
    refine g_iload C (pc := 136) 1 dX1_isMetBy_136 rfl ?_
    refine g_iload C (pc := 138) 0 dX1_isMetBy_138 rfl ?_
    refine g_iload_n C (pc := 140) 2 dX1_isMetBy_140 rfl rfl ?_
    refine g_iadd C (pc := 141) dX1_isMetBy_141 ?_
    refine g_icmp_ne C (pc := 142) 149 dX1_isMetBy_142 (by decide) (fun c_142 => ?_) (fun c_142 => ?_)
    · replace hf := (k_if hf).2 c_142
      refine g_iconst C (pc := 149) dX1_isMetBy_149 ck_iconst_0 ?_
      cases hf
      exact g_zret C E rfl (pc := 150) dX1_isMetBy_150 ⟨rfl, rfl⟩
    · replace hf := (k_if hf).1 c_142
      refine g_iconst C (pc := 145) dX1_isMetBy_145 ck_iconst_1 ?_
      refine g_goto C (pc := 146) (tgt := 150) dX1_isMetBy_146 (by decide) ?_
      cases hf
      exact g_zret C E rfl (pc := 150) dX1_isMetBy_150 ⟨rfl, rfl⟩
  replace hf := (k_if hf).2 s_38_4
  by_cases s_38_5 : (p0 / (15 : Int32)) / (9 : Int32) = 6
  · replace hf := (k_if hf).1 s_38_5
    refine g_tsw C (pc := 38) (off := 113) 151 dX1_isMetBy_38 (by rw [s_38_5]; decide +kernel) (by rw [s_38_5]; decide +kernel) (by rw [s_38_5] <;> rfl) (by decide) ?_
    refine g_iload C (pc := 151) 1 dX1_isMetBy_151 rfl ?_
    refine g_iload C (pc := 153) 0 dX1_isMetBy_153 rfl ?_
    refine g_iload_n C (pc := 155) 2 dX1_isMetBy_155 rfl rfl ?_
    refine g_iadd C (pc := 156) dX1_isMetBy_156 ?_
    refine g_icmp_eq C (pc := 157) 164 dX1_isMetBy_157 (by decide) (fun c_157 => ?_) (fun c_157 => ?_)
    · replace hf := (k_if hf).1 c_157
      refine g_iconst C (pc := 164) dX1_isMetBy_164 ck_iconst_0 ?_
      cases hf
      exact g_zret C E rfl (pc := 165) dX1_isMetBy_165 ⟨rfl, rfl⟩
    · replace hf := (k_if hf).2 c_157
      refine g_iconst C (pc := 160) dX1_isMetBy_160 ck_iconst_1 ?_
      refine g_goto C (pc := 161) (tgt := 165) dX1_isMetBy_161 (by decide) ?_
      cases hf
      exact g_zret C E rfl (pc := 165) dX1_isMetBy_165 ⟨rfl, rfl⟩
  replace hf := (k_if hf).2 s_38_5
  by_cases s_38_6 : (p0 / (15 : Int32)) / (9 : Int32) = 7
  · replace hf := (k_if hf).1 s_38_6
    refine g_tsw C (pc := 38) (off := 128) 166 dX1_isMetBy_38 (by rw [s_38_6]; decide +kernel) (by rw [s_38_6]; decide +kernel) (by rw [s_38_6] <;> rfl) (by decide) ?_
    refine g_iload C (pc := 166) 1 dX1_isMetBy_166 rfl ?_
    refine g_iload C (pc := 168) 0 dX1_isMetBy_168 rfl ?_
    refine g_iload_n C (pc := 170) 2 dX1_isMetBy_170 rfl rfl ?_
    refine g_iadd C (pc := 171) dX1_isMetBy_171 ?_
    refine g_icmp_gt C (pc := 172) 179 dX1_isMetBy_172 (by decide) (fun c_172 => ?_) (fun c_172 => ?_)
    · replace hf := (k_if hf).1 c_172
      refine g_iconst C (pc := 179) dX1_isMetBy_179 ck_iconst_0 ?_
      cases hf
      exact g_zret C E rfl (pc := 180) dX1_isMetBy_180 ⟨rfl, rfl⟩
    · replace hf := (k_if hf).2 c_172
      refine g_iconst C (pc := 175) dX1_isMetBy_175 ck_iconst_1 ?_
      refine g_goto C (pc := 176) (tgt := 180) dX1_isMetBy_176 (by decide) ?_
      cases hf
      exact g_zret C E rfl (pc := 180) dX1_isMetBy_180 ⟨rfl, rfl⟩
  replace hf := (k_if hf).2 s_38_6
  by_cases s_38_7 : (p0 / (15 : Int32)) / (9 : Int32) = 8
  · replace hf := (k_if hf).1 s_38_7
    refine g_tsw C (pc := 38) (off := 143) 181 dX1_isMetBy_38 (by rw [s_38_7]; decide +kernel) (by rw [s_38_7]; decide +kernel) (by rw [s_38_7] <;> rfl) (by decide) ?_
    refine g_iload C (pc := 181) 1 dX1_isMetBy_181 rfl ?_
    refine g_iload C (pc := 183) 0 dX1_isMetBy_183 rfl ?_
    refine g_iadd C (pc := 185) dX1_isMetBy_185 ?_
    refine g_iload_n C (pc := 186) 2 dX1_isMetBy_186 rfl rfl ?_
    refine g_icmp_ne C (pc := 187) 194 dX1_isMetBy_187 (by decide) (fun c_187 => ?_) (fun c_187 => ?_)
    · replace hf := (k_if hf).2 c_187
      refine g_iconst C (pc := 194) dX1_isMetBy_194 ck_iconst_0 ?_
      cases hf
      exact g_zret C E rfl (pc := 195) dX1_isMetBy_195 ⟨rfl, rfl⟩
    · replace hf := (k_if hf).1 c_187
      refine g_iconst C (pc := 190) dX1_isMetBy_190 ck_iconst_1 ?_
      refine g_goto C (pc := 191) (tgt := 195) dX1_isMetBy_191 (by decide) ?_
      cases hf
      exact g_zret C E rfl (pc := 195) dX1_isMetBy_195 ⟨rfl, rfl⟩
  replace hf := (k_if hf).2 s_38_7
  by_cases s_38_8 : (p0 / (15 : Int32)) / (9 : Int32) = 9
  · replace hf := (k_if hf).1 s_38_8
    refine g_tsw C (pc := 38) (off := 158) 196 dX1_isMetBy_38 (by rw [s_38_8]; decide +kernel) (by rw [s_38_8]; decide +kernel) (by rw [s_38_8] <;> rfl) (by decide) ?_
    refine g_iload C (pc := 196) 1 dX1_isMetBy_196 rfl ?_
    refine g_iload C (pc := 198) 0 dX1_isMetBy_198 rfl ?_
    refine g_iadd C (pc := 200) dX1_isMetBy_200 ?_
    refine g_iload_n C (pc := 201) 2 dX1_isMetBy_201 rfl rfl ?_
    refine g_iadd C (pc := 202) dX1_isMetBy_202 ?_
    refine g_iconst C (pc := 203) dX1_isMetBy_203 ck_iconst_1 ?_
    refine g_iand C (pc := 204) dX1_isMetBy_204 ?_
    refine g_if_ne C (pc := 205) 212 dX1_isMetBy_205 (by decide) (fun c_205 => ?_) (fun c_205 => ?_)
    · replace hf := (k_if hf).2 c_205
      refine g_iconst C (pc := 212) dX1_isMetBy_212 ck_iconst_0 ?_
      cases hf
      exact g_zret C E rfl (pc := 213) dX1_isMetBy_213 ⟨rfl, rfl⟩
    · replace hf := (k_if hf).1 c_205
      refine g_iconst C (pc := 208) dX1_isMetBy_208 ck_iconst_1 ?_
      refine g_goto C (pc := 209) (tgt := 213) dX1_isMetBy_209 (by decide) ?_
      cases hf
      exact g_zret C E rfl (pc := 213) dX1_isMetBy_213 ⟨rfl, rfl⟩
  replace hf := (k_if hf).2 s_38_8
  refine g_tswD C (pc := 38) 214 dX1_isMetBy_38 (tsw_out [1, 2, 3, 4, 5, 6, 7, 8, 9] (by decide +kernel) (by decide) (List.forall_mem_cons.mpr ⟨s_38_0, List.forall_mem_cons.mpr ⟨s_38_1, List.forall_mem_cons.mpr ⟨s_38_2, List.forall_mem_cons.mpr ⟨s_38_3, List.forall_mem_cons.mpr ⟨s_38_4, List.forall_mem_cons.mpr ⟨s_38_5, List.forall_mem_cons.mpr ⟨s_38_6, List.forall_mem_cons.mpr ⟨s_38_7, List.forall_mem_cons.mpr ⟨s_38_8, fun _ h => absurd h List.not_mem_nil⟩⟩⟩⟩⟩⟩⟩⟩⟩)) (by decide) ?_
  refine g_iconst C (pc := 214) dX1_isMetBy_214 ck_iconst_1 ?_
  cases hf
  exact g_zret C E rfl (pc := 215) dX1_isMetBy_215 ⟨rfl, rfl⟩
set_option maxRecDepth 100000 in
theorem cX1_isMetBy_k (l : Launch) (D : va_G) (yy : Nat → ClassId) (p0 : Int32) (p1 : Int32) (o : Int32) (hf : fX1_isMetBy p0 p1 = some o) : GMet l yX1_isMetBy cX1_isMetBy 6 (some .boolean) rmX1_isMetBy 0 0 D yy [.int p0, .int p1] [] (fun zv zw => zv = some (.int o) ∧ zw = []) :=
  g_met (by decide +kernel) (Nat.le_of_ble_eq_true rfl) (fun x hl hD hy hn C E _ => by subst hD; subst hy; exact eX1_isMetBy x C hn p0 p1 o E hf)
def rmX1_isClaim : Room := { frames := 1, cells := 0, slots := 0, locals := 20 }
def jX1_isClaim_111 (p1 : Int32) (p2 : Int32) (p3 : Int32) : Option (Int32) :=
  if p2 = p1 then some (0 : Int32) else bd (fX1_isOffset p3) fun y_117 : Int32 => if y_117 = 0 then some (0 : Int32) else some (1 : Int32)
set_option maxRecDepth 100000 in
set_option maxHeartbeats 4000000 in
theorem tX1_isClaim_111 (x : GX) (C : GC x cX1_isClaim RX1 rmX1_isClaim) (N : xn x = 4) (p1 : Int32) (p2 : Int32) (p3 : Int32) (o : Int32) (E : GE x (some .boolean) 0 0 (fun zv zw => zv = some (.int o) ∧ zw = [])) (hf : jX1_isClaim_111 p1 p2 p3 = some o)  : GW x 0 0 [] [(1, .int p1), (2, .int p2), (3, .int p3)] 111 [] := by
  unfold jX1_isClaim_111 at hf
  refine g_iload_n C (pc := 111) 1 dX1_isClaim_111 rfl rfl ?_
  refine g_iload_n C (pc := 112) 0 dX1_isClaim_112 rfl rfl ?_
  refine g_icmp_eq C (pc := 113) 127 dX1_isClaim_113 (by decide) (fun c_113 => ?_) (fun c_113 => ?_)
  · replace hf := (k_if hf).1 c_113
    refine g_iconst C (pc := 127) dX1_isClaim_127 ck_iconst_0 ?_
    cases hf
    exact g_zret C E rfl (pc := 128) dX1_isClaim_128 ⟨rfl, rfl⟩
  · replace hf := (k_if hf).2 c_113
    refine g_iload_n C (pc := 116) 2 dX1_isClaim_116 rfl rfl ?_
    obtain ⟨y_117, h_117, hf⟩ := k_bd hf
    refine g_callS0 C (pc := 117) (As := [.int p3]) (rest := []) (v1 := (some (.int y_117))) (st' := [.int y_117]) lkX1_isOffset lSX1_19 (cX1_isOffset_k (xl x) (xD x) (xy x) p3 y_117 h_117) rfl ⟨⟨Nat.le_of_ble_eq_true rfl, Nat.le_of_ble_eq_true rfl⟩, ⟨rfl, rfl⟩, ⟨Nat.le_of_ble_eq_true rfl, Nat.le_of_ble_eq_true rfl⟩⟩ rfl (Nat.le_of_ble_eq_true rfl) rfl dX1_isClaim_117 ?_
    refine g_if_eq C (pc := 120) 127 dX1_isClaim_120 (by decide) (fun c_120 => ?_) (fun c_120 => ?_)
    · replace hf := (k_if hf).1 c_120
      refine g_iconst C (pc := 127) dX1_isClaim_127 ck_iconst_0 ?_
      cases hf
      exact g_zret C E rfl (pc := 128) dX1_isClaim_128 ⟨rfl, rfl⟩
    · replace hf := (k_if hf).2 c_120
      refine g_iconst C (pc := 123) dX1_isClaim_123 ck_iconst_1 ?_
      refine g_goto C (pc := 124) (tgt := 128) dX1_isClaim_124 (by decide) ?_
      cases hf
      exact g_zret C E rfl (pc := 128) dX1_isClaim_128 ⟨rfl, rfl⟩
def jX1_isClaim_94 (p2 : Int32) (p3 : Int32) : Option (Int32) :=
  if p2 = 0 then bd (fX1_isDigit p3) fun y_99 : Int32 => if y_99 = 0 then some (0 : Int32) else some (1 : Int32) else some (0 : Int32)
set_option maxRecDepth 100000 in
set_option maxHeartbeats 4000000 in
theorem tX1_isClaim_94 (x : GX) (C : GC x cX1_isClaim RX1 rmX1_isClaim) (N : xn x = 4) (p2 : Int32) (p3 : Int32) (o : Int32) (E : GE x (some .boolean) 0 0 (fun zv zw => zv = some (.int o) ∧ zw = [])) (hf : jX1_isClaim_94 p2 p3 = some o)  : GW x 0 0 [] [(2, .int p2), (3, .int p3)] 94 [] := by
  unfold jX1_isClaim_94 at hf
  refine g_iload_n C (pc := 94) 0 dX1_isClaim_94 rfl rfl ?_
  refine g_if_ne C (pc := 95) 109 dX1_isClaim_95 (by decide) (fun c_95 => ?_) (fun c_95 => ?_)
  · replace hf := (k_if hf).2 c_95
    refine g_iconst C (pc := 109) dX1_isClaim_109 ck_iconst_0 ?_
    cases hf
    exact g_zret C E rfl (pc := 110) dX1_isClaim_110 ⟨rfl, rfl⟩
  · replace hf := (k_if hf).1 c_95
    refine g_iload_n C (pc := 98) 1 dX1_isClaim_98 rfl rfl ?_
    obtain ⟨y_99, h_99, hf⟩ := k_bd hf
    refine g_callS0 C (pc := 99) (As := [.int p3]) (rest := []) (v1 := (some (.int y_99))) (st' := [.int y_99]) lkX1_isDigit lSX1_15 (cX1_isDigit_k (xl x) (xD x) (xy x) p3 y_99 h_99) rfl ⟨⟨Nat.le_of_ble_eq_true rfl, Nat.le_of_ble_eq_true rfl⟩, ⟨rfl, rfl⟩, ⟨Nat.le_of_ble_eq_true rfl, Nat.le_of_ble_eq_true rfl⟩⟩ rfl (Nat.le_of_ble_eq_true rfl) rfl dX1_isClaim_99 ?_
    refine g_if_eq C (pc := 102) 109 dX1_isClaim_102 (by decide) (fun c_102 => ?_) (fun c_102 => ?_)
    · replace hf := (k_if hf).1 c_102
      refine g_iconst C (pc := 109) dX1_isClaim_109 ck_iconst_0 ?_
      cases hf
      exact g_zret C E rfl (pc := 110) dX1_isClaim_110 ⟨rfl, rfl⟩
    · replace hf := (k_if hf).2 c_102
      refine g_iconst C (pc := 105) dX1_isClaim_105 ck_iconst_1 ?_
      refine g_goto C (pc := 106) (tgt := 110) dX1_isClaim_106 (by decide) ?_
      cases hf
      exact g_zret C E rfl (pc := 110) dX1_isClaim_110 ⟨rfl, rfl⟩
def fX1_isClaim (p0 : Int32) (p1 : Int32) (p2 : Int32) (p3 : Int32) : Option (Int32) :=
  if p1 < 0 then some (0 : Int32) else if (2 : Int32) < p1 then some (0 : Int32) else if p2 < 0 then some (0 : Int32) else if p2 ≤ (2 : Int32) then if p0 = 0 then if p1 = 0 then if p2 = 0 then if p3 = 0 then some (1 : Int32) else some (0 : Int32) else some (0 : Int32) else some (0 : Int32) else if p0 = 1 then jX1_isClaim_94 p2 p3 else if p0 = 2 then jX1_isClaim_94 p2 p3 else if p0 = 3 then jX1_isClaim_94 p2 p3 else if p0 = 4 then jX1_isClaim_94 p2 p3 else if p0 = 5 then jX1_isClaim_111 p1 p2 p3 else if p0 = 6 then jX1_isClaim_111 p1 p2 p3 else if p0 = 7 then jX1_isClaim_111 p1 p2 p3 else if p0 = 8 then if p2 ≤ p1 then some (0 : Int32) else bd (fX1_isDigit p3) fun y_135 : Int32 => if y_135 = 0 then some (0 : Int32) else some (1 : Int32) else if p0 = 9 then if p2 ≤ p1 then some (0 : Int32) else if p3 = 0 then some (1 : Int32) else if p3 = (1 : Int32) then some (1 : Int32) else some (0 : Int32) else some (0 : Int32) else some (0 : Int32)
set_option maxRecDepth 100000 in
set_option maxHeartbeats 4000000 in
theorem eX1_isClaim (x : GX) (C : GC x cX1_isClaim RX1 rmX1_isClaim) (N : xn x = 4) (p0 : Int32) (p1 : Int32) (p2 : Int32) (p3 : Int32) (o : Int32) (E : GE x (some .boolean) 0 0 (fun zv zw => zv = some (.int o) ∧ zw = [])) (hf : fX1_isClaim p0 p1 p2 p3 = some o)  : GW x 0 0 [] [(0, .int p0), (1, .int p1), (2, .int p2), (3, .int p3)] 0 [] := by
  unfold fX1_isClaim at hf
  refine g_iload_n C (pc := 0) 1 dX1_isClaim_0 rfl rfl ?_
  refine g_if_lt C (pc := 1) 18 dX1_isClaim_1 (by decide) (fun c_1 => ?_) (fun c_1 => ?_)
  · replace hf := (k_if hf).1 c_1
    refine g_iconst C (pc := 18) dX1_isClaim_18 ck_iconst_0 ?_
    cases hf
    exact g_zret C E rfl (pc := 19) dX1_isClaim_19 ⟨rfl, rfl⟩
  · replace hf := (k_if hf).2 c_1
    refine g_iload_n C (pc := 4) 1 dX1_isClaim_4 rfl rfl ?_
    refine g_iconst C (pc := 5) dX1_isClaim_5 ck_iconst_2 ?_
    refine g_icmp_gt C (pc := 6) 18 dX1_isClaim_6 (by decide) (fun c_6 => ?_) (fun c_6 => ?_)
    · replace hf := (k_if hf).1 c_6
      refine g_iconst C (pc := 18) dX1_isClaim_18 ck_iconst_0 ?_
      cases hf
      exact g_zret C E rfl (pc := 19) dX1_isClaim_19 ⟨rfl, rfl⟩
    · replace hf := (k_if hf).2 c_6
      refine g_iload_n C (pc := 9) 2 dX1_isClaim_9 rfl rfl ?_
      refine g_if_lt C (pc := 10) 18 dX1_isClaim_10 (by decide) (fun c_10 => ?_) (fun c_10 => ?_)
      · replace hf := (k_if hf).1 c_10
        refine g_iconst C (pc := 18) dX1_isClaim_18 ck_iconst_0 ?_
        cases hf
        exact g_zret C E rfl (pc := 19) dX1_isClaim_19 ⟨rfl, rfl⟩
      · replace hf := (k_if hf).2 c_10
        refine g_iload_n C (pc := 13) 2 dX1_isClaim_13 rfl rfl ?_
        refine g_iconst C (pc := 14) dX1_isClaim_14 ck_iconst_2 ?_
        refine g_icmp_le C (pc := 15) 20 dX1_isClaim_15 (by decide) (fun c_15 => ?_) (fun c_15 => ?_)
        · replace hf := (k_if hf).1 c_15
          refine g_iload_n C (pc := 20) 0 dX1_isClaim_20 rfl rfl ?_
          by_cases s_21_0 : p0 = 0
          · replace hf := (k_if hf).1 s_21_0
            refine g_tsw C (pc := 21) (off := 55) 76 dX1_isClaim_21 (by rw [s_21_0]; decide +kernel) (by rw [s_21_0]; decide +kernel) (by rw [s_21_0] <;> rfl) (by decide) ?_
            refine g_iload_n C (pc := 76) 1 dX1_isClaim_76 rfl rfl ?_
            refine g_if_ne C (pc := 77) 92 dX1_isClaim_77 (by decide) (fun c_77 => ?_) (fun c_77 => ?_)
            · replace hf := (k_if hf).2 c_77
              refine g_iconst C (pc := 92) dX1_isClaim_92 ck_iconst_0 ?_
              cases hf
              exact g_zret C E rfl (pc := 93) dX1_isClaim_93 ⟨rfl, rfl⟩
            · replace hf := (k_if hf).1 c_77
              refine g_iload_n C (pc := 80) 2 dX1_isClaim_80 rfl rfl ?_
              refine g_if_ne C (pc := 81) 92 dX1_isClaim_81 (by decide) (fun c_81 => ?_) (fun c_81 => ?_)
              · replace hf := (k_if hf).2 c_81
                refine g_iconst C (pc := 92) dX1_isClaim_92 ck_iconst_0 ?_
                cases hf
                exact g_zret C E rfl (pc := 93) dX1_isClaim_93 ⟨rfl, rfl⟩
              · replace hf := (k_if hf).1 c_81
                refine g_iload_n C (pc := 84) 3 dX1_isClaim_84 rfl rfl ?_
                refine g_if_ne C (pc := 85) 92 dX1_isClaim_85 (by decide) (fun c_85 => ?_) (fun c_85 => ?_)
                · replace hf := (k_if hf).2 c_85
                  refine g_iconst C (pc := 92) dX1_isClaim_92 ck_iconst_0 ?_
                  cases hf
                  exact g_zret C E rfl (pc := 93) dX1_isClaim_93 ⟨rfl, rfl⟩
                · replace hf := (k_if hf).1 c_85
                  refine g_iconst C (pc := 88) dX1_isClaim_88 ck_iconst_1 ?_
                  refine g_goto C (pc := 89) (tgt := 93) dX1_isClaim_89 (by decide) ?_
                  cases hf
                  exact g_zret C E rfl (pc := 93) dX1_isClaim_93 ⟨rfl, rfl⟩
          replace hf := (k_if hf).2 s_21_0
          by_cases s_21_1 : p0 = 1
          · replace hf := (k_if hf).1 s_21_1
            refine g_tsw C (pc := 21) (off := 73) 94 dX1_isClaim_21 (by rw [s_21_1]; decide +kernel) (by rw [s_21_1]; decide +kernel) (by rw [s_21_1] <;> rfl) (by decide) ?_
            exact g_lo [2, 3] rfl (tX1_isClaim_94 x C N p2 p3 o E hf)
          replace hf := (k_if hf).2 s_21_1
          by_cases s_21_2 : p0 = 2
          · replace hf := (k_if hf).1 s_21_2
            refine g_tsw C (pc := 21) (off := 73) 94 dX1_isClaim_21 (by rw [s_21_2]; decide +kernel) (by rw [s_21_2]; decide +kernel) (by rw [s_21_2] <;> rfl) (by decide) ?_
            exact g_lo [2, 3] rfl (tX1_isClaim_94 x C N p2 p3 o E hf)
          replace hf := (k_if hf).2 s_21_2
          by_cases s_21_3 : p0 = 3
          · replace hf := (k_if hf).1 s_21_3
            refine g_tsw C (pc := 21) (off := 73) 94 dX1_isClaim_21 (by rw [s_21_3]; decide +kernel) (by rw [s_21_3]; decide +kernel) (by rw [s_21_3] <;> rfl) (by decide) ?_
            exact g_lo [2, 3] rfl (tX1_isClaim_94 x C N p2 p3 o E hf)
          replace hf := (k_if hf).2 s_21_3
          by_cases s_21_4 : p0 = 4
          · replace hf := (k_if hf).1 s_21_4
            refine g_tsw C (pc := 21) (off := 73) 94 dX1_isClaim_21 (by rw [s_21_4]; decide +kernel) (by rw [s_21_4]; decide +kernel) (by rw [s_21_4] <;> rfl) (by decide) ?_
            exact g_lo [2, 3] rfl (tX1_isClaim_94 x C N p2 p3 o E hf)
          replace hf := (k_if hf).2 s_21_4
          by_cases s_21_5 : p0 = 5
          · replace hf := (k_if hf).1 s_21_5
            refine g_tsw C (pc := 21) (off := 90) 111 dX1_isClaim_21 (by rw [s_21_5]; decide +kernel) (by rw [s_21_5]; decide +kernel) (by rw [s_21_5] <;> rfl) (by decide) ?_
            exact g_lo [1, 2, 3] rfl (tX1_isClaim_111 x C N p1 p2 p3 o E hf)
          replace hf := (k_if hf).2 s_21_5
          by_cases s_21_6 : p0 = 6
          · replace hf := (k_if hf).1 s_21_6
            refine g_tsw C (pc := 21) (off := 90) 111 dX1_isClaim_21 (by rw [s_21_6]; decide +kernel) (by rw [s_21_6]; decide +kernel) (by rw [s_21_6] <;> rfl) (by decide) ?_
            exact g_lo [1, 2, 3] rfl (tX1_isClaim_111 x C N p1 p2 p3 o E hf)
          replace hf := (k_if hf).2 s_21_6
          by_cases s_21_7 : p0 = 7
          · replace hf := (k_if hf).1 s_21_7
            refine g_tsw C (pc := 21) (off := 90) 111 dX1_isClaim_21 (by rw [s_21_7]; decide +kernel) (by rw [s_21_7]; decide +kernel) (by rw [s_21_7] <;> rfl) (by decide) ?_
            exact g_lo [1, 2, 3] rfl (tX1_isClaim_111 x C N p1 p2 p3 o E hf)
          replace hf := (k_if hf).2 s_21_7
          by_cases s_21_8 : p0 = 8
          · replace hf := (k_if hf).1 s_21_8
            refine g_tsw C (pc := 21) (off := 108) 129 dX1_isClaim_21 (by rw [s_21_8]; decide +kernel) (by rw [s_21_8]; decide +kernel) (by rw [s_21_8] <;> rfl) (by decide) ?_
            refine g_iload_n C (pc := 129) 2 dX1_isClaim_129 rfl rfl ?_
            refine g_iload_n C (pc := 130) 1 dX1_isClaim_130 rfl rfl ?_
            refine g_icmp_le C (pc := 131) 145 dX1_isClaim_131 (by decide) (fun c_131 => ?_) (fun c_131 => ?_)
            · replace hf := (k_if hf).1 c_131
              refine g_iconst C (pc := 145) dX1_isClaim_145 ck_iconst_0 ?_
              cases hf
              exact g_zret C E rfl (pc := 146) dX1_isClaim_146 ⟨rfl, rfl⟩
            · replace hf := (k_if hf).2 c_131
              refine g_iload_n C (pc := 134) 3 dX1_isClaim_134 rfl rfl ?_
              obtain ⟨y_135, h_135, hf⟩ := k_bd hf
              refine g_callS0 C (pc := 135) (As := [.int p3]) (rest := []) (v1 := (some (.int y_135))) (st' := [.int y_135]) lkX1_isDigit lSX1_15 (cX1_isDigit_k (xl x) (xD x) (xy x) p3 y_135 h_135) rfl ⟨⟨Nat.le_of_ble_eq_true rfl, Nat.le_of_ble_eq_true rfl⟩, ⟨rfl, rfl⟩, ⟨Nat.le_of_ble_eq_true rfl, Nat.le_of_ble_eq_true rfl⟩⟩ rfl (Nat.le_of_ble_eq_true rfl) rfl dX1_isClaim_135 ?_
              refine g_if_eq C (pc := 138) 145 dX1_isClaim_138 (by decide) (fun c_138 => ?_) (fun c_138 => ?_)
              · replace hf := (k_if hf).1 c_138
                refine g_iconst C (pc := 145) dX1_isClaim_145 ck_iconst_0 ?_
                cases hf
                exact g_zret C E rfl (pc := 146) dX1_isClaim_146 ⟨rfl, rfl⟩
              · replace hf := (k_if hf).2 c_138
                refine g_iconst C (pc := 141) dX1_isClaim_141 ck_iconst_1 ?_
                refine g_goto C (pc := 142) (tgt := 146) dX1_isClaim_142 (by decide) ?_
                cases hf
                exact g_zret C E rfl (pc := 146) dX1_isClaim_146 ⟨rfl, rfl⟩
          replace hf := (k_if hf).2 s_21_8
          by_cases s_21_9 : p0 = 9
          · replace hf := (k_if hf).1 s_21_9
            refine g_tsw C (pc := 21) (off := 126) 147 dX1_isClaim_21 (by rw [s_21_9]; decide +kernel) (by rw [s_21_9]; decide +kernel) (by rw [s_21_9] <;> rfl) (by decide) ?_
            refine g_iload_n C (pc := 147) 2 dX1_isClaim_147 rfl rfl ?_
            refine g_iload_n C (pc := 148) 1 dX1_isClaim_148 rfl rfl ?_
            refine g_icmp_le C (pc := 149) 165 dX1_isClaim_149 (by decide) (fun c_149 => ?_) (fun c_149 => ?_)
            · replace hf := (k_if hf).1 c_149
              refine g_iconst C (pc := 165) dX1_isClaim_165 ck_iconst_0 ?_
              cases hf
              exact g_zret C E rfl (pc := 166) dX1_isClaim_166 ⟨rfl, rfl⟩
            · replace hf := (k_if hf).2 c_149
              refine g_iload_n C (pc := 152) 3 dX1_isClaim_152 rfl rfl ?_
              refine g_if_eq C (pc := 153) 161 dX1_isClaim_153 (by decide) (fun c_153 => ?_) (fun c_153 => ?_)
              · replace hf := (k_if hf).1 c_153
                refine g_iconst C (pc := 161) dX1_isClaim_161 ck_iconst_1 ?_
                refine g_goto C (pc := 162) (tgt := 166) dX1_isClaim_162 (by decide) ?_
                cases hf
                exact g_zret C E rfl (pc := 166) dX1_isClaim_166 ⟨rfl, rfl⟩
              · replace hf := (k_if hf).2 c_153
                refine g_iload_n C (pc := 156) 3 dX1_isClaim_156 rfl rfl ?_
                refine g_iconst C (pc := 157) dX1_isClaim_157 ck_iconst_1 ?_
                refine g_icmp_ne C (pc := 158) 165 dX1_isClaim_158 (by decide) (fun c_158 => ?_) (fun c_158 => ?_)
                · replace hf := (k_if hf).2 c_158
                  refine g_iconst C (pc := 165) dX1_isClaim_165 ck_iconst_0 ?_
                  cases hf
                  exact g_zret C E rfl (pc := 166) dX1_isClaim_166 ⟨rfl, rfl⟩
                · replace hf := (k_if hf).1 c_158
                  refine g_iconst C (pc := 161) dX1_isClaim_161 ck_iconst_1 ?_
                  refine g_goto C (pc := 162) (tgt := 166) dX1_isClaim_162 (by decide) ?_
                  cases hf
                  exact g_zret C E rfl (pc := 166) dX1_isClaim_166 ⟨rfl, rfl⟩
          replace hf := (k_if hf).2 s_21_9
          refine g_tswD C (pc := 21) 167 dX1_isClaim_21 (tsw_out [0, 1, 2, 3, 4, 5, 6, 7, 8, 9] (by decide +kernel) (by decide) (List.forall_mem_cons.mpr ⟨s_21_0, List.forall_mem_cons.mpr ⟨s_21_1, List.forall_mem_cons.mpr ⟨s_21_2, List.forall_mem_cons.mpr ⟨s_21_3, List.forall_mem_cons.mpr ⟨s_21_4, List.forall_mem_cons.mpr ⟨s_21_5, List.forall_mem_cons.mpr ⟨s_21_6, List.forall_mem_cons.mpr ⟨s_21_7, List.forall_mem_cons.mpr ⟨s_21_8, List.forall_mem_cons.mpr ⟨s_21_9, fun _ h => absurd h List.not_mem_nil⟩⟩⟩⟩⟩⟩⟩⟩⟩⟩)) (by decide) ?_
          refine g_iconst C (pc := 167) dX1_isClaim_167 ck_iconst_0 ?_
          cases hf
          exact g_zret C E rfl (pc := 168) dX1_isClaim_168 ⟨rfl, rfl⟩
        · replace hf := (k_if hf).2 c_15
          refine g_iconst C (pc := 18) dX1_isClaim_18 ck_iconst_0 ?_
          cases hf
          exact g_zret C E rfl (pc := 19) dX1_isClaim_19 ⟨rfl, rfl⟩
set_option maxRecDepth 100000 in
theorem cX1_isClaim_k (l : Launch) (D : va_G) (yy : Nat → ClassId) (p0 : Int32) (p1 : Int32) (p2 : Int32) (p3 : Int32) (o : Int32) (hf : fX1_isClaim p0 p1 p2 p3 = some o) : GMet l yX1_isClaim cX1_isClaim 4 (some .boolean) rmX1_isClaim 0 0 D yy [.int p0, .int p1, .int p2, .int p3] [] (fun zv zw => zv = some (.int o) ∧ zw = []) :=
  g_met (by decide +kernel) (Nat.le_of_ble_eq_true rfl) (fun x hl hD hy hn C E _ => by subst hD; subst hy; exact eX1_isClaim x C hn p0 p1 p2 p3 o E hf)
def rmX1_isCode : Room := { frames := 2, cells := 0, slots := 0, locals := 43 }
def fX1_isCode (p0 : Int32) : Option (Int32) :=
  if 0 ≤ p0 then bd (fX1_isClaim ((p0 / (15 : Int32)) / (9 : Int32)) (((p0 / (15 : Int32)) - (p0 / (15 : Int32)) / (9 : Int32) * (9 : Int32)) / (3 : Int32)) ((p0 / (15 : Int32)) - (p0 / (15 : Int32)) / (3 : Int32) * (3 : Int32)) ((p0 - p0 / (15 : Int32) * (15 : Int32)) - (7 : Int32))) fun y_31 : Int32 => gd (isB y_31) (some y_31) else some (0 : Int32)
set_option maxRecDepth 100000 in
set_option maxHeartbeats 4000000 in
theorem eX1_isCode (x : GX) (C : GC x cX1_isCode RX1 rmX1_isCode) (N : xn x = 2) (p0 : Int32) (o : Int32) (E : GE x (some .boolean) 0 0 (fun zv zw => zv = some (.int o) ∧ zw = [])) (hf : fX1_isCode p0 = some o)  : GW x 0 0 [] [(0, .int p0)] 0 [] := by
  unfold fX1_isCode at hf
  refine g_iload_n C (pc := 0) 0 dX1_isCode_0 rfl rfl ?_
  refine g_if_ge C (pc := 1) 6 dX1_isCode_1 (by decide) (fun c_1 => ?_) (fun c_1 => ?_)
  · replace hf := (k_if hf).1 c_1
    refine g_iload_n C (pc := 6) 0 dX1_isCode_6 rfl rfl ?_
    refine g_bipush C (pc := 7) dX1_isCode_7 ck_bipush_15 ?_
    refine g_idiv C (pc := 9) dX1_isCode_9 (by decide) ?_
    refine g_istore_n C (pc := 10) (lo' := [(1, .int (p0 / (15 : Int32))), (0, .int p0)]) dX1_isCode_10 rfl N rfl rfl ?_
    refine g_iload_n C (pc := 11) 0 dX1_isCode_11 rfl rfl ?_
    refine g_bipush C (pc := 12) dX1_isCode_12 ck_bipush_9 ?_
    refine g_idiv C (pc := 14) dX1_isCode_14 (by decide) ?_
    refine g_iload_n C (pc := 15) 0 dX1_isCode_15 rfl rfl ?_
    refine g_bipush C (pc := 16) dX1_isCode_16 ck_bipush_9 ?_
    refine g_irem C (pc := 18) dX1_isCode_18 (by decide) ?_
    refine g_iconst C (pc := 19) dX1_isCode_19 ck_iconst_3 ?_
    refine g_idiv C (pc := 20) dX1_isCode_20 (by decide) ?_
    refine g_iload_n C (pc := 21) 0 dX1_isCode_21 rfl rfl ?_
    refine g_iconst C (pc := 22) dX1_isCode_22 ck_iconst_3 ?_
    refine g_irem C (pc := 23) dX1_isCode_23 (by decide) ?_
    refine g_iload_n C (pc := 24) 1 dX1_isCode_24 rfl rfl ?_
    refine g_bipush C (pc := 25) dX1_isCode_25 ck_bipush_15 ?_
    refine g_irem C (pc := 27) dX1_isCode_27 (by decide) ?_
    refine g_bipush C (pc := 28) dX1_isCode_28 ck_bipush_7 ?_
    refine g_isub C (pc := 30) dX1_isCode_30 ?_
    obtain ⟨y_31, h_31, hf⟩ := k_bd hf
    refine g_callS0 C (pc := 31) (As := [.int ((p0 / (15 : Int32)) / (9 : Int32)), .int (((p0 / (15 : Int32)) - (p0 / (15 : Int32)) / (9 : Int32) * (9 : Int32)) / (3 : Int32)), .int ((p0 / (15 : Int32)) - (p0 / (15 : Int32)) / (3 : Int32) * (3 : Int32)), .int ((p0 - p0 / (15 : Int32) * (15 : Int32)) - (7 : Int32))]) (rest := []) (v1 := (some (.int y_31))) (st' := [.int y_31]) lkX1_isClaim lSX1_9 (cX1_isClaim_k (xl x) (xD x) (xy x) ((p0 / (15 : Int32)) / (9 : Int32)) (((p0 / (15 : Int32)) - (p0 / (15 : Int32)) / (9 : Int32) * (9 : Int32)) / (3 : Int32)) ((p0 / (15 : Int32)) - (p0 / (15 : Int32)) / (3 : Int32) * (3 : Int32)) ((p0 - p0 / (15 : Int32) * (15 : Int32)) - (7 : Int32)) y_31 h_31) rfl ⟨⟨Nat.le_of_ble_eq_true rfl, Nat.le_of_ble_eq_true rfl⟩, ⟨rfl, rfl⟩, ⟨Nat.le_of_ble_eq_true rfl, Nat.le_of_ble_eq_true rfl⟩⟩ rfl (Nat.le_of_ble_eq_true rfl) rfl dX1_isCode_31 ?_
    obtain ⟨z_34, hf⟩ := k_gd hf
    cases hf
    exact g_zret C E (isB_nar z_34) (pc := 34) dX1_isCode_34 ⟨rfl, rfl⟩
  · replace hf := (k_if hf).2 c_1
    refine g_iconst C (pc := 4) dX1_isCode_4 ck_iconst_0 ?_
    cases hf
    exact g_zret C E rfl (pc := 5) dX1_isCode_5 ⟨rfl, rfl⟩
set_option maxRecDepth 100000 in
theorem cX1_isCode_k (l : Launch) (D : va_G) (yy : Nat → ClassId) (p0 : Int32) (o : Int32) (hf : fX1_isCode p0 = some o) : GMet l yX1_isCode cX1_isCode 2 (some .boolean) rmX1_isCode 0 0 D yy [.int p0] [] (fun zv zw => zv = some (.int o) ∧ zw = []) :=
  g_met (by decide +kernel) (Nat.le_of_ble_eq_true rfl) (fun x hl hD hy hn C E _ => by subst hD; subst hy; exact eX1_isCode x C hn p0 o E hf)
def rmX1_encode : Room := { frames := 2, cells := 0, slots := 0, locals := 43 }
def fX1_encode (p0 : Int32) (p1 : Int32) (p2 : Int32) (p3 : Int32) : Option (Int32) :=
  bd (fX1_isClaim p0 p1 p2 p3) fun y_4 : Int32 => if y_4 = 0 then some (-2 : Int32) else some ((((15 : Int32) * ((((9 : Int32) * p0) + ((3 : Int32) * p1)) + p2)) + p3) + (7 : Int32))
set_option maxRecDepth 100000 in
set_option maxHeartbeats 4000000 in
theorem eX1_encode (x : GX) (C : GC x cX1_encode RX1 rmX1_encode) (N : xn x = 4) (p0 : Int32) (p1 : Int32) (p2 : Int32) (p3 : Int32) (o : Int32) (E : GE x (some .int) 0 0 (fun zv zw => zv = some (.int o) ∧ zw = [])) (hf : fX1_encode p0 p1 p2 p3 = some o)  : GW x 0 0 [] [(0, .int p0), (1, .int p1), (2, .int p2), (3, .int p3)] 0 [] := by
  unfold fX1_encode at hf
  refine g_iload_n C (pc := 0) 0 dX1_encode_0 rfl rfl ?_
  refine g_iload_n C (pc := 1) 1 dX1_encode_1 rfl rfl ?_
  refine g_iload_n C (pc := 2) 2 dX1_encode_2 rfl rfl ?_
  refine g_iload_n C (pc := 3) 3 dX1_encode_3 rfl rfl ?_
  obtain ⟨y_4, h_4, hf⟩ := k_bd hf
  refine g_callS0 C (pc := 4) (As := [.int p0, .int p1, .int p2, .int p3]) (rest := []) (v1 := (some (.int y_4))) (st' := [.int y_4]) lkX1_isClaim lSX1_9 (cX1_isClaim_k (xl x) (xD x) (xy x) p0 p1 p2 p3 y_4 h_4) rfl ⟨⟨Nat.le_of_ble_eq_true rfl, Nat.le_of_ble_eq_true rfl⟩, ⟨rfl, rfl⟩, ⟨Nat.le_of_ble_eq_true rfl, Nat.le_of_ble_eq_true rfl⟩⟩ rfl (Nat.le_of_ble_eq_true rfl) rfl dX1_encode_4 ?_
  refine g_if_eq C (pc := 7) 31 dX1_encode_7 (by decide) (fun c_7 => ?_) (fun c_7 => ?_)
  · replace hf := (k_if hf).1 c_7
    refine g_bipush C (pc := 31) dX1_encode_31 ck_bipush_m2 ?_
    cases hf
    exact g_iret C E (pc := 33) dX1_encode_33 ⟨rfl, rfl⟩
  · replace hf := (k_if hf).2 c_7
    refine g_bipush C (pc := 10) dX1_encode_10 ck_bipush_15 ?_
    refine g_bipush C (pc := 12) dX1_encode_12 ck_bipush_9 ?_
    refine g_iload_n C (pc := 14) 0 dX1_encode_14 rfl rfl ?_
    refine g_imul C (pc := 15) dX1_encode_15 ?_
    refine g_iconst C (pc := 16) dX1_encode_16 ck_iconst_3 ?_
    refine g_iload_n C (pc := 17) 1 dX1_encode_17 rfl rfl ?_
    refine g_imul C (pc := 18) dX1_encode_18 ?_
    refine g_iadd C (pc := 19) dX1_encode_19 ?_
    refine g_iload_n C (pc := 20) 2 dX1_encode_20 rfl rfl ?_
    refine g_iadd C (pc := 21) dX1_encode_21 ?_
    refine g_imul C (pc := 22) dX1_encode_22 ?_
    refine g_iload_n C (pc := 23) 3 dX1_encode_23 rfl rfl ?_
    refine g_iadd C (pc := 24) dX1_encode_24 ?_
    refine g_bipush C (pc := 25) dX1_encode_25 ck_bipush_7 ?_
    refine g_iadd C (pc := 27) dX1_encode_27 ?_
    refine g_goto C (pc := 28) (tgt := 33) dX1_encode_28 (by decide) ?_
    cases hf
    exact g_iret C E (pc := 33) dX1_encode_33 ⟨rfl, rfl⟩
set_option maxRecDepth 100000 in
theorem cX1_encode_k (l : Launch) (D : va_G) (yy : Nat → ClassId) (p0 : Int32) (p1 : Int32) (p2 : Int32) (p3 : Int32) (o : Int32) (hf : fX1_encode p0 p1 p2 p3 = some o) : GMet l yX1_encode cX1_encode 4 (some .int) rmX1_encode 0 0 D yy [.int p0, .int p1, .int p2, .int p3] [] (fun zv zw => zv = some (.int o) ∧ zw = []) :=
  g_met (by decide +kernel) (Nat.le_of_ble_eq_true rfl) (fun x hl hD hy hn C E _ => by subst hD; subst hy; exact eX1_encode x C hn p0 p1 p2 p3 o E hf)
def rmX7_clear : Room := { frames := 0, cells := 0, slots := 0, locals := 0 }
def gX7_clear_2  (a_2 : Int32 × (Nat → Int64)) : Option ((Int32 × (Nat → Int64)) ⊕ (Int32 × (Nat → Int64))) :=
  if (8 : Int32) ≤ a_2.1 then some (.inr (a_2.1, a_2.2)) else gd (gi a_2.1 8) (some (.inl (a_2.1 + 1, vp_updL a_2.2 (ix a_2.1) (0 : Int64))))
set_option maxRecDepth 100000 in
set_option maxHeartbeats 4000000 in
theorem bX7_clear_2 (x : GX) (C : GC x cX7_clear RX7 rmX7_clear) (N : xn x = 2) (qw : Nat) (qw1 : Nat) (a_2 : Int32 × (Nat → Int64)) (r : (Int32 × (Nat → Int64)) ⊕ (Int32 × (Nat → Int64)))  (hf : gX7_clear_2 a_2 = some r) (kn : ∀ e : Int32 × (Nat → Int64), r = .inl e → GW x 0 0 [(qw, .inr (6, [.ref qw1])), (qw1, .inl ((xy x) 1, 8, .inr (.inl e.2)))] [(0, .ref qw), (1, .int e.1)] 2 []) (kx : ∀ e : Int32 × (Nat → Int64), r = .inr e → GW x 0 0 [(qw, .inr (6, [.ref qw1])), (qw1, .inl ((xy x) 1, 8, .inr (.inl e.2)))] [] 24 []) : GW x 0 0 [(qw, .inr (6, [.ref qw1])), (qw1, .inl ((xy x) 1, 8, .inr (.inl a_2.2)))] [(0, .ref qw), (1, .int a_2.1)] 2 [] := by
  unfold gX7_clear_2 at hf
  refine g_iload_n C (pc := 2) 1 dX7_clear_2 rfl rfl ?_
  refine g_aload_n C (pc := 3) 0 dX7_clear_3 rfl rfl ?_
  refine g_get C (pc := 4) lfX7_9 0 rfl rfl dX7_clear_4 ?_
  refine g_alen C (pc := 7) (v := 8) 1 1 rfl rfl ck_len_8 dX7_clear_7 ?_
  refine g_icmp_ge C (pc := 8) 24 dX7_clear_8 (by decide) (fun c_8 => ?_) (fun c_8 => ?_)
  · replace hf := (k_if hf).1 c_8
    cases hf
    exact g_lo [] rfl (kx (a_2.1, a_2.2) rfl)
  · replace hf := (k_if hf).2 c_8
    refine g_aload_n C (pc := 11) 0 dX7_clear_11 rfl rfl ?_
    refine g_get C (pc := 12) lfX7_9 0 rfl rfl dX7_clear_12 ?_
    refine g_iload_n C (pc := 15) 1 dX7_clear_15 rfl rfl ?_
    refine g_lconst C (pc := 16) (v := 0) dX7_clear_16 rfl ?_
    obtain ⟨i_17, hf⟩ := k_gd hf
    refine g_last C (pc := 17) (ws' := [(qw, .inr (6, [.ref qw1])), (qw1, .inl ((xy x) 1, 8, .inr (.inl (vp_updL a_2.2 (ix a_2.1) (0 : Int64)))))]) 1 rfl i_17 rfl dX7_clear_17 ?_
    refine g_iinc C (pc := 18) (v := a_2.1 + 1) (lo' := [(1, .int (a_2.1 + 1)), (0, .ref qw)]) 1 dX7_clear_18 rfl (congrArg (HAdd.hAdd _) ck_iinc_1) N rfl rfl ?_
    refine g_goto C (pc := 21) (tgt := 2) dX7_clear_21 (by decide) ?_
    cases hf
    exact g_lo [1, 0] rfl (kn (a_2.1 + 1, vp_updL a_2.2 (ix a_2.1) (0 : Int64)) rfl)
def fX7_clear (w : Nat → Int64) : Option (Nat → Int64) :=
  bd (iter gX7_clear_2 FU ((0 : Int32), w)) fun b_2 : Int32 × (Nat → Int64) => some b_2.2
set_option maxRecDepth 100000 in
set_option maxHeartbeats 4000000 in
theorem eX7_clear (x : GX) (C : GC x cX7_clear RX7 rmX7_clear) (N : xn x = 2) (qw : Nat) (qw1 : Nat) (w : Nat → Int64) (o : Nat → Int64) (E : GE x none 0 0 (fun zv zw => zv = none ∧ zw = [(qw, .inr (6, [.ref qw1])), (qw1, .inl ((xy x) 1, 8, .inr (.inl o)))])) (hf : fX7_clear w = some o)  : GW x 0 0 [(qw, .inr (6, [.ref qw1])), (qw1, .inl ((xy x) 1, 8, .inr (.inl w)))] [(0, .ref qw)] 0 [] := by
  unfold fX7_clear at hf
  refine g_iconst C (pc := 0) dX7_clear_0 ck_iconst_0 ?_
  refine g_istore_n C (pc := 1) (lo' := [(1, .int (0 : Int32)), (0, .ref qw)]) dX7_clear_1 rfl N rfl rfl ?_
  obtain ⟨b_2, hb_2, hf⟩ := k_bd hf
  refine g_lo [1, 0] rfl ?_
  refine g_loop (g := gX7_clear_2) (fun e : Int32 × (Nat → Int64) => [(qw, .inr (6, [.ref qw1])), (qw1, .inl ((xy x) 1, 8, .inr (.inl e.2)))]) (fun e : Int32 × (Nat → Int64) => [(0, .ref qw), (1, .int e.1)]) 2 (fun e : Int32 × (Nat → Int64) => GW x 0 0 [(qw, .inr (6, [.ref qw1])), (qw1, .inl ((xy x) 1, 8, .inr (.inl e.2)))] [] 24 []) (fun a r hg kn kx => bX7_clear_2 x C N qw qw1 a r hg kn kx) FU _ b_2 hb_2 ?_
  cases hf
  exact g_vret C E (pc := 24) dX7_clear_24 ⟨rfl, rfl⟩
set_option maxRecDepth 100000 in
theorem cX7_clear_k (l : Launch) (D : va_G) (yy : Nat → ClassId) (qw : Nat) (qw1 : Nat) (w : Nat → Int64) (o : Nat → Int64) (hf : fX7_clear w = some o) : GMet l yX7_clear cX7_clear 2 none rmX7_clear 0 0 D yy [.ref qw] [(qw, .inr (6, [.ref qw1])), (qw1, .inl (yy 1, 8, .inr (.inl w)))] (fun zv zw => zv = none ∧ zw = [(qw, .inr (6, [.ref qw1])), (qw1, .inl (yy 1, 8, .inr (.inl o)))]) :=
  g_met (by decide +kernel) (Nat.le_of_ble_eq_true rfl) (fun x hl hD hy hn C E _ => by subst hD; subst hy; exact eX7_clear x C hn qw qw1 w o E hf)
def rmX7_fill : Room := { frames := 0, cells := 0, slots := 0, locals := 0 }
def gX7_fill_2  (a_2 : Int32 × (Nat → Int64)) : Option ((Int32 × (Nat → Int64)) ⊕ (Int32 × (Nat → Int64))) :=
  if (8 : Int32) ≤ a_2.1 then some (.inr (a_2.1, a_2.2)) else gd (gi a_2.1 8) (some (.inl (a_2.1 + 1, vp_updL a_2.2 (ix a_2.1) (-1 : Int64))))
set_option maxRecDepth 100000 in
set_option maxHeartbeats 4000000 in
theorem bX7_fill_2 (x : GX) (C : GC x cX7_fill RX7 rmX7_fill) (N : xn x = 2) (qw : Nat) (qw1 : Nat) (a_2 : Int32 × (Nat → Int64)) (r : (Int32 × (Nat → Int64)) ⊕ (Int32 × (Nat → Int64)))  (hf : gX7_fill_2 a_2 = some r) (kn : ∀ e : Int32 × (Nat → Int64), r = .inl e → GW x 0 0 [(qw, .inr (6, [.ref qw1])), (qw1, .inl ((xy x) 1, 8, .inr (.inl e.2)))] [(0, .ref qw), (1, .int e.1)] 2 []) (kx : ∀ e : Int32 × (Nat → Int64), r = .inr e → GW x 0 0 [(qw, .inr (6, [.ref qw1])), (qw1, .inl ((xy x) 1, 8, .inr (.inl e.2)))] [] 26 []) : GW x 0 0 [(qw, .inr (6, [.ref qw1])), (qw1, .inl ((xy x) 1, 8, .inr (.inl a_2.2)))] [(0, .ref qw), (1, .int a_2.1)] 2 [] := by
  unfold gX7_fill_2 at hf
  refine g_iload_n C (pc := 2) 1 dX7_fill_2 rfl rfl ?_
  refine g_aload_n C (pc := 3) 0 dX7_fill_3 rfl rfl ?_
  refine g_get C (pc := 4) lfX7_9 0 rfl rfl dX7_fill_4 ?_
  refine g_alen C (pc := 7) (v := 8) 1 1 rfl rfl ck_len_8 dX7_fill_7 ?_
  refine g_icmp_ge C (pc := 8) 26 dX7_fill_8 (by decide) (fun c_8 => ?_) (fun c_8 => ?_)
  · replace hf := (k_if hf).1 c_8
    cases hf
    exact g_lo [] rfl (kx (a_2.1, a_2.2) rfl)
  · replace hf := (k_if hf).2 c_8
    refine g_aload_n C (pc := 11) 0 dX7_fill_11 rfl rfl ?_
    refine g_get C (pc := 12) lfX7_9 0 rfl rfl dX7_fill_12 ?_
    refine g_iload_n C (pc := 15) 1 dX7_fill_15 rfl rfl ?_
    refine g_ldc2 C (pc := 16) lcX7_15 dX7_fill_16 ?_
    obtain ⟨i_19, hf⟩ := k_gd hf
    refine g_last C (pc := 19) (ws' := [(qw, .inr (6, [.ref qw1])), (qw1, .inl ((xy x) 1, 8, .inr (.inl (vp_updL a_2.2 (ix a_2.1) (-1 : Int64)))))]) 1 rfl i_19 rfl dX7_fill_19 ?_
    refine g_iinc C (pc := 20) (v := a_2.1 + 1) (lo' := [(1, .int (a_2.1 + 1)), (0, .ref qw)]) 1 dX7_fill_20 rfl (congrArg (HAdd.hAdd _) ck_iinc_1) N rfl rfl ?_
    refine g_goto C (pc := 23) (tgt := 2) dX7_fill_23 (by decide) ?_
    cases hf
    exact g_lo [1, 0] rfl (kn (a_2.1 + 1, vp_updL a_2.2 (ix a_2.1) (-1 : Int64)) rfl)
def fX7_fill (w : Nat → Int64) : Option (Nat → Int64) :=
  bd (iter gX7_fill_2 FU ((0 : Int32), w)) fun b_2 : Int32 × (Nat → Int64) => some b_2.2
set_option maxRecDepth 100000 in
set_option maxHeartbeats 4000000 in
theorem eX7_fill (x : GX) (C : GC x cX7_fill RX7 rmX7_fill) (N : xn x = 2) (qw : Nat) (qw1 : Nat) (w : Nat → Int64) (o : Nat → Int64) (E : GE x none 0 0 (fun zv zw => zv = none ∧ zw = [(qw, .inr (6, [.ref qw1])), (qw1, .inl ((xy x) 1, 8, .inr (.inl o)))])) (hf : fX7_fill w = some o)  : GW x 0 0 [(qw, .inr (6, [.ref qw1])), (qw1, .inl ((xy x) 1, 8, .inr (.inl w)))] [(0, .ref qw)] 0 [] := by
  unfold fX7_fill at hf
  refine g_iconst C (pc := 0) dX7_fill_0 ck_iconst_0 ?_
  refine g_istore_n C (pc := 1) (lo' := [(1, .int (0 : Int32)), (0, .ref qw)]) dX7_fill_1 rfl N rfl rfl ?_
  obtain ⟨b_2, hb_2, hf⟩ := k_bd hf
  refine g_lo [1, 0] rfl ?_
  refine g_loop (g := gX7_fill_2) (fun e : Int32 × (Nat → Int64) => [(qw, .inr (6, [.ref qw1])), (qw1, .inl ((xy x) 1, 8, .inr (.inl e.2)))]) (fun e : Int32 × (Nat → Int64) => [(0, .ref qw), (1, .int e.1)]) 2 (fun e : Int32 × (Nat → Int64) => GW x 0 0 [(qw, .inr (6, [.ref qw1])), (qw1, .inl ((xy x) 1, 8, .inr (.inl e.2)))] [] 26 []) (fun a r hg kn kx => bX7_fill_2 x C N qw qw1 a r hg kn kx) FU _ b_2 hb_2 ?_
  cases hf
  exact g_vret C E (pc := 26) dX7_fill_26 ⟨rfl, rfl⟩
set_option maxRecDepth 100000 in
theorem cX7_fill_k (l : Launch) (D : va_G) (yy : Nat → ClassId) (qw : Nat) (qw1 : Nat) (w : Nat → Int64) (o : Nat → Int64) (hf : fX7_fill w = some o) : GMet l yX7_fill cX7_fill 2 none rmX7_fill 0 0 D yy [.ref qw] [(qw, .inr (6, [.ref qw1])), (qw1, .inl (yy 1, 8, .inr (.inl w)))] (fun zv zw => zv = none ∧ zw = [(qw, .inr (6, [.ref qw1])), (qw1, .inl (yy 1, 8, .inr (.inl o)))]) :=
  g_met (by decide +kernel) (Nat.le_of_ble_eq_true rfl) (fun x hl hD hy hn C E _ => by subst hD; subst hy; exact eX7_fill x C hn qw qw1 w o E hf)
def rmX7_has : Room := { frames := 1, cells := 0, slots := 0, locals := 20 }
def fX7_has (w : Nat → Int64) (p0 : Int32) : Option (Int32) :=
  bd (fX10_isState p0) fun y_1 : Int32 => if y_1 = 0 then some (0 : Int32) else gd (gi (p0 >>> ((6 : Int32) &&& 31)) 8) (if (lg_cmp ((((w (ix (p0 >>> ((6 : Int32) &&& 31)))).toUInt64 >>> ((p0 &&& (63 : Int32)).toInt64.toUInt64 &&& Int64.toUInt64 63)).toInt64) &&& (1 : Int64)) (0 : Int64)) = 0 then some (0 : Int32) else some (1 : Int32))
set_option maxRecDepth 100000 in
set_option maxHeartbeats 4000000 in
theorem eX7_has (x : GX) (C : GC x cX7_has RX7 rmX7_has) (N : xn x = 2) (qw : Nat) (qw1 : Nat) (w : Nat → Int64) (p0 : Int32) (o : Int32) (E : GE x (some .boolean) 0 0 (fun zv zw => zv = some (.int o) ∧ zw = [(qw, .inr (6, [.ref qw1])), (qw1, .inl ((xy x) 1, 8, .inr (.inl w)))])) (hf : fX7_has w p0 = some o)  : GW x 0 0 [(qw, .inr (6, [.ref qw1])), (qw1, .inl ((xy x) 1, 8, .inr (.inl w)))] [(0, .ref qw), (1, .int p0)] 0 [] := by
  unfold fX7_has at hf
  refine g_iload_n C (pc := 0) 1 dX7_has_0 rfl rfl ?_
  obtain ⟨y_1, h_1, hf⟩ := k_bd hf
  refine g_callS0N C (pc := 1) (As := [.int p0]) (rest := []) (v1 := (some (.int y_1))) (st' := [.int y_1]) lkX10_isState lNX7_23 C.2.2.2.2.2.1.2.1 (cX10_isState_k (xl x) (xD x) (xy x) p0 y_1 h_1) rfl ⟨⟨Nat.le_of_ble_eq_true rfl, Nat.le_of_ble_eq_true rfl⟩, ⟨rfl, rfl⟩, ⟨Nat.le_of_ble_eq_true rfl, Nat.le_of_ble_eq_true rfl⟩⟩ rfl (Nat.le_of_ble_eq_true rfl) rfl dX7_has_1 ?_
  refine g_if_eq C (pc := 4) 32 dX7_has_4 (by decide) (fun c_4 => ?_) (fun c_4 => ?_)
  · replace hf := (k_if hf).1 c_4
    refine g_iconst C (pc := 32) dX7_has_32 ck_iconst_0 ?_
    cases hf
    exact g_zret C E rfl (pc := 33) dX7_has_33 ⟨rfl, rfl⟩
  · replace hf := (k_if hf).2 c_4
    refine g_aload_n C (pc := 7) 0 dX7_has_7 rfl rfl ?_
    refine g_get C (pc := 8) lfX7_9 0 rfl rfl dX7_has_8 ?_
    refine g_iload_n C (pc := 11) 1 dX7_has_11 rfl rfl ?_
    refine g_bipush C (pc := 12) dX7_has_12 ck_bipush_6 ?_
    refine g_ishr C (pc := 14) dX7_has_14 ?_
    obtain ⟨i_15, hf⟩ := k_gd hf
    refine g_lald C (pc := 15) 1 rfl i_15 dX7_has_15 ?_
    refine g_iload_n C (pc := 16) 1 dX7_has_16 rfl rfl ?_
    refine g_bipush C (pc := 17) dX7_has_17 ck_bipush_63 ?_
    refine g_iand C (pc := 19) dX7_has_19 ?_
    refine g_lushr C (pc := 20) dX7_has_20 ?_
    refine g_lconst C (pc := 21) (v := 1) dX7_has_21 rfl ?_
    refine g_land C (pc := 22) dX7_has_22 ?_
    refine g_lconst C (pc := 23) (v := 0) dX7_has_23 rfl ?_
    refine g_lcmp C (pc := 24) dX7_has_24 ?_
    refine g_if_eq C (pc := 25) 32 dX7_has_25 (by decide) (fun c_25 => ?_) (fun c_25 => ?_)
    · replace hf := (k_if hf).1 c_25
      refine g_iconst C (pc := 32) dX7_has_32 ck_iconst_0 ?_
      cases hf
      exact g_zret C E rfl (pc := 33) dX7_has_33 ⟨rfl, rfl⟩
    · replace hf := (k_if hf).2 c_25
      refine g_iconst C (pc := 28) dX7_has_28 ck_iconst_1 ?_
      refine g_goto C (pc := 29) (tgt := 33) dX7_has_29 (by decide) ?_
      cases hf
      exact g_zret C E rfl (pc := 33) dX7_has_33 ⟨rfl, rfl⟩
set_option maxRecDepth 100000 in
theorem cX7_has_k (l : Launch) (D : va_G) (yy : Nat → ClassId) (qw : Nat) (qw1 : Nat) (w : Nat → Int64) (p0 : Int32) (o : Int32) (hf : fX7_has w p0 = some o) : GMet l yX7_has cX7_has 2 (some .boolean) rmX7_has 0 0 D yy [.ref qw, .int p0] [(qw, .inr (6, [.ref qw1])), (qw1, .inl (yy 1, 8, .inr (.inl w)))] (fun zv zw => zv = some (.int o) ∧ zw = [(qw, .inr (6, [.ref qw1])), (qw1, .inl (yy 1, 8, .inr (.inl w)))]) :=
  g_met (by decide +kernel) (Nat.le_of_ble_eq_true rfl) (fun x hl hD hy hn C E _ => by subst hD; subst hy; exact eX7_has x C hn qw qw1 w p0 o E hf)
def rmX7_add : Room := { frames := 1, cells := 0, slots := 0, locals := 20 }
def fX7_add (w : Nat → Int64) (p0 : Int32) : Option (Nat → Int64) :=
  bd (fX10_isState p0) fun y_1 : Int32 => if y_1 = 0 then some w else gd (gi (p0 >>> ((6 : Int32) &&& 31)) 8) (gd (gi (p0 >>> ((6 : Int32) &&& 31)) 8) (some (vp_updL w (ix (p0 >>> ((6 : Int32) &&& 31))) ((w (ix (p0 >>> ((6 : Int32) &&& 31)))) ||| ((1 : Int64) <<< ((p0 &&& (63 : Int32)).toInt64 &&& 63))))))
set_option maxRecDepth 100000 in
set_option maxHeartbeats 4000000 in
theorem eX7_add (x : GX) (C : GC x cX7_add RX7 rmX7_add) (N : xn x = 2) (qw : Nat) (qw1 : Nat) (w : Nat → Int64) (p0 : Int32) (o : Nat → Int64) (E : GE x none 0 0 (fun zv zw => zv = none ∧ zw = [(qw, .inr (6, [.ref qw1])), (qw1, .inl ((xy x) 1, 8, .inr (.inl o)))])) (hf : fX7_add w p0 = some o)  : GW x 0 0 [(qw, .inr (6, [.ref qw1])), (qw1, .inl ((xy x) 1, 8, .inr (.inl w)))] [(0, .ref qw), (1, .int p0)] 0 [] := by
  unfold fX7_add at hf
  refine g_iload_n C (pc := 0) 1 dX7_add_0 rfl rfl ?_
  obtain ⟨y_1, h_1, hf⟩ := k_bd hf
  refine g_callS0N C (pc := 1) (As := [.int p0]) (rest := []) (v1 := (some (.int y_1))) (st' := [.int y_1]) lkX10_isState lNX7_23 C.2.2.2.2.2.1.2.1 (cX10_isState_k (xl x) (xD x) (xy x) p0 y_1 h_1) rfl ⟨⟨Nat.le_of_ble_eq_true rfl, Nat.le_of_ble_eq_true rfl⟩, ⟨rfl, rfl⟩, ⟨Nat.le_of_ble_eq_true rfl, Nat.le_of_ble_eq_true rfl⟩⟩ rfl (Nat.le_of_ble_eq_true rfl) rfl dX7_add_1 ?_
  refine g_if_eq C (pc := 4) 25 dX7_add_4 (by decide) (fun c_4 => ?_) (fun c_4 => ?_)
  · replace hf := (k_if hf).1 c_4
    cases hf
    exact g_vret C E (pc := 25) dX7_add_25 ⟨rfl, rfl⟩
  · replace hf := (k_if hf).2 c_4
    refine g_aload_n C (pc := 7) 0 dX7_add_7 rfl rfl ?_
    refine g_get C (pc := 8) lfX7_9 0 rfl rfl dX7_add_8 ?_
    refine g_iload_n C (pc := 11) 1 dX7_add_11 rfl rfl ?_
    refine g_bipush C (pc := 12) dX7_add_12 ck_bipush_6 ?_
    refine g_ishr C (pc := 14) dX7_add_14 ?_
    refine g_dup2 C (pc := 15) dX7_add_15 rfl rfl ?_
    obtain ⟨i_16, hf⟩ := k_gd hf
    refine g_lald C (pc := 16) 1 rfl i_16 dX7_add_16 ?_
    refine g_lconst C (pc := 17) (v := 1) dX7_add_17 rfl ?_
    refine g_iload_n C (pc := 18) 1 dX7_add_18 rfl rfl ?_
    refine g_bipush C (pc := 19) dX7_add_19 ck_bipush_63 ?_
    refine g_iand C (pc := 21) dX7_add_21 ?_
    refine g_lshl C (pc := 22) dX7_add_22 ?_
    refine g_lor C (pc := 23) dX7_add_23 ?_
    obtain ⟨i_24, hf⟩ := k_gd hf
    refine g_last C (pc := 24) (ws' := [(qw, .inr (6, [.ref qw1])), (qw1, .inl ((xy x) 1, 8, .inr (.inl (vp_updL w (ix (p0 >>> ((6 : Int32) &&& 31))) ((w (ix (p0 >>> ((6 : Int32) &&& 31)))) ||| ((1 : Int64) <<< ((p0 &&& (63 : Int32)).toInt64 &&& 63)))))))]) 1 rfl i_24 rfl dX7_add_24 ?_
    cases hf
    exact g_vret C E (pc := 25) dX7_add_25 ⟨rfl, rfl⟩
set_option maxRecDepth 100000 in
theorem cX7_add_k (l : Launch) (D : va_G) (yy : Nat → ClassId) (qw : Nat) (qw1 : Nat) (w : Nat → Int64) (p0 : Int32) (o : Nat → Int64) (hf : fX7_add w p0 = some o) : GMet l yX7_add cX7_add 2 none rmX7_add 0 0 D yy [.ref qw, .int p0] [(qw, .inr (6, [.ref qw1])), (qw1, .inl (yy 1, 8, .inr (.inl w)))] (fun zv zw => zv = none ∧ zw = [(qw, .inr (6, [.ref qw1])), (qw1, .inl (yy 1, 8, .inr (.inl o)))]) :=
  g_met (by decide +kernel) (Nat.le_of_ble_eq_true rfl) (fun x hl hD hy hn C E _ => by subst hD; subst hy; exact eX7_add x C hn qw qw1 w p0 o E hf)
def rmJ13_bitCount_95d88 : Room := { frames := 0, cells := 0, slots := 0, locals := 0 }
def fJ13_bitCount_95d88 (p0 : Int64) : Option (Int32) :=
  some ((((((((((p0 - (((p0.toUInt64 >>> ((1 : Int32).toInt64.toUInt64 &&& Int64.toUInt64 63)).toInt64) &&& (6148914691236517205 : Int64))) &&& (3689348814741910323 : Int64)) + ((((p0 - (((p0.toUInt64 >>> ((1 : Int32).toInt64.toUInt64 &&& Int64.toUInt64 63)).toInt64) &&& (6148914691236517205 : Int64))).toUInt64 >>> ((2 : Int32).toInt64.toUInt64 &&& Int64.toUInt64 63)).toInt64) &&& (3689348814741910323 : Int64))) + (((((p0 - (((p0.toUInt64 >>> ((1 : Int32).toInt64.toUInt64 &&& Int64.toUInt64 63)).toInt64) &&& (6148914691236517205 : Int64))) &&& (3689348814741910323 : Int64)) + ((((p0 - (((p0.toUInt64 >>> ((1 : Int32).toInt64.toUInt64 &&& Int64.toUInt64 63)).toInt64) &&& (6148914691236517205 : Int64))).toUInt64 >>> ((2 : Int32).toInt64.toUInt64 &&& Int64.toUInt64 63)).toInt64) &&& (3689348814741910323 : Int64))).toUInt64 >>> ((4 : Int32).toInt64.toUInt64 &&& Int64.toUInt64 63)).toInt64)) &&& (1085102592571150095 : Int64)) + (((((((p0 - (((p0.toUInt64 >>> ((1 : Int32).toInt64.toUInt64 &&& Int64.toUInt64 63)).toInt64) &&& (6148914691236517205 : Int64))) &&& (3689348814741910323 : Int64)) + ((((p0 - (((p0.toUInt64 >>> ((1 : Int32).toInt64.toUInt64 &&& Int64.toUInt64 63)).toInt64) &&& (6148914691236517205 : Int64))).toUInt64 >>> ((2 : Int32).toInt64.toUInt64 &&& Int64.toUInt64 63)).toInt64) &&& (3689348814741910323 : Int64))) + (((((p0 - (((p0.toUInt64 >>> ((1 : Int32).toInt64.toUInt64 &&& Int64.toUInt64 63)).toInt64) &&& (6148914691236517205 : Int64))) &&& (3689348814741910323 : Int64)) + ((((p0 - (((p0.toUInt64 >>> ((1 : Int32).toInt64.toUInt64 &&& Int64.toUInt64 63)).toInt64) &&& (6148914691236517205 : Int64))).toUInt64 >>> ((2 : Int32).toInt64.toUInt64 &&& Int64.toUInt64 63)).toInt64) &&& (3689348814741910323 : Int64))).toUInt64 >>> ((4 : Int32).toInt64.toUInt64 &&& Int64.toUInt64 63)).toInt64)) &&& (1085102592571150095 : Int64)).toUInt64 >>> ((8 : Int32).toInt64.toUInt64 &&& Int64.toUInt64 63)).toInt64)) + ((((((((p0 - (((p0.toUInt64 >>> ((1 : Int32).toInt64.toUInt64 &&& Int64.toUInt64 63)).toInt64) &&& (6148914691236517205 : Int64))) &&& (3689348814741910323 : Int64)) + ((((p0 - (((p0.toUInt64 >>> ((1 : Int32).toInt64.toUInt64 &&& Int64.toUInt64 63)).toInt64) &&& (6148914691236517205 : Int64))).toUInt64 >>> ((2 : Int32).toInt64.toUInt64 &&& Int64.toUInt64 63)).toInt64) &&& (3689348814741910323 : Int64))) + (((((p0 - (((p0.toUInt64 >>> ((1 : Int32).toInt64.toUInt64 &&& Int64.toUInt64 63)).toInt64) &&& (6148914691236517205 : Int64))) &&& (3689348814741910323 : Int64)) + ((((p0 - (((p0.toUInt64 >>> ((1 : Int32).toInt64.toUInt64 &&& Int64.toUInt64 63)).toInt64) &&& (6148914691236517205 : Int64))).toUInt64 >>> ((2 : Int32).toInt64.toUInt64 &&& Int64.toUInt64 63)).toInt64) &&& (3689348814741910323 : Int64))).toUInt64 >>> ((4 : Int32).toInt64.toUInt64 &&& Int64.toUInt64 63)).toInt64)) &&& (1085102592571150095 : Int64)) + (((((((p0 - (((p0.toUInt64 >>> ((1 : Int32).toInt64.toUInt64 &&& Int64.toUInt64 63)).toInt64) &&& (6148914691236517205 : Int64))) &&& (3689348814741910323 : Int64)) + ((((p0 - (((p0.toUInt64 >>> ((1 : Int32).toInt64.toUInt64 &&& Int64.toUInt64 63)).toInt64) &&& (6148914691236517205 : Int64))).toUInt64 >>> ((2 : Int32).toInt64.toUInt64 &&& Int64.toUInt64 63)).toInt64) &&& (3689348814741910323 : Int64))) + (((((p0 - (((p0.toUInt64 >>> ((1 : Int32).toInt64.toUInt64 &&& Int64.toUInt64 63)).toInt64) &&& (6148914691236517205 : Int64))) &&& (3689348814741910323 : Int64)) + ((((p0 - (((p0.toUInt64 >>> ((1 : Int32).toInt64.toUInt64 &&& Int64.toUInt64 63)).toInt64) &&& (6148914691236517205 : Int64))).toUInt64 >>> ((2 : Int32).toInt64.toUInt64 &&& Int64.toUInt64 63)).toInt64) &&& (3689348814741910323 : Int64))).toUInt64 >>> ((4 : Int32).toInt64.toUInt64 &&& Int64.toUInt64 63)).toInt64)) &&& (1085102592571150095 : Int64)).toUInt64 >>> ((8 : Int32).toInt64.toUInt64 &&& Int64.toUInt64 63)).toInt64)).toUInt64 >>> ((16 : Int32).toInt64.toUInt64 &&& Int64.toUInt64 63)).toInt64)) + (((((((((p0 - (((p0.toUInt64 >>> ((1 : Int32).toInt64.toUInt64 &&& Int64.toUInt64 63)).toInt64) &&& (6148914691236517205 : Int64))) &&& (3689348814741910323 : Int64)) + ((((p0 - (((p0.toUInt64 >>> ((1 : Int32).toInt64.toUInt64 &&& Int64.toUInt64 63)).toInt64) &&& (6148914691236517205 : Int64))).toUInt64 >>> ((2 : Int32).toInt64.toUInt64 &&& Int64.toUInt64 63)).toInt64) &&& (3689348814741910323 : Int64))) + (((((p0 - (((p0.toUInt64 >>> ((1 : Int32).toInt64.toUInt64 &&& Int64.toUInt64 63)).toInt64) &&& (6148914691236517205 : Int64))) &&& (3689348814741910323 : Int64)) + ((((p0 - (((p0.toUInt64 >>> ((1 : Int32).toInt64.toUInt64 &&& Int64.toUInt64 63)).toInt64) &&& (6148914691236517205 : Int64))).toUInt64 >>> ((2 : Int32).toInt64.toUInt64 &&& Int64.toUInt64 63)).toInt64) &&& (3689348814741910323 : Int64))).toUInt64 >>> ((4 : Int32).toInt64.toUInt64 &&& Int64.toUInt64 63)).toInt64)) &&& (1085102592571150095 : Int64)) + (((((((p0 - (((p0.toUInt64 >>> ((1 : Int32).toInt64.toUInt64 &&& Int64.toUInt64 63)).toInt64) &&& (6148914691236517205 : Int64))) &&& (3689348814741910323 : Int64)) + ((((p0 - (((p0.toUInt64 >>> ((1 : Int32).toInt64.toUInt64 &&& Int64.toUInt64 63)).toInt64) &&& (6148914691236517205 : Int64))).toUInt64 >>> ((2 : Int32).toInt64.toUInt64 &&& Int64.toUInt64 63)).toInt64) &&& (3689348814741910323 : Int64))) + (((((p0 - (((p0.toUInt64 >>> ((1 : Int32).toInt64.toUInt64 &&& Int64.toUInt64 63)).toInt64) &&& (6148914691236517205 : Int64))) &&& (3689348814741910323 : Int64)) + ((((p0 - (((p0.toUInt64 >>> ((1 : Int32).toInt64.toUInt64 &&& Int64.toUInt64 63)).toInt64) &&& (6148914691236517205 : Int64))).toUInt64 >>> ((2 : Int32).toInt64.toUInt64 &&& Int64.toUInt64 63)).toInt64) &&& (3689348814741910323 : Int64))).toUInt64 >>> ((4 : Int32).toInt64.toUInt64 &&& Int64.toUInt64 63)).toInt64)) &&& (1085102592571150095 : Int64)).toUInt64 >>> ((8 : Int32).toInt64.toUInt64 &&& Int64.toUInt64 63)).toInt64)) + ((((((((p0 - (((p0.toUInt64 >>> ((1 : Int32).toInt64.toUInt64 &&& Int64.toUInt64 63)).toInt64) &&& (6148914691236517205 : Int64))) &&& (3689348814741910323 : Int64)) + ((((p0 - (((p0.toUInt64 >>> ((1 : Int32).toInt64.toUInt64 &&& Int64.toUInt64 63)).toInt64) &&& (6148914691236517205 : Int64))).toUInt64 >>> ((2 : Int32).toInt64.toUInt64 &&& Int64.toUInt64 63)).toInt64) &&& (3689348814741910323 : Int64))) + (((((p0 - (((p0.toUInt64 >>> ((1 : Int32).toInt64.toUInt64 &&& Int64.toUInt64 63)).toInt64) &&& (6148914691236517205 : Int64))) &&& (3689348814741910323 : Int64)) + ((((p0 - (((p0.toUInt64 >>> ((1 : Int32).toInt64.toUInt64 &&& Int64.toUInt64 63)).toInt64) &&& (6148914691236517205 : Int64))).toUInt64 >>> ((2 : Int32).toInt64.toUInt64 &&& Int64.toUInt64 63)).toInt64) &&& (3689348814741910323 : Int64))).toUInt64 >>> ((4 : Int32).toInt64.toUInt64 &&& Int64.toUInt64 63)).toInt64)) &&& (1085102592571150095 : Int64)) + (((((((p0 - (((p0.toUInt64 >>> ((1 : Int32).toInt64.toUInt64 &&& Int64.toUInt64 63)).toInt64) &&& (6148914691236517205 : Int64))) &&& (3689348814741910323 : Int64)) + ((((p0 - (((p0.toUInt64 >>> ((1 : Int32).toInt64.toUInt64 &&& Int64.toUInt64 63)).toInt64) &&& (6148914691236517205 : Int64))).toUInt64 >>> ((2 : Int32).toInt64.toUInt64 &&& Int64.toUInt64 63)).toInt64) &&& (3689348814741910323 : Int64))) + (((((p0 - (((p0.toUInt64 >>> ((1 : Int32).toInt64.toUInt64 &&& Int64.toUInt64 63)).toInt64) &&& (6148914691236517205 : Int64))) &&& (3689348814741910323 : Int64)) + ((((p0 - (((p0.toUInt64 >>> ((1 : Int32).toInt64.toUInt64 &&& Int64.toUInt64 63)).toInt64) &&& (6148914691236517205 : Int64))).toUInt64 >>> ((2 : Int32).toInt64.toUInt64 &&& Int64.toUInt64 63)).toInt64) &&& (3689348814741910323 : Int64))).toUInt64 >>> ((4 : Int32).toInt64.toUInt64 &&& Int64.toUInt64 63)).toInt64)) &&& (1085102592571150095 : Int64)).toUInt64 >>> ((8 : Int32).toInt64.toUInt64 &&& Int64.toUInt64 63)).toInt64)).toUInt64 >>> ((16 : Int32).toInt64.toUInt64 &&& Int64.toUInt64 63)).toInt64)).toUInt64 >>> ((32 : Int32).toInt64.toUInt64 &&& Int64.toUInt64 63)).toInt64)).toInt32) &&& (127 : Int32))
set_option maxRecDepth 100000 in
set_option maxHeartbeats 4000000 in
theorem eJ13_bitCount_95d88 (x : GX) (C : GC x cJ13_bitCount_95d88 RJ13 rmJ13_bitCount_95d88) (N : xn x = 2) (p0 : Int64) (o : Int32) (E : GE x (some .int) 0 0 (fun zv zw => zv = some (.int o) ∧ zw = [])) (hf : fJ13_bitCount_95d88 p0 = some o)  : GW x 0 0 [] [(0, .long p0)] 0 [] := by
  unfold fJ13_bitCount_95d88 at hf
  refine g_lload_n C (pc := 0) 0 dJ13_bitCount_95d88_0 rfl rfl ?_
  refine g_lload_n C (pc := 1) 0 dJ13_bitCount_95d88_1 rfl rfl ?_
  refine g_iconst C (pc := 2) dJ13_bitCount_95d88_2 ck_iconst_1 ?_
  refine g_lushr C (pc := 3) dJ13_bitCount_95d88_3 ?_
  refine g_ldc2 C (pc := 4) lcJ13_314 dJ13_bitCount_95d88_4 ?_
  refine g_land C (pc := 7) dJ13_bitCount_95d88_7 ?_
  refine g_lsub C (pc := 8) dJ13_bitCount_95d88_8 ?_
  refine g_lstore_n C (pc := 9) (lo' := [(0, .long (p0 - (((p0.toUInt64 >>> ((1 : Int32).toInt64.toUInt64 &&& Int64.toUInt64 63)).toInt64) &&& (6148914691236517205 : Int64))))]) dJ13_bitCount_95d88_9 rfl N rfl rfl ?_
  refine g_lload_n C (pc := 10) 0 dJ13_bitCount_95d88_10 rfl rfl ?_
  refine g_ldc2 C (pc := 11) lcJ13_316 dJ13_bitCount_95d88_11 ?_
  refine g_land C (pc := 14) dJ13_bitCount_95d88_14 ?_
  refine g_lload_n C (pc := 15) 0 dJ13_bitCount_95d88_15 rfl rfl ?_
  refine g_iconst C (pc := 16) dJ13_bitCount_95d88_16 ck_iconst_2 ?_
  refine g_lushr C (pc := 17) dJ13_bitCount_95d88_17 ?_
  refine g_ldc2 C (pc := 18) lcJ13_316 dJ13_bitCount_95d88_18 ?_
  refine g_land C (pc := 21) dJ13_bitCount_95d88_21 ?_
  refine g_ladd C (pc := 22) dJ13_bitCount_95d88_22 ?_
  refine g_lstore_n C (pc := 23) (lo' := [(0, .long (((p0 - (((p0.toUInt64 >>> ((1 : Int32).toInt64.toUInt64 &&& Int64.toUInt64 63)).toInt64) &&& (6148914691236517205 : Int64))) &&& (3689348814741910323 : Int64)) + ((((p0 - (((p0.toUInt64 >>> ((1 : Int32).toInt64.toUInt64 &&& Int64.toUInt64 63)).toInt64) &&& (6148914691236517205 : Int64))).toUInt64 >>> ((2 : Int32).toInt64.toUInt64 &&& Int64.toUInt64 63)).toInt64) &&& (3689348814741910323 : Int64))))]) dJ13_bitCount_95d88_23 rfl N rfl rfl ?_
  refine g_lload_n C (pc := 24) 0 dJ13_bitCount_95d88_24 rfl rfl ?_
  refine g_lload_n C (pc := 25) 0 dJ13_bitCount_95d88_25 rfl rfl ?_
  refine g_iconst C (pc := 26) dJ13_bitCount_95d88_26 ck_iconst_4 ?_
  refine g_lushr C (pc := 27) dJ13_bitCount_95d88_27 ?_
  refine g_ladd C (pc := 28) dJ13_bitCount_95d88_28 ?_
  refine g_ldc2 C (pc := 29) lcJ13_318 dJ13_bitCount_95d88_29 ?_
  refine g_land C (pc := 32) dJ13_bitCount_95d88_32 ?_
  refine g_lstore_n C (pc := 33) (lo' := [(0, .long (((((p0 - (((p0.toUInt64 >>> ((1 : Int32).toInt64.toUInt64 &&& Int64.toUInt64 63)).toInt64) &&& (6148914691236517205 : Int64))) &&& (3689348814741910323 : Int64)) + ((((p0 - (((p0.toUInt64 >>> ((1 : Int32).toInt64.toUInt64 &&& Int64.toUInt64 63)).toInt64) &&& (6148914691236517205 : Int64))).toUInt64 >>> ((2 : Int32).toInt64.toUInt64 &&& Int64.toUInt64 63)).toInt64) &&& (3689348814741910323 : Int64))) + (((((p0 - (((p0.toUInt64 >>> ((1 : Int32).toInt64.toUInt64 &&& Int64.toUInt64 63)).toInt64) &&& (6148914691236517205 : Int64))) &&& (3689348814741910323 : Int64)) + ((((p0 - (((p0.toUInt64 >>> ((1 : Int32).toInt64.toUInt64 &&& Int64.toUInt64 63)).toInt64) &&& (6148914691236517205 : Int64))).toUInt64 >>> ((2 : Int32).toInt64.toUInt64 &&& Int64.toUInt64 63)).toInt64) &&& (3689348814741910323 : Int64))).toUInt64 >>> ((4 : Int32).toInt64.toUInt64 &&& Int64.toUInt64 63)).toInt64)) &&& (1085102592571150095 : Int64)))]) dJ13_bitCount_95d88_33 rfl N rfl rfl ?_
  refine g_lload_n C (pc := 34) 0 dJ13_bitCount_95d88_34 rfl rfl ?_
  refine g_lload_n C (pc := 35) 0 dJ13_bitCount_95d88_35 rfl rfl ?_
  refine g_bipush C (pc := 36) dJ13_bitCount_95d88_36 ck_bipush_8 ?_
  refine g_lushr C (pc := 38) dJ13_bitCount_95d88_38 ?_
  refine g_ladd C (pc := 39) dJ13_bitCount_95d88_39 ?_
  refine g_lstore_n C (pc := 40) (lo' := [(0, .long ((((((p0 - (((p0.toUInt64 >>> ((1 : Int32).toInt64.toUInt64 &&& Int64.toUInt64 63)).toInt64) &&& (6148914691236517205 : Int64))) &&& (3689348814741910323 : Int64)) + ((((p0 - (((p0.toUInt64 >>> ((1 : Int32).toInt64.toUInt64 &&& Int64.toUInt64 63)).toInt64) &&& (6148914691236517205 : Int64))).toUInt64 >>> ((2 : Int32).toInt64.toUInt64 &&& Int64.toUInt64 63)).toInt64) &&& (3689348814741910323 : Int64))) + (((((p0 - (((p0.toUInt64 >>> ((1 : Int32).toInt64.toUInt64 &&& Int64.toUInt64 63)).toInt64) &&& (6148914691236517205 : Int64))) &&& (3689348814741910323 : Int64)) + ((((p0 - (((p0.toUInt64 >>> ((1 : Int32).toInt64.toUInt64 &&& Int64.toUInt64 63)).toInt64) &&& (6148914691236517205 : Int64))).toUInt64 >>> ((2 : Int32).toInt64.toUInt64 &&& Int64.toUInt64 63)).toInt64) &&& (3689348814741910323 : Int64))).toUInt64 >>> ((4 : Int32).toInt64.toUInt64 &&& Int64.toUInt64 63)).toInt64)) &&& (1085102592571150095 : Int64)) + (((((((p0 - (((p0.toUInt64 >>> ((1 : Int32).toInt64.toUInt64 &&& Int64.toUInt64 63)).toInt64) &&& (6148914691236517205 : Int64))) &&& (3689348814741910323 : Int64)) + ((((p0 - (((p0.toUInt64 >>> ((1 : Int32).toInt64.toUInt64 &&& Int64.toUInt64 63)).toInt64) &&& (6148914691236517205 : Int64))).toUInt64 >>> ((2 : Int32).toInt64.toUInt64 &&& Int64.toUInt64 63)).toInt64) &&& (3689348814741910323 : Int64))) + (((((p0 - (((p0.toUInt64 >>> ((1 : Int32).toInt64.toUInt64 &&& Int64.toUInt64 63)).toInt64) &&& (6148914691236517205 : Int64))) &&& (3689348814741910323 : Int64)) + ((((p0 - (((p0.toUInt64 >>> ((1 : Int32).toInt64.toUInt64 &&& Int64.toUInt64 63)).toInt64) &&& (6148914691236517205 : Int64))).toUInt64 >>> ((2 : Int32).toInt64.toUInt64 &&& Int64.toUInt64 63)).toInt64) &&& (3689348814741910323 : Int64))).toUInt64 >>> ((4 : Int32).toInt64.toUInt64 &&& Int64.toUInt64 63)).toInt64)) &&& (1085102592571150095 : Int64)).toUInt64 >>> ((8 : Int32).toInt64.toUInt64 &&& Int64.toUInt64 63)).toInt64)))]) dJ13_bitCount_95d88_40 rfl N rfl rfl ?_
  refine g_lload_n C (pc := 41) 0 dJ13_bitCount_95d88_41 rfl rfl ?_
  refine g_lload_n C (pc := 42) 0 dJ13_bitCount_95d88_42 rfl rfl ?_
  refine g_bipush C (pc := 43) dJ13_bitCount_95d88_43 ck_bipush_16 ?_
  refine g_lushr C (pc := 45) dJ13_bitCount_95d88_45 ?_
  refine g_ladd C (pc := 46) dJ13_bitCount_95d88_46 ?_
  refine g_lstore_n C (pc := 47) (lo' := [(0, .long (((((((p0 - (((p0.toUInt64 >>> ((1 : Int32).toInt64.toUInt64 &&& Int64.toUInt64 63)).toInt64) &&& (6148914691236517205 : Int64))) &&& (3689348814741910323 : Int64)) + ((((p0 - (((p0.toUInt64 >>> ((1 : Int32).toInt64.toUInt64 &&& Int64.toUInt64 63)).toInt64) &&& (6148914691236517205 : Int64))).toUInt64 >>> ((2 : Int32).toInt64.toUInt64 &&& Int64.toUInt64 63)).toInt64) &&& (3689348814741910323 : Int64))) + (((((p0 - (((p0.toUInt64 >>> ((1 : Int32).toInt64.toUInt64 &&& Int64.toUInt64 63)).toInt64) &&& (6148914691236517205 : Int64))) &&& (3689348814741910323 : Int64)) + ((((p0 - (((p0.toUInt64 >>> ((1 : Int32).toInt64.toUInt64 &&& Int64.toUInt64 63)).toInt64) &&& (6148914691236517205 : Int64))).toUInt64 >>> ((2 : Int32).toInt64.toUInt64 &&& Int64.toUInt64 63)).toInt64) &&& (3689348814741910323 : Int64))).toUInt64 >>> ((4 : Int32).toInt64.toUInt64 &&& Int64.toUInt64 63)).toInt64)) &&& (1085102592571150095 : Int64)) + (((((((p0 - (((p0.toUInt64 >>> ((1 : Int32).toInt64.toUInt64 &&& Int64.toUInt64 63)).toInt64) &&& (6148914691236517205 : Int64))) &&& (3689348814741910323 : Int64)) + ((((p0 - (((p0.toUInt64 >>> ((1 : Int32).toInt64.toUInt64 &&& Int64.toUInt64 63)).toInt64) &&& (6148914691236517205 : Int64))).toUInt64 >>> ((2 : Int32).toInt64.toUInt64 &&& Int64.toUInt64 63)).toInt64) &&& (3689348814741910323 : Int64))) + (((((p0 - (((p0.toUInt64 >>> ((1 : Int32).toInt64.toUInt64 &&& Int64.toUInt64 63)).toInt64) &&& (6148914691236517205 : Int64))) &&& (3689348814741910323 : Int64)) + ((((p0 - (((p0.toUInt64 >>> ((1 : Int32).toInt64.toUInt64 &&& Int64.toUInt64 63)).toInt64) &&& (6148914691236517205 : Int64))).toUInt64 >>> ((2 : Int32).toInt64.toUInt64 &&& Int64.toUInt64 63)).toInt64) &&& (3689348814741910323 : Int64))).toUInt64 >>> ((4 : Int32).toInt64.toUInt64 &&& Int64.toUInt64 63)).toInt64)) &&& (1085102592571150095 : Int64)).toUInt64 >>> ((8 : Int32).toInt64.toUInt64 &&& Int64.toUInt64 63)).toInt64)) + ((((((((p0 - (((p0.toUInt64 >>> ((1 : Int32).toInt64.toUInt64 &&& Int64.toUInt64 63)).toInt64) &&& (6148914691236517205 : Int64))) &&& (3689348814741910323 : Int64)) + ((((p0 - (((p0.toUInt64 >>> ((1 : Int32).toInt64.toUInt64 &&& Int64.toUInt64 63)).toInt64) &&& (6148914691236517205 : Int64))).toUInt64 >>> ((2 : Int32).toInt64.toUInt64 &&& Int64.toUInt64 63)).toInt64) &&& (3689348814741910323 : Int64))) + (((((p0 - (((p0.toUInt64 >>> ((1 : Int32).toInt64.toUInt64 &&& Int64.toUInt64 63)).toInt64) &&& (6148914691236517205 : Int64))) &&& (3689348814741910323 : Int64)) + ((((p0 - (((p0.toUInt64 >>> ((1 : Int32).toInt64.toUInt64 &&& Int64.toUInt64 63)).toInt64) &&& (6148914691236517205 : Int64))).toUInt64 >>> ((2 : Int32).toInt64.toUInt64 &&& Int64.toUInt64 63)).toInt64) &&& (3689348814741910323 : Int64))).toUInt64 >>> ((4 : Int32).toInt64.toUInt64 &&& Int64.toUInt64 63)).toInt64)) &&& (1085102592571150095 : Int64)) + (((((((p0 - (((p0.toUInt64 >>> ((1 : Int32).toInt64.toUInt64 &&& Int64.toUInt64 63)).toInt64) &&& (6148914691236517205 : Int64))) &&& (3689348814741910323 : Int64)) + ((((p0 - (((p0.toUInt64 >>> ((1 : Int32).toInt64.toUInt64 &&& Int64.toUInt64 63)).toInt64) &&& (6148914691236517205 : Int64))).toUInt64 >>> ((2 : Int32).toInt64.toUInt64 &&& Int64.toUInt64 63)).toInt64) &&& (3689348814741910323 : Int64))) + (((((p0 - (((p0.toUInt64 >>> ((1 : Int32).toInt64.toUInt64 &&& Int64.toUInt64 63)).toInt64) &&& (6148914691236517205 : Int64))) &&& (3689348814741910323 : Int64)) + ((((p0 - (((p0.toUInt64 >>> ((1 : Int32).toInt64.toUInt64 &&& Int64.toUInt64 63)).toInt64) &&& (6148914691236517205 : Int64))).toUInt64 >>> ((2 : Int32).toInt64.toUInt64 &&& Int64.toUInt64 63)).toInt64) &&& (3689348814741910323 : Int64))).toUInt64 >>> ((4 : Int32).toInt64.toUInt64 &&& Int64.toUInt64 63)).toInt64)) &&& (1085102592571150095 : Int64)).toUInt64 >>> ((8 : Int32).toInt64.toUInt64 &&& Int64.toUInt64 63)).toInt64)).toUInt64 >>> ((16 : Int32).toInt64.toUInt64 &&& Int64.toUInt64 63)).toInt64)))]) dJ13_bitCount_95d88_47 rfl N rfl rfl ?_
  refine g_lload_n C (pc := 48) 0 dJ13_bitCount_95d88_48 rfl rfl ?_
  refine g_lload_n C (pc := 49) 0 dJ13_bitCount_95d88_49 rfl rfl ?_
  refine g_bipush C (pc := 50) dJ13_bitCount_95d88_50 ck_bipush_32 ?_
  refine g_lushr C (pc := 52) dJ13_bitCount_95d88_52 ?_
  refine g_ladd C (pc := 53) dJ13_bitCount_95d88_53 ?_
  refine g_lstore_n C (pc := 54) (lo' := [(0, .long ((((((((p0 - (((p0.toUInt64 >>> ((1 : Int32).toInt64.toUInt64 &&& Int64.toUInt64 63)).toInt64) &&& (6148914691236517205 : Int64))) &&& (3689348814741910323 : Int64)) + ((((p0 - (((p0.toUInt64 >>> ((1 : Int32).toInt64.toUInt64 &&& Int64.toUInt64 63)).toInt64) &&& (6148914691236517205 : Int64))).toUInt64 >>> ((2 : Int32).toInt64.toUInt64 &&& Int64.toUInt64 63)).toInt64) &&& (3689348814741910323 : Int64))) + (((((p0 - (((p0.toUInt64 >>> ((1 : Int32).toInt64.toUInt64 &&& Int64.toUInt64 63)).toInt64) &&& (6148914691236517205 : Int64))) &&& (3689348814741910323 : Int64)) + ((((p0 - (((p0.toUInt64 >>> ((1 : Int32).toInt64.toUInt64 &&& Int64.toUInt64 63)).toInt64) &&& (6148914691236517205 : Int64))).toUInt64 >>> ((2 : Int32).toInt64.toUInt64 &&& Int64.toUInt64 63)).toInt64) &&& (3689348814741910323 : Int64))).toUInt64 >>> ((4 : Int32).toInt64.toUInt64 &&& Int64.toUInt64 63)).toInt64)) &&& (1085102592571150095 : Int64)) + (((((((p0 - (((p0.toUInt64 >>> ((1 : Int32).toInt64.toUInt64 &&& Int64.toUInt64 63)).toInt64) &&& (6148914691236517205 : Int64))) &&& (3689348814741910323 : Int64)) + ((((p0 - (((p0.toUInt64 >>> ((1 : Int32).toInt64.toUInt64 &&& Int64.toUInt64 63)).toInt64) &&& (6148914691236517205 : Int64))).toUInt64 >>> ((2 : Int32).toInt64.toUInt64 &&& Int64.toUInt64 63)).toInt64) &&& (3689348814741910323 : Int64))) + (((((p0 - (((p0.toUInt64 >>> ((1 : Int32).toInt64.toUInt64 &&& Int64.toUInt64 63)).toInt64) &&& (6148914691236517205 : Int64))) &&& (3689348814741910323 : Int64)) + ((((p0 - (((p0.toUInt64 >>> ((1 : Int32).toInt64.toUInt64 &&& Int64.toUInt64 63)).toInt64) &&& (6148914691236517205 : Int64))).toUInt64 >>> ((2 : Int32).toInt64.toUInt64 &&& Int64.toUInt64 63)).toInt64) &&& (3689348814741910323 : Int64))).toUInt64 >>> ((4 : Int32).toInt64.toUInt64 &&& Int64.toUInt64 63)).toInt64)) &&& (1085102592571150095 : Int64)).toUInt64 >>> ((8 : Int32).toInt64.toUInt64 &&& Int64.toUInt64 63)).toInt64)) + ((((((((p0 - (((p0.toUInt64 >>> ((1 : Int32).toInt64.toUInt64 &&& Int64.toUInt64 63)).toInt64) &&& (6148914691236517205 : Int64))) &&& (3689348814741910323 : Int64)) + ((((p0 - (((p0.toUInt64 >>> ((1 : Int32).toInt64.toUInt64 &&& Int64.toUInt64 63)).toInt64) &&& (6148914691236517205 : Int64))).toUInt64 >>> ((2 : Int32).toInt64.toUInt64 &&& Int64.toUInt64 63)).toInt64) &&& (3689348814741910323 : Int64))) + (((((p0 - (((p0.toUInt64 >>> ((1 : Int32).toInt64.toUInt64 &&& Int64.toUInt64 63)).toInt64) &&& (6148914691236517205 : Int64))) &&& (3689348814741910323 : Int64)) + ((((p0 - (((p0.toUInt64 >>> ((1 : Int32).toInt64.toUInt64 &&& Int64.toUInt64 63)).toInt64) &&& (6148914691236517205 : Int64))).toUInt64 >>> ((2 : Int32).toInt64.toUInt64 &&& Int64.toUInt64 63)).toInt64) &&& (3689348814741910323 : Int64))).toUInt64 >>> ((4 : Int32).toInt64.toUInt64 &&& Int64.toUInt64 63)).toInt64)) &&& (1085102592571150095 : Int64)) + (((((((p0 - (((p0.toUInt64 >>> ((1 : Int32).toInt64.toUInt64 &&& Int64.toUInt64 63)).toInt64) &&& (6148914691236517205 : Int64))) &&& (3689348814741910323 : Int64)) + ((((p0 - (((p0.toUInt64 >>> ((1 : Int32).toInt64.toUInt64 &&& Int64.toUInt64 63)).toInt64) &&& (6148914691236517205 : Int64))).toUInt64 >>> ((2 : Int32).toInt64.toUInt64 &&& Int64.toUInt64 63)).toInt64) &&& (3689348814741910323 : Int64))) + (((((p0 - (((p0.toUInt64 >>> ((1 : Int32).toInt64.toUInt64 &&& Int64.toUInt64 63)).toInt64) &&& (6148914691236517205 : Int64))) &&& (3689348814741910323 : Int64)) + ((((p0 - (((p0.toUInt64 >>> ((1 : Int32).toInt64.toUInt64 &&& Int64.toUInt64 63)).toInt64) &&& (6148914691236517205 : Int64))).toUInt64 >>> ((2 : Int32).toInt64.toUInt64 &&& Int64.toUInt64 63)).toInt64) &&& (3689348814741910323 : Int64))).toUInt64 >>> ((4 : Int32).toInt64.toUInt64 &&& Int64.toUInt64 63)).toInt64)) &&& (1085102592571150095 : Int64)).toUInt64 >>> ((8 : Int32).toInt64.toUInt64 &&& Int64.toUInt64 63)).toInt64)).toUInt64 >>> ((16 : Int32).toInt64.toUInt64 &&& Int64.toUInt64 63)).toInt64)) + (((((((((p0 - (((p0.toUInt64 >>> ((1 : Int32).toInt64.toUInt64 &&& Int64.toUInt64 63)).toInt64) &&& (6148914691236517205 : Int64))) &&& (3689348814741910323 : Int64)) + ((((p0 - (((p0.toUInt64 >>> ((1 : Int32).toInt64.toUInt64 &&& Int64.toUInt64 63)).toInt64) &&& (6148914691236517205 : Int64))).toUInt64 >>> ((2 : Int32).toInt64.toUInt64 &&& Int64.toUInt64 63)).toInt64) &&& (3689348814741910323 : Int64))) + (((((p0 - (((p0.toUInt64 >>> ((1 : Int32).toInt64.toUInt64 &&& Int64.toUInt64 63)).toInt64) &&& (6148914691236517205 : Int64))) &&& (3689348814741910323 : Int64)) + ((((p0 - (((p0.toUInt64 >>> ((1 : Int32).toInt64.toUInt64 &&& Int64.toUInt64 63)).toInt64) &&& (6148914691236517205 : Int64))).toUInt64 >>> ((2 : Int32).toInt64.toUInt64 &&& Int64.toUInt64 63)).toInt64) &&& (3689348814741910323 : Int64))).toUInt64 >>> ((4 : Int32).toInt64.toUInt64 &&& Int64.toUInt64 63)).toInt64)) &&& (1085102592571150095 : Int64)) + (((((((p0 - (((p0.toUInt64 >>> ((1 : Int32).toInt64.toUInt64 &&& Int64.toUInt64 63)).toInt64) &&& (6148914691236517205 : Int64))) &&& (3689348814741910323 : Int64)) + ((((p0 - (((p0.toUInt64 >>> ((1 : Int32).toInt64.toUInt64 &&& Int64.toUInt64 63)).toInt64) &&& (6148914691236517205 : Int64))).toUInt64 >>> ((2 : Int32).toInt64.toUInt64 &&& Int64.toUInt64 63)).toInt64) &&& (3689348814741910323 : Int64))) + (((((p0 - (((p0.toUInt64 >>> ((1 : Int32).toInt64.toUInt64 &&& Int64.toUInt64 63)).toInt64) &&& (6148914691236517205 : Int64))) &&& (3689348814741910323 : Int64)) + ((((p0 - (((p0.toUInt64 >>> ((1 : Int32).toInt64.toUInt64 &&& Int64.toUInt64 63)).toInt64) &&& (6148914691236517205 : Int64))).toUInt64 >>> ((2 : Int32).toInt64.toUInt64 &&& Int64.toUInt64 63)).toInt64) &&& (3689348814741910323 : Int64))).toUInt64 >>> ((4 : Int32).toInt64.toUInt64 &&& Int64.toUInt64 63)).toInt64)) &&& (1085102592571150095 : Int64)).toUInt64 >>> ((8 : Int32).toInt64.toUInt64 &&& Int64.toUInt64 63)).toInt64)) + ((((((((p0 - (((p0.toUInt64 >>> ((1 : Int32).toInt64.toUInt64 &&& Int64.toUInt64 63)).toInt64) &&& (6148914691236517205 : Int64))) &&& (3689348814741910323 : Int64)) + ((((p0 - (((p0.toUInt64 >>> ((1 : Int32).toInt64.toUInt64 &&& Int64.toUInt64 63)).toInt64) &&& (6148914691236517205 : Int64))).toUInt64 >>> ((2 : Int32).toInt64.toUInt64 &&& Int64.toUInt64 63)).toInt64) &&& (3689348814741910323 : Int64))) + (((((p0 - (((p0.toUInt64 >>> ((1 : Int32).toInt64.toUInt64 &&& Int64.toUInt64 63)).toInt64) &&& (6148914691236517205 : Int64))) &&& (3689348814741910323 : Int64)) + ((((p0 - (((p0.toUInt64 >>> ((1 : Int32).toInt64.toUInt64 &&& Int64.toUInt64 63)).toInt64) &&& (6148914691236517205 : Int64))).toUInt64 >>> ((2 : Int32).toInt64.toUInt64 &&& Int64.toUInt64 63)).toInt64) &&& (3689348814741910323 : Int64))).toUInt64 >>> ((4 : Int32).toInt64.toUInt64 &&& Int64.toUInt64 63)).toInt64)) &&& (1085102592571150095 : Int64)) + (((((((p0 - (((p0.toUInt64 >>> ((1 : Int32).toInt64.toUInt64 &&& Int64.toUInt64 63)).toInt64) &&& (6148914691236517205 : Int64))) &&& (3689348814741910323 : Int64)) + ((((p0 - (((p0.toUInt64 >>> ((1 : Int32).toInt64.toUInt64 &&& Int64.toUInt64 63)).toInt64) &&& (6148914691236517205 : Int64))).toUInt64 >>> ((2 : Int32).toInt64.toUInt64 &&& Int64.toUInt64 63)).toInt64) &&& (3689348814741910323 : Int64))) + (((((p0 - (((p0.toUInt64 >>> ((1 : Int32).toInt64.toUInt64 &&& Int64.toUInt64 63)).toInt64) &&& (6148914691236517205 : Int64))) &&& (3689348814741910323 : Int64)) + ((((p0 - (((p0.toUInt64 >>> ((1 : Int32).toInt64.toUInt64 &&& Int64.toUInt64 63)).toInt64) &&& (6148914691236517205 : Int64))).toUInt64 >>> ((2 : Int32).toInt64.toUInt64 &&& Int64.toUInt64 63)).toInt64) &&& (3689348814741910323 : Int64))).toUInt64 >>> ((4 : Int32).toInt64.toUInt64 &&& Int64.toUInt64 63)).toInt64)) &&& (1085102592571150095 : Int64)).toUInt64 >>> ((8 : Int32).toInt64.toUInt64 &&& Int64.toUInt64 63)).toInt64)).toUInt64 >>> ((16 : Int32).toInt64.toUInt64 &&& Int64.toUInt64 63)).toInt64)).toUInt64 >>> ((32 : Int32).toInt64.toUInt64 &&& Int64.toUInt64 63)).toInt64)))]) dJ13_bitCount_95d88_54 rfl N rfl rfl ?_
  refine g_lload_n C (pc := 55) 0 dJ13_bitCount_95d88_55 rfl rfl ?_
  refine g_l2i C (pc := 56) dJ13_bitCount_95d88_56 ?_
  refine g_bipush C (pc := 57) dJ13_bitCount_95d88_57 ck_bipush_127 ?_
  refine g_iand C (pc := 59) dJ13_bitCount_95d88_59 ?_
  cases hf
  exact g_iret C E (pc := 60) dJ13_bitCount_95d88_60 ⟨rfl, rfl⟩
set_option maxRecDepth 100000 in
theorem cJ13_bitCount_95d88_k (l : Launch) (D : va_G) (yy : Nat → ClassId) (p0 : Int64) (o : Int32) (hf : fJ13_bitCount_95d88 p0 = some o) : GMet l yJ13_bitCount_95d88 cJ13_bitCount_95d88 2 (some .int) rmJ13_bitCount_95d88 0 0 D yy [.long p0] [] (fun zv zw => zv = some (.int o) ∧ zw = []) :=
  g_met (by decide +kernel) (Nat.le_of_ble_eq_true rfl) (fun x hl hD hy hn C E _ => by subst hD; subst hy; exact eJ13_bitCount_95d88 x C hn p0 o E hf)
def rmX7_size : Room := { frames := 1, cells := 0, slots := 0, locals := 21 }
def gX7_size_4 (w : Nat → Int64) (a_4 : Int32 × Int32) : Option ((Int32 × Int32) ⊕ (Int32 × Int32)) :=
  if (8 : Int32) ≤ a_4.2 then some (.inr (a_4.1, a_4.2)) else gd (gi a_4.2 8) (bd (fJ13_bitCount_95d88 (w (ix a_4.2))) fun y_20 : Int32 => some (.inl (a_4.1 + y_20, a_4.2 + 1)))
set_option maxRecDepth 100000 in
set_option maxHeartbeats 4000000 in
theorem bX7_size_4 (x : GX) (C : GC x cX7_size RX7 rmX7_size) (N : xn x = 3) (qw : Nat) (qw1 : Nat) (w : Nat → Int64) (a_4 : Int32 × Int32) (r : (Int32 × Int32) ⊕ (Int32 × Int32))  (hf : gX7_size_4 w a_4 = some r) (kn : ∀ e : Int32 × Int32, r = .inl e → GW x 0 0 [(qw, .inr (6, [.ref qw1])), (qw1, .inl ((xy x) 1, 8, .inr (.inl w)))] [(0, .ref qw), (1, .int e.1), (2, .int e.2)] 4 []) (kx : ∀ e : Int32 × Int32, r = .inr e → GW x 0 0 [(qw, .inr (6, [.ref qw1])), (qw1, .inl ((xy x) 1, 8, .inr (.inl w)))] [(1, .int e.1)] 31 []) : GW x 0 0 [(qw, .inr (6, [.ref qw1])), (qw1, .inl ((xy x) 1, 8, .inr (.inl w)))] [(0, .ref qw), (1, .int a_4.1), (2, .int a_4.2)] 4 [] := by
  unfold gX7_size_4 at hf
  refine g_iload_n C (pc := 4) 2 dX7_size_4 rfl rfl ?_
  refine g_aload_n C (pc := 5) 0 dX7_size_5 rfl rfl ?_
  refine g_get C (pc := 6) lfX7_9 0 rfl rfl dX7_size_6 ?_
  refine g_alen C (pc := 9) (v := 8) 1 1 rfl rfl ck_len_8 dX7_size_9 ?_
  refine g_icmp_ge C (pc := 10) 31 dX7_size_10 (by decide) (fun c_10 => ?_) (fun c_10 => ?_)
  · replace hf := (k_if hf).1 c_10
    cases hf
    exact g_lo [1] rfl (kx (a_4.1, a_4.2) rfl)
  · replace hf := (k_if hf).2 c_10
    refine g_iload_n C (pc := 13) 1 dX7_size_13 rfl rfl ?_
    refine g_aload_n C (pc := 14) 0 dX7_size_14 rfl rfl ?_
    refine g_get C (pc := 15) lfX7_9 0 rfl rfl dX7_size_15 ?_
    refine g_iload_n C (pc := 18) 2 dX7_size_18 rfl rfl ?_
    obtain ⟨i_19, hf⟩ := k_gd hf
    refine g_lald C (pc := 19) 1 rfl i_19 dX7_size_19 ?_
    obtain ⟨y_20, h_20, hf⟩ := k_bd hf
    refine g_callS0 C (pc := 20) (As := [.long (w (ix a_4.2))]) (rest := [.int a_4.1]) (v1 := (some (.int y_20))) (st' := [.int y_20, .int a_4.1]) lkJ13_bitCount_95d88 lSX7_27 (cJ13_bitCount_95d88_k (xl x) (xD x) (xy x) (w (ix a_4.2)) y_20 h_20) rfl ⟨⟨Nat.le_of_ble_eq_true rfl, Nat.le_of_ble_eq_true rfl⟩, ⟨rfl, rfl⟩, ⟨Nat.le_of_ble_eq_true rfl, Nat.le_of_ble_eq_true rfl⟩⟩ rfl (Nat.le_of_ble_eq_true rfl) rfl dX7_size_20 ?_
    refine g_iadd C (pc := 23) dX7_size_23 ?_
    refine g_istore_n C (pc := 24) (lo' := [(1, .int (a_4.1 + y_20)), (0, .ref qw), (2, .int a_4.2)]) dX7_size_24 rfl N rfl rfl ?_
    refine g_iinc C (pc := 25) (v := a_4.2 + 1) (lo' := [(2, .int (a_4.2 + 1)), (1, .int (a_4.1 + y_20)), (0, .ref qw)]) 2 dX7_size_25 rfl (congrArg (HAdd.hAdd _) ck_iinc_1) N rfl rfl ?_
    refine g_goto C (pc := 28) (tgt := 4) dX7_size_28 (by decide) ?_
    cases hf
    exact g_lo [2, 1, 0] rfl (kn (a_4.1 + y_20, a_4.2 + 1) rfl)
def fX7_size (w : Nat → Int64) : Option (Int32) :=
  bd (iter (gX7_size_4 w) FU ((0 : Int32), (0 : Int32))) fun b_4 : Int32 × Int32 => some b_4.1
set_option maxRecDepth 100000 in
set_option maxHeartbeats 4000000 in
theorem eX7_size (x : GX) (C : GC x cX7_size RX7 rmX7_size) (N : xn x = 3) (qw : Nat) (qw1 : Nat) (w : Nat → Int64) (o : Int32) (E : GE x (some .int) 0 0 (fun zv zw => zv = some (.int o) ∧ zw = [(qw, .inr (6, [.ref qw1])), (qw1, .inl ((xy x) 1, 8, .inr (.inl w)))])) (hf : fX7_size w = some o)  : GW x 0 0 [(qw, .inr (6, [.ref qw1])), (qw1, .inl ((xy x) 1, 8, .inr (.inl w)))] [(0, .ref qw)] 0 [] := by
  unfold fX7_size at hf
  refine g_iconst C (pc := 0) dX7_size_0 ck_iconst_0 ?_
  refine g_istore_n C (pc := 1) (lo' := [(1, .int (0 : Int32)), (0, .ref qw)]) dX7_size_1 rfl N rfl rfl ?_
  refine g_iconst C (pc := 2) dX7_size_2 ck_iconst_0 ?_
  refine g_istore_n C (pc := 3) (lo' := [(2, .int (0 : Int32)), (1, .int (0 : Int32)), (0, .ref qw)]) dX7_size_3 rfl N rfl rfl ?_
  obtain ⟨b_4, hb_4, hf⟩ := k_bd hf
  refine g_lo [2, 1, 0] rfl ?_
  refine g_loop (g := (gX7_size_4 w)) (fun e : Int32 × Int32 => [(qw, .inr (6, [.ref qw1])), (qw1, .inl ((xy x) 1, 8, .inr (.inl w)))]) (fun e : Int32 × Int32 => [(0, .ref qw), (1, .int e.1), (2, .int e.2)]) 4 (fun e : Int32 × Int32 => GW x 0 0 [(qw, .inr (6, [.ref qw1])), (qw1, .inl ((xy x) 1, 8, .inr (.inl w)))] [(1, .int e.1)] 31 []) (fun a r hg kn kx => bX7_size_4 x C N qw qw1 w a r hg kn kx) FU _ b_4 hb_4 ?_
  refine g_iload_n C (pc := 31) 0 dX7_size_31 rfl rfl ?_
  cases hf
  exact g_iret C E (pc := 32) dX7_size_32 ⟨rfl, rfl⟩
set_option maxRecDepth 100000 in
theorem cX7_size_k (l : Launch) (D : va_G) (yy : Nat → ClassId) (qw : Nat) (qw1 : Nat) (w : Nat → Int64) (o : Int32) (hf : fX7_size w = some o) : GMet l yX7_size cX7_size 3 (some .int) rmX7_size 0 0 D yy [.ref qw] [(qw, .inr (6, [.ref qw1])), (qw1, .inl (yy 1, 8, .inr (.inl w)))] (fun zv zw => zv = some (.int o) ∧ zw = [(qw, .inr (6, [.ref qw1])), (qw1, .inl (yy 1, 8, .inr (.inl w)))]) :=
  g_met (by decide +kernel) (Nat.le_of_ble_eq_true rfl) (fun x hl hD hy hn C E _ => by subst hD; subst hy; exact eX7_size x C hn qw qw1 w o E hf)
def rmX7_firstMiss : Room := { frames := 2, cells := 0, slots := 0, locals := 46 }
def gX7_firstMiss_2 (w : Nat → Int64) (p0 : Int32) (a_2 : Int32) : Option ((Int32) ⊕ ((Int32) ⊕ (Int32))) :=
  if (512 : Int32) ≤ a_2 then some (.inr (.inl a_2)) else bd (fX7_has w a_2) fun y_11 : Int32 => if y_11 = 0 then some (.inl (a_2 + 1)) else bd (fX1_isMetBy p0 a_2) fun y_19 : Int32 => if y_19 = 0 then some (.inr (.inr a_2)) else some (.inl (a_2 + 1))
set_option maxRecDepth 100000 in
set_option maxHeartbeats 4000000 in
theorem bX7_firstMiss_2 (x : GX) (C : GC x cX7_firstMiss RX7 rmX7_firstMiss) (N : xn x = 3) (qw : Nat) (qw1 : Nat) (w : Nat → Int64) (p0 : Int32) (a_2 : Int32) (o : Int32) (r : (Int32) ⊕ ((Int32) ⊕ (Int32))) (E : GE x (some .int) 0 0 (fun zv zw => zv = some (.int o) ∧ zw = [(qw, .inr (6, [.ref qw1])), (qw1, .inl ((xy x) 1, 8, .inr (.inl w)))])) (hf : gX7_firstMiss_2 w p0 a_2 = some r) (kn : ∀ e : Int32, r = .inl e → GW x 0 0 [(qw, .inr (6, [.ref qw1])), (qw1, .inl ((xy x) 1, 8, .inr (.inl w)))] [(0, .ref qw), (1, .int p0), (2, .int e)] 2 []) (kx : ∀ e : Int32, r = .inr (.inl e) → GW x 0 0 [(qw, .inr (6, [.ref qw1])), (qw1, .inl ((xy x) 1, 8, .inr (.inl w)))] [] 33 []) (kr : ∀ o' : Int32, r = .inr (.inr o') → o' = o) : GW x 0 0 [(qw, .inr (6, [.ref qw1])), (qw1, .inl ((xy x) 1, 8, .inr (.inl w)))] [(0, .ref qw), (1, .int p0), (2, .int a_2)] 2 [] := by
  unfold gX7_firstMiss_2 at hf
  refine g_iload_n C (pc := 2) 2 dX7_firstMiss_2 rfl rfl ?_
  refine g_sipush C (pc := 3) dX7_firstMiss_3 ck_sipush_512 ?_
  refine g_icmp_ge C (pc := 6) 33 dX7_firstMiss_6 (by decide) (fun c_6 => ?_) (fun c_6 => ?_)
  · replace hf := (k_if hf).1 c_6
    cases hf
    exact g_lo [] rfl (kx a_2 rfl)
  · replace hf := (k_if hf).2 c_6
    refine g_aload_n C (pc := 9) 0 dX7_firstMiss_9 rfl rfl ?_
    refine g_iload_n C (pc := 10) 2 dX7_firstMiss_10 rfl rfl ?_
    obtain ⟨y_11, h_11, hf⟩ := k_bd hf
    refine g_callA C (pc := 11) (b := qw) (As := [.int a_2]) (rest := []) (v1 := (some (.int y_11))) (st' := [.int y_11]) (w1 := [(qw, .inr (6, [.ref qw1])), (qw1, .inl ((xy x) 1, 8, .inr (.inl w)))]) 0 lkX7_has lVX7_33 (cX7_has_k (xl x) (xD x) (xy x) qw qw1 w a_2 y_11 h_11) rfl ⟨⟨Nat.le_of_ble_eq_true rfl, Nat.le_of_ble_eq_true rfl⟩, ⟨rfl, rfl⟩, ⟨Nat.le_of_ble_eq_true rfl, Nat.le_of_ble_eq_true rfl⟩⟩ rfl rfl rfl (Nat.le_of_ble_eq_true rfl) rfl dX7_firstMiss_11 ?_
    refine g_if_eq C (pc := 14) 27 dX7_firstMiss_14 (by decide) (fun c_14 => ?_) (fun c_14 => ?_)
    · replace hf := (k_if hf).1 c_14
      refine g_iinc C (pc := 27) (v := a_2 + 1) (lo' := [(2, .int (a_2 + 1)), (0, .ref qw), (1, .int p0)]) 2 dX7_firstMiss_27 rfl (congrArg (HAdd.hAdd _) ck_iinc_1) N rfl rfl ?_
      refine g_goto C (pc := 30) (tgt := 2) dX7_firstMiss_30 (by decide) ?_
      cases hf
      exact g_lo [1, 2, 0] rfl (kn (a_2 + 1) rfl)
    · replace hf := (k_if hf).2 c_14
      refine g_iload_n C (pc := 17) 1 dX7_firstMiss_17 rfl rfl ?_
      refine g_iload_n C (pc := 18) 2 dX7_firstMiss_18 rfl rfl ?_
      obtain ⟨y_19, h_19, hf⟩ := k_bd hf
      refine g_callS0 C (pc := 19) (As := [.int p0, .int a_2]) (rest := []) (v1 := (some (.int y_19))) (st' := [.int y_19]) lkX1_isMetBy lSX7_36 (cX1_isMetBy_k (xl x) (xD x) (xy x) p0 a_2 y_19 h_19) rfl ⟨⟨Nat.le_of_ble_eq_true rfl, Nat.le_of_ble_eq_true rfl⟩, ⟨rfl, rfl⟩, ⟨Nat.le_of_ble_eq_true rfl, Nat.le_of_ble_eq_true rfl⟩⟩ rfl (Nat.le_of_ble_eq_true rfl) rfl dX7_firstMiss_19 ?_
      refine g_if_ne C (pc := 22) 27 dX7_firstMiss_22 (by decide) (fun c_22 => ?_) (fun c_22 => ?_)
      · replace hf := (k_if hf).2 c_22
        refine g_iinc C (pc := 27) (v := a_2 + 1) (lo' := [(2, .int (a_2 + 1)), (0, .ref qw), (1, .int p0)]) 2 dX7_firstMiss_27 rfl (congrArg (HAdd.hAdd _) ck_iinc_1) N rfl rfl ?_
        refine g_goto C (pc := 30) (tgt := 2) dX7_firstMiss_30 (by decide) ?_
        cases hf
        exact g_lo [1, 2, 0] rfl (kn (a_2 + 1) rfl)
      · replace hf := (k_if hf).1 c_22
        refine g_iload_n C (pc := 25) 2 dX7_firstMiss_25 rfl rfl ?_
        cases hf
        have ho := kr _ rfl
        cases ho
        exact g_iret C E (pc := 26) dX7_firstMiss_26 ⟨rfl, rfl⟩
def fX7_firstMiss (w : Nat → Int64) (p0 : Int32) : Option (Int32) :=
  bd (iter (gX7_firstMiss_2 w p0) FU (0 : Int32)) fun b_2 : (Int32) ⊕ (Int32) => Sum.elim (fun e_2 : Int32 => some (-6 : Int32)) (fun o_2 : Int32 => some o_2) b_2
set_option maxRecDepth 100000 in
set_option maxHeartbeats 4000000 in
theorem eX7_firstMiss (x : GX) (C : GC x cX7_firstMiss RX7 rmX7_firstMiss) (N : xn x = 3) (qw : Nat) (qw1 : Nat) (w : Nat → Int64) (p0 : Int32) (o : Int32) (E : GE x (some .int) 0 0 (fun zv zw => zv = some (.int o) ∧ zw = [(qw, .inr (6, [.ref qw1])), (qw1, .inl ((xy x) 1, 8, .inr (.inl w)))])) (hf : fX7_firstMiss w p0 = some o)  : GW x 0 0 [(qw, .inr (6, [.ref qw1])), (qw1, .inl ((xy x) 1, 8, .inr (.inl w)))] [(0, .ref qw), (1, .int p0)] 0 [] := by
  unfold fX7_firstMiss at hf
  refine g_iconst C (pc := 0) dX7_firstMiss_0 ck_iconst_0 ?_
  refine g_istore_n C (pc := 1) (lo' := [(2, .int (0 : Int32)), (0, .ref qw), (1, .int p0)]) dX7_firstMiss_1 rfl N rfl rfl ?_
  obtain ⟨b_2, hb_2, hf⟩ := k_bd hf
  refine g_lo [1, 2, 0] rfl ?_
  refine g_loop (g := (gX7_firstMiss_2 w p0)) (fun e : Int32 => [(qw, .inr (6, [.ref qw1])), (qw1, .inl ((xy x) 1, 8, .inr (.inl w)))]) (fun e : Int32 => [(0, .ref qw), (1, .int p0), (2, .int e)]) 2 (fun b : (Int32) ⊕ (Int32) => (∀ e : Int32, b = .inl e → GW x 0 0 [(qw, .inr (6, [.ref qw1])), (qw1, .inl ((xy x) 1, 8, .inr (.inl w)))] [] 33 []) ∧ (∀ o' : Int32, b = .inr o' → o' = o)) (fun a r hg kn kx => bX7_firstMiss_2 x C N qw qw1 w p0 a o r E hg kn (fun e he => (kx _ he).1 e rfl) (fun z he => (kx _ he).2 z rfl)) FU _ b_2 hb_2 ?_
  refine ⟨fun e_2 he => ?_, fun o_2 he => ?_⟩ <;> subst he
  · replace hf := k_eliml hf
    refine g_bipush C (pc := 33) dX7_firstMiss_33 ck_bipush_m6 ?_
    cases hf
    exact g_iret C E (pc := 35) dX7_firstMiss_35 ⟨rfl, rfl⟩
  · replace hf := k_elimr hf
    exact k_some hf
set_option maxRecDepth 100000 in
theorem cX7_firstMiss_k (l : Launch) (D : va_G) (yy : Nat → ClassId) (qw : Nat) (qw1 : Nat) (w : Nat → Int64) (p0 : Int32) (o : Int32) (hf : fX7_firstMiss w p0 = some o) : GMet l yX7_firstMiss cX7_firstMiss 3 (some .int) rmX7_firstMiss 0 0 D yy [.ref qw, .int p0] [(qw, .inr (6, [.ref qw1])), (qw1, .inl (yy 1, 8, .inr (.inl w)))] (fun zv zw => zv = some (.int o) ∧ zw = [(qw, .inr (6, [.ref qw1])), (qw1, .inl (yy 1, 8, .inr (.inl w)))]) :=
  g_met (by decide +kernel) (Nat.le_of_ble_eq_true rfl) (fun x hl hD hy hn C E _ => by subst hD; subst hy; exact eX7_firstMiss x C hn qw qw1 w p0 o E hf)
def rmX7_copyFrom : Room := { frames := 1, cells := 0, slots := 0, locals := 26 }
def fX7_copyFrom (w : Nat → Int64) (ow : Nat → Int64) : Option (Nat → Int64) :=
  gd (gcp (0 : Int32) (0 : Int32) (8 : Int32) 8 8) (some (va_cpy ow w (ix (0 : Int32)) (ix (0 : Int32)) (ix (8 : Int32))))
set_option maxRecDepth 100000 in
set_option maxHeartbeats 4000000 in
theorem eX7_copyFrom (x : GX) (C : GC x cX7_copyFrom RX7 rmX7_copyFrom) (N : xn x = 2) (qw : Nat) (qw1 : Nat) (w : Nat → Int64) (oqw : Nat) (oqw1 : Nat) (ow : Nat → Int64) (o : Nat → Int64) (E : GE x none 0 0 (fun zv zw => zv = none ∧ zw = [(qw, .inr (6, [.ref qw1])), (qw1, .inl ((xy x) 1, 8, .inr (.inl o))), (oqw, .inr (6, [.ref oqw1])), (oqw1, .inl ((xy x) 1, 8, .inr (.inl ow)))])) (hf : fX7_copyFrom w ow = some o)  : GW x 0 0 [(qw, .inr (6, [.ref qw1])), (qw1, .inl ((xy x) 1, 8, .inr (.inl w))), (oqw, .inr (6, [.ref oqw1])), (oqw1, .inl ((xy x) 1, 8, .inr (.inl ow)))] [(0, .ref qw), (1, .ref oqw)] 0 [] := by
  unfold fX7_copyFrom at hf
  refine g_aload_n C (pc := 0) 1 dX7_copyFrom_0 rfl rfl ?_
  refine g_get C (pc := 1) lfX7_9 2 rfl rfl dX7_copyFrom_1 ?_
  refine g_iconst C (pc := 4) dX7_copyFrom_4 ck_iconst_0 ?_
  refine g_aload_n C (pc := 5) 0 dX7_copyFrom_5 rfl rfl ?_
  refine g_get C (pc := 6) lfX7_9 0 rfl rfl dX7_copyFrom_6 ?_
  refine g_iconst C (pc := 9) dX7_copyFrom_9 ck_iconst_0 ?_
  refine g_aload_n C (pc := 10) 0 dX7_copyFrom_10 rfl rfl ?_
  refine g_get C (pc := 11) lfX7_9 0 rfl rfl dX7_copyFrom_11 ?_
  refine g_alen C (pc := 14) (v := 8) 1 1 rfl rfl ck_len_8 dX7_copyFrom_14 ?_
  obtain ⟨i_15, hf⟩ := k_gd hf
  refine g_cpyl C (pc := 15) (ws' := [(qw, .inr (6, [.ref qw1])), (qw1, .inl ((xy x) 1, 8, .inr (.inl (va_cpy ow w (ix (0 : Int32)) (ix (0 : Int32)) (ix (8 : Int32)))))), (oqw, .inr (6, [.ref oqw1])), (oqw1, .inl ((xy x) 1, 8, .inr (.inl ow)))]) 3 1 lAX7_17 rfl rfl i_15 rfl (Nat.le_of_ble_eq_true rfl) (Nat.le_of_ble_eq_true rfl) dX7_copyFrom_15 ?_
  cases hf
  exact g_vret C E (pc := 18) dX7_copyFrom_18 ⟨rfl, rfl⟩
set_option maxRecDepth 100000 in
theorem cX7_copyFrom_k (l : Launch) (D : va_G) (yy : Nat → ClassId) (qw : Nat) (qw1 : Nat) (w : Nat → Int64) (oqw : Nat) (oqw1 : Nat) (ow : Nat → Int64) (o : Nat → Int64) (hf : fX7_copyFrom w ow = some o) : GMet l yX7_copyFrom cX7_copyFrom 2 none rmX7_copyFrom 0 0 D yy [.ref qw, .ref oqw] [(qw, .inr (6, [.ref qw1])), (qw1, .inl (yy 1, 8, .inr (.inl w))), (oqw, .inr (6, [.ref oqw1])), (oqw1, .inl (yy 1, 8, .inr (.inl ow)))] (fun zv zw => zv = none ∧ zw = [(qw, .inr (6, [.ref qw1])), (qw1, .inl (yy 1, 8, .inr (.inl o))), (oqw, .inr (6, [.ref oqw1])), (oqw1, .inl (yy 1, 8, .inr (.inl ow)))]) :=
  g_met (by decide +kernel) (Nat.le_of_ble_eq_true rfl) (fun x hl hD hy hn C E _ => by subst hD; subst hy; exact eX7_copyFrom x C hn qw qw1 w oqw oqw1 ow o E hf)
