def rmX0_init : Room := { frames := 1, cells := 5, slots := 200, locals := 12 }
set_option maxRecDepth 100000 in
set_option maxHeartbeats 4000000 in
theorem cX0_init_k (l : Launch) (D : va_G) (yy : Nat → ClassId) (h : Nat) : GMet l yX0_init cX0_init 1 none rmX0_init 5 200 D yy [.ref h] [(h, .inr (0, [.int 0, .null, .null, .null, .null, .null]))] (fun zv zw => zv = none ∧ ∃ a1 a2 a3 a4 a5 : Nat, zw = [(h, .inr (0, [.int 0, .ref a1, .ref a2, .ref a3, .ref a4, .ref a5])), (a1, .inl (yy 0, 40, .inl (fun _ => 0))), (a2, .inl (yy 0, 40, .inl (fun _ => 0))), (a3, .inl (yy 0, 40, .inl (fun _ => 0))), (a4, .inl (yy 0, 40, .inl (fun _ => 0))), (a5, .inl (yy 0, 40, .inl (fun _ => 0)))]) :=
  g_met (by decide +kernel) (Nat.le_of_ble_eq_true rfl) (fun x hl hD hy hN C E hin => by
    subst hD; subst hy
    refine g_aload_n C (pc := 0) 0 dX0_init_0 rfl rfl ?_
    refine g_obj C (pc := 1) lOX0_3 (Nat.le_of_ble_eq_true rfl) (Nat.le_of_ble_eq_true rfl) dX0_init_1 ?_
    refine g_aload_n C (pc := 4) 0 dX0_init_4 rfl rfl ?_
    refine g_bipush C (pc := 5) dX0_init_5 ck_bipush_40 ?_
    refine g_newa C (pc := 7) (aty := .int) (ty := .int) 0 40 (40, .inl (fun _ => 0)) rfl rfl lT_int (fun _ => rfl) (by decide) (by decide +kernel) (by decide +kernel) ⟨Nat.le_of_ble_eq_true rfl, Nat.le_of_ble_eq_true rfl⟩ dX0_init_7 (fun a1 => ?_)
    show GW x 1 40 [(h, .inr (0, [.int 0, .null, .null, .null, .null, .null])), (a1, .inl ((xy x) 0, 40, .inl (fun _ => 0)))] _ 9 [.ref a1, .ref h]
    refine g_putF C (pc := 9) (ws' := [(h, .inr (0, [.int 0, .ref a1, .null, .null, .null, .null])), (a1, .inl ((xy x) 0, 40, .inl (fun _ => 0)))]) lpX0_9 hin 0 rfl rfl rfl rfl rfl (Nat.le_of_ble_eq_true rfl) rfl dX0_init_9 ?_
    refine g_aload_n C (pc := 12) 0 dX0_init_12 rfl rfl ?_
    refine g_bipush C (pc := 13) dX0_init_13 ck_bipush_40 ?_
    refine g_newa C (pc := 15) (aty := .int) (ty := .int) 0 40 (40, .inl (fun _ => 0)) rfl rfl lT_int (fun _ => rfl) (by decide) (by decide +kernel) (by decide +kernel) ⟨Nat.le_of_ble_eq_true rfl, Nat.le_of_ble_eq_true rfl⟩ dX0_init_15 (fun a2 => ?_)
    show GW x 2 80 [(h, .inr (0, [.int 0, .ref a1, .null, .null, .null, .null])), (a1, .inl ((xy x) 0, 40, .inl (fun _ => 0))), (a2, .inl ((xy x) 0, 40, .inl (fun _ => 0)))] _ 17 [.ref a2, .ref h]
    refine g_putF C (pc := 17) (ws' := [(h, .inr (0, [.int 0, .ref a1, .ref a2, .null, .null, .null])), (a1, .inl ((xy x) 0, 40, .inl (fun _ => 0))), (a2, .inl ((xy x) 0, 40, .inl (fun _ => 0)))]) lpX0_15 hin 0 rfl rfl rfl rfl rfl (Nat.le_of_ble_eq_true rfl) rfl dX0_init_17 ?_
    refine g_aload_n C (pc := 20) 0 dX0_init_20 rfl rfl ?_
    refine g_bipush C (pc := 21) dX0_init_21 ck_bipush_40 ?_
    refine g_newa C (pc := 23) (aty := .int) (ty := .int) 0 40 (40, .inl (fun _ => 0)) rfl rfl lT_int (fun _ => rfl) (by decide) (by decide +kernel) (by decide +kernel) ⟨Nat.le_of_ble_eq_true rfl, Nat.le_of_ble_eq_true rfl⟩ dX0_init_23 (fun a3 => ?_)
    show GW x 3 120 [(h, .inr (0, [.int 0, .ref a1, .ref a2, .null, .null, .null])), (a1, .inl ((xy x) 0, 40, .inl (fun _ => 0))), (a2, .inl ((xy x) 0, 40, .inl (fun _ => 0))), (a3, .inl ((xy x) 0, 40, .inl (fun _ => 0)))] _ 25 [.ref a3, .ref h]
    refine g_putF C (pc := 25) (ws' := [(h, .inr (0, [.int 0, .ref a1, .ref a2, .ref a3, .null, .null])), (a1, .inl ((xy x) 0, 40, .inl (fun _ => 0))), (a2, .inl ((xy x) 0, 40, .inl (fun _ => 0))), (a3, .inl ((xy x) 0, 40, .inl (fun _ => 0)))]) lpX0_18 hin 0 rfl rfl rfl rfl rfl (Nat.le_of_ble_eq_true rfl) rfl dX0_init_25 ?_
    refine g_aload_n C (pc := 28) 0 dX0_init_28 rfl rfl ?_
    refine g_bipush C (pc := 29) dX0_init_29 ck_bipush_40 ?_
    refine g_newa C (pc := 31) (aty := .int) (ty := .int) 0 40 (40, .inl (fun _ => 0)) rfl rfl lT_int (fun _ => rfl) (by decide) (by decide +kernel) (by decide +kernel) ⟨Nat.le_of_ble_eq_true rfl, Nat.le_of_ble_eq_true rfl⟩ dX0_init_31 (fun a4 => ?_)
    show GW x 4 160 [(h, .inr (0, [.int 0, .ref a1, .ref a2, .ref a3, .null, .null])), (a1, .inl ((xy x) 0, 40, .inl (fun _ => 0))), (a2, .inl ((xy x) 0, 40, .inl (fun _ => 0))), (a3, .inl ((xy x) 0, 40, .inl (fun _ => 0))), (a4, .inl ((xy x) 0, 40, .inl (fun _ => 0)))] _ 33 [.ref a4, .ref h]
    refine g_putF C (pc := 33) (ws' := [(h, .inr (0, [.int 0, .ref a1, .ref a2, .ref a3, .ref a4, .null])), (a1, .inl ((xy x) 0, 40, .inl (fun _ => 0))), (a2, .inl ((xy x) 0, 40, .inl (fun _ => 0))), (a3, .inl ((xy x) 0, 40, .inl (fun _ => 0))), (a4, .inl ((xy x) 0, 40, .inl (fun _ => 0)))]) lpX0_21 hin 0 rfl rfl rfl rfl rfl (Nat.le_of_ble_eq_true rfl) rfl dX0_init_33 ?_
    refine g_aload_n C (pc := 36) 0 dX0_init_36 rfl rfl ?_
    refine g_bipush C (pc := 37) dX0_init_37 ck_bipush_40 ?_
    refine g_newa C (pc := 39) (aty := .int) (ty := .int) 0 40 (40, .inl (fun _ => 0)) rfl rfl lT_int (fun _ => rfl) (by decide) (by decide +kernel) (by decide +kernel) ⟨Nat.le_of_ble_eq_true rfl, Nat.le_of_ble_eq_true rfl⟩ dX0_init_39 (fun a5 => ?_)
    show GW x 5 200 [(h, .inr (0, [.int 0, .ref a1, .ref a2, .ref a3, .ref a4, .null])), (a1, .inl ((xy x) 0, 40, .inl (fun _ => 0))), (a2, .inl ((xy x) 0, 40, .inl (fun _ => 0))), (a3, .inl ((xy x) 0, 40, .inl (fun _ => 0))), (a4, .inl ((xy x) 0, 40, .inl (fun _ => 0))), (a5, .inl ((xy x) 0, 40, .inl (fun _ => 0)))] _ 41 [.ref a5, .ref h]
    refine g_putF C (pc := 41) (ws' := [(h, .inr (0, [.int 0, .ref a1, .ref a2, .ref a3, .ref a4, .ref a5])), (a1, .inl ((xy x) 0, 40, .inl (fun _ => 0))), (a2, .inl ((xy x) 0, 40, .inl (fun _ => 0))), (a3, .inl ((xy x) 0, 40, .inl (fun _ => 0))), (a4, .inl ((xy x) 0, 40, .inl (fun _ => 0))), (a5, .inl ((xy x) 0, 40, .inl (fun _ => 0)))]) lpX0_24 hin 0 rfl rfl rfl rfl rfl (Nat.le_of_ble_eq_true rfl) rfl dX0_init_41 ?_
    exact g_vret C E (pc := 44) dX0_init_44 ⟨rfl, a1, a2, a3, a4, a5, rfl⟩)
def rmX8_init : Room := { frames := 1, cells := 5, slots := 40, locals := 12 }
set_option maxRecDepth 100000 in
set_option maxHeartbeats 4000000 in
theorem cX8_init_k (l : Launch) (D : va_G) (yy : Nat → ClassId) (h : Nat) : GMet l yX8_init cX8_init 1 none rmX8_init 5 40 D yy [.ref h] [(h, .inr (7, [.int 0, .null, .null, .null, .null, .null]))] (fun zv zw => zv = none ∧ ∃ a1 a2 a3 a4 a5 : Nat, zw = [(h, .inr (7, [.int 0, .ref a1, .ref a2, .ref a3, .ref a4, .ref a5])), (a1, .inl (yy 0, 8, .inl (fun _ => 0))), (a2, .inl (yy 0, 8, .inl (fun _ => 0))), (a3, .inl (yy 0, 8, .inl (fun _ => 0))), (a4, .inl (yy 0, 8, .inl (fun _ => 0))), (a5, .inl (yy 0, 8, .inl (fun _ => 0)))]) :=
  g_met (by decide +kernel) (Nat.le_of_ble_eq_true rfl) (fun x hl hD hy hN C E hin => by
    subst hD; subst hy
    refine g_aload_n C (pc := 0) 0 dX8_init_0 rfl rfl ?_
    refine g_obj C (pc := 1) lOX8_3 (Nat.le_of_ble_eq_true rfl) (Nat.le_of_ble_eq_true rfl) dX8_init_1 ?_
    refine g_aload_n C (pc := 4) 0 dX8_init_4 rfl rfl ?_
    refine g_bipush C (pc := 5) dX8_init_5 ck_bipush_8 ?_
    refine g_newa C (pc := 7) (aty := .int) (ty := .int) 0 8 (8, .inl (fun _ => 0)) rfl rfl lT_int (fun _ => rfl) (by decide) (by decide +kernel) (by decide +kernel) ⟨Nat.le_of_ble_eq_true rfl, Nat.le_of_ble_eq_true rfl⟩ dX8_init_7 (fun a1 => ?_)
    show GW x 1 8 [(h, .inr (7, [.int 0, .null, .null, .null, .null, .null])), (a1, .inl ((xy x) 0, 8, .inl (fun _ => 0)))] _ 9 [.ref a1, .ref h]
    refine g_putF C (pc := 9) (ws' := [(h, .inr (7, [.int 0, .ref a1, .null, .null, .null, .null])), (a1, .inl ((xy x) 0, 8, .inl (fun _ => 0)))]) lpX8_9 hin 0 rfl rfl rfl rfl rfl (Nat.le_of_ble_eq_true rfl) rfl dX8_init_9 ?_
    refine g_aload_n C (pc := 12) 0 dX8_init_12 rfl rfl ?_
    refine g_bipush C (pc := 13) dX8_init_13 ck_bipush_8 ?_
    refine g_newa C (pc := 15) (aty := .int) (ty := .int) 0 8 (8, .inl (fun _ => 0)) rfl rfl lT_int (fun _ => rfl) (by decide) (by decide +kernel) (by decide +kernel) ⟨Nat.le_of_ble_eq_true rfl, Nat.le_of_ble_eq_true rfl⟩ dX8_init_15 (fun a2 => ?_)
    show GW x 2 16 [(h, .inr (7, [.int 0, .ref a1, .null, .null, .null, .null])), (a1, .inl ((xy x) 0, 8, .inl (fun _ => 0))), (a2, .inl ((xy x) 0, 8, .inl (fun _ => 0)))] _ 17 [.ref a2, .ref h]
    refine g_putF C (pc := 17) (ws' := [(h, .inr (7, [.int 0, .ref a1, .ref a2, .null, .null, .null])), (a1, .inl ((xy x) 0, 8, .inl (fun _ => 0))), (a2, .inl ((xy x) 0, 8, .inl (fun _ => 0)))]) lpX8_15 hin 0 rfl rfl rfl rfl rfl (Nat.le_of_ble_eq_true rfl) rfl dX8_init_17 ?_
    refine g_aload_n C (pc := 20) 0 dX8_init_20 rfl rfl ?_
    refine g_bipush C (pc := 21) dX8_init_21 ck_bipush_8 ?_
    refine g_newa C (pc := 23) (aty := .int) (ty := .int) 0 8 (8, .inl (fun _ => 0)) rfl rfl lT_int (fun _ => rfl) (by decide) (by decide +kernel) (by decide +kernel) ⟨Nat.le_of_ble_eq_true rfl, Nat.le_of_ble_eq_true rfl⟩ dX8_init_23 (fun a3 => ?_)
    show GW x 3 24 [(h, .inr (7, [.int 0, .ref a1, .ref a2, .null, .null, .null])), (a1, .inl ((xy x) 0, 8, .inl (fun _ => 0))), (a2, .inl ((xy x) 0, 8, .inl (fun _ => 0))), (a3, .inl ((xy x) 0, 8, .inl (fun _ => 0)))] _ 25 [.ref a3, .ref h]
    refine g_putF C (pc := 25) (ws' := [(h, .inr (7, [.int 0, .ref a1, .ref a2, .ref a3, .null, .null])), (a1, .inl ((xy x) 0, 8, .inl (fun _ => 0))), (a2, .inl ((xy x) 0, 8, .inl (fun _ => 0))), (a3, .inl ((xy x) 0, 8, .inl (fun _ => 0)))]) lpX8_18 hin 0 rfl rfl rfl rfl rfl (Nat.le_of_ble_eq_true rfl) rfl dX8_init_25 ?_
    refine g_aload_n C (pc := 28) 0 dX8_init_28 rfl rfl ?_
    refine g_bipush C (pc := 29) dX8_init_29 ck_bipush_8 ?_
    refine g_newa C (pc := 31) (aty := .int) (ty := .int) 0 8 (8, .inl (fun _ => 0)) rfl rfl lT_int (fun _ => rfl) (by decide) (by decide +kernel) (by decide +kernel) ⟨Nat.le_of_ble_eq_true rfl, Nat.le_of_ble_eq_true rfl⟩ dX8_init_31 (fun a4 => ?_)
    show GW x 4 32 [(h, .inr (7, [.int 0, .ref a1, .ref a2, .ref a3, .null, .null])), (a1, .inl ((xy x) 0, 8, .inl (fun _ => 0))), (a2, .inl ((xy x) 0, 8, .inl (fun _ => 0))), (a3, .inl ((xy x) 0, 8, .inl (fun _ => 0))), (a4, .inl ((xy x) 0, 8, .inl (fun _ => 0)))] _ 33 [.ref a4, .ref h]
    refine g_putF C (pc := 33) (ws' := [(h, .inr (7, [.int 0, .ref a1, .ref a2, .ref a3, .ref a4, .null])), (a1, .inl ((xy x) 0, 8, .inl (fun _ => 0))), (a2, .inl ((xy x) 0, 8, .inl (fun _ => 0))), (a3, .inl ((xy x) 0, 8, .inl (fun _ => 0))), (a4, .inl ((xy x) 0, 8, .inl (fun _ => 0)))]) lpX8_21 hin 0 rfl rfl rfl rfl rfl (Nat.le_of_ble_eq_true rfl) rfl dX8_init_33 ?_
    refine g_aload_n C (pc := 36) 0 dX8_init_36 rfl rfl ?_
    refine g_bipush C (pc := 37) dX8_init_37 ck_bipush_8 ?_
    refine g_newa C (pc := 39) (aty := .int) (ty := .int) 0 8 (8, .inl (fun _ => 0)) rfl rfl lT_int (fun _ => rfl) (by decide) (by decide +kernel) (by decide +kernel) ⟨Nat.le_of_ble_eq_true rfl, Nat.le_of_ble_eq_true rfl⟩ dX8_init_39 (fun a5 => ?_)
    show GW x 5 40 [(h, .inr (7, [.int 0, .ref a1, .ref a2, .ref a3, .ref a4, .null])), (a1, .inl ((xy x) 0, 8, .inl (fun _ => 0))), (a2, .inl ((xy x) 0, 8, .inl (fun _ => 0))), (a3, .inl ((xy x) 0, 8, .inl (fun _ => 0))), (a4, .inl ((xy x) 0, 8, .inl (fun _ => 0))), (a5, .inl ((xy x) 0, 8, .inl (fun _ => 0)))] _ 41 [.ref a5, .ref h]
    refine g_putF C (pc := 41) (ws' := [(h, .inr (7, [.int 0, .ref a1, .ref a2, .ref a3, .ref a4, .ref a5])), (a1, .inl ((xy x) 0, 8, .inl (fun _ => 0))), (a2, .inl ((xy x) 0, 8, .inl (fun _ => 0))), (a3, .inl ((xy x) 0, 8, .inl (fun _ => 0))), (a4, .inl ((xy x) 0, 8, .inl (fun _ => 0))), (a5, .inl ((xy x) 0, 8, .inl (fun _ => 0)))]) lpX8_24 hin 0 rfl rfl rfl rfl rfl (Nat.le_of_ble_eq_true rfl) rfl dX8_init_41 ?_
    exact g_vret C E (pc := 44) dX8_init_44 ⟨rfl, a1, a2, a3, a4, a5, rfl⟩)
def rmX7_init : Room := { frames := 1, cells := 1, slots := 8, locals := 12 }
set_option maxRecDepth 100000 in
set_option maxHeartbeats 4000000 in
theorem cX7_init_k (l : Launch) (D : va_G) (yy : Nat → ClassId) (h : Nat) : GMet l yX7_init cX7_init 1 none rmX7_init 1 8 D yy [.ref h] [(h, .inr (6, [.null]))] (fun zv zw => zv = none ∧ ∃ a1 : Nat, zw = [(h, .inr (6, [.ref a1])), (a1, .inl (yy 1, 8, .inr (.inl (fun _ => 0))))]) :=
  g_met (by decide +kernel) (Nat.le_of_ble_eq_true rfl) (fun x hl hD hy hN C E hin => by
    subst hD; subst hy
    refine g_aload_n C (pc := 0) 0 dX7_init_0 rfl rfl ?_
    refine g_obj C (pc := 1) lOX7_3 (Nat.le_of_ble_eq_true rfl) (Nat.le_of_ble_eq_true rfl) dX7_init_1 ?_
    refine g_aload_n C (pc := 4) 0 dX7_init_4 rfl rfl ?_
    refine g_bipush C (pc := 5) dX7_init_5 ck_bipush_8 ?_
    refine g_newa C (pc := 7) (aty := .long) (ty := .long) 1 8 (8, .inr (.inl (fun _ => 0))) rfl rfl lT_long (fun _ => rfl) (by decide) (by decide +kernel) (by decide +kernel) ⟨Nat.le_of_ble_eq_true rfl, Nat.le_of_ble_eq_true rfl⟩ dX7_init_7 (fun a1 => ?_)
    show GW x 1 8 [(h, .inr (6, [.null])), (a1, .inl ((xy x) 1, 8, .inr (.inl (fun _ => 0))))] _ 9 [.ref a1, .ref h]
    refine g_putF C (pc := 9) (ws' := [(h, .inr (6, [.ref a1])), (a1, .inl ((xy x) 1, 8, .inr (.inl (fun _ => 0))))]) lpX7_9 hin 0 rfl rfl rfl rfl rfl (Nat.le_of_ble_eq_true rfl) rfl dX7_init_9 ?_
    exact g_vret C E (pc := 12) dX7_init_12 ⟨rfl, a1, rfl⟩)
def rmX6_init : Room := { frames := 2, cells := 3, slots := 521, locals := 32 }
set_option maxRecDepth 100000 in
set_option maxHeartbeats 4000000 in
theorem cX6_init_k (l : Launch) (D : va_G) (yy : Nat → ClassId) (h : Nat) : GMet l yX6_init cX6_init 1 none rmX6_init 3 521 D yy [.ref h] [(h, .inr (5, [.int 0, .null, .null]))] (fun zv zw => zv = none ∧ ∃ a1 a2 a3 : Nat, zw = [(h, .inr (5, [.int 0, .ref a1, .ref a2])), (a1, .inl (yy 0, 512, .inl (fun _ => 0))), (a2, .inr (6, [.ref a3])), (a3, .inl (yy 1, 8, .inr (.inl (fun _ => 0))))]) :=
  g_met (by decide +kernel) (Nat.le_of_ble_eq_true rfl) (fun x hl hD hy hN C E hin => by
    subst hD; subst hy
    refine g_aload_n C (pc := 0) 0 dX6_init_0 rfl rfl ?_
    refine g_obj C (pc := 1) lOX6_3 (Nat.le_of_ble_eq_true rfl) (Nat.le_of_ble_eq_true rfl) dX6_init_1 ?_
    refine g_aload_n C (pc := 4) 0 dX6_init_4 rfl rfl ?_
    refine g_sipush C (pc := 5) dX6_init_5 ck_sipush_512 ?_
    refine g_newa C (pc := 8) (aty := .int) (ty := .int) 0 512 (512, .inl (fun _ => 0)) rfl rfl lT_int (fun _ => rfl) (by decide) (by decide +kernel) (by decide +kernel) ⟨Nat.le_of_ble_eq_true rfl, Nat.le_of_ble_eq_true rfl⟩ dX6_init_8 (fun a1 => ?_)
    show GW x 1 512 [(h, .inr (5, [.int 0, .null, .null])), (a1, .inl ((xy x) 0, 512, .inl (fun _ => 0)))] _ 10 [.ref a1, .ref h]
    refine g_putF C (pc := 10) (ws' := [(h, .inr (5, [.int 0, .ref a1, .null])), (a1, .inl ((xy x) 0, 512, .inl (fun _ => 0)))]) lpX6_9 hin 0 rfl rfl rfl rfl rfl (Nat.le_of_ble_eq_true rfl) rfl dX6_init_10 ?_
    refine g_aload_n C (pc := 13) 0 dX6_init_13 rfl rfl ?_
    refine g_new C (pc := 14) lWX6_15 [.null] (fun j hj => by rcases (show j = 0 by omega) with rfl <;> rfl) ⟨Nat.le_of_ble_eq_true rfl, Nat.le_of_ble_eq_true rfl⟩ dX6_init_14 (fun a2 => ?_)
    show GW x 2 513 [(h, .inr (5, [.int 0, .ref a1, .null])), (a1, .inl ((xy x) 0, 512, .inl (fun _ => 0))), (a2, .inr (6, [.null]))] _ 17 [.ref a2, .ref h]
    refine g_dup C (pc := 17) dX6_init_17 rfl ?_
    refine g_callJ C (pc := 18) (b := a2) (As := []) (rest := [.ref a2, .ref h]) (wr := [(h, .inr (5, [.int 0, .ref a1, .null])), (a1, .inl ((xy x) 0, 512, .inl (fun _ => 0)))]) (wc := [(a2, .inr (6, [.null]))]) lkX7_init lIX6_17 (cX7_init_k (xl x) (xD x) (xy x) a2) rfl ⟨⟨Nat.le_of_ble_eq_true rfl, Nat.le_of_ble_eq_true rfl⟩, ⟨rfl, rfl⟩, ⟨Nat.le_of_ble_eq_true rfl, Nat.le_of_ble_eq_true rfl⟩⟩ rfl (Nat.le_of_ble_eq_true rfl) dX6_init_18 rfl (fun zv zw hw => ?_)
    obtain ⟨rfl, a3, rfl⟩ := hw
    show GW x 3 521 [(h, .inr (5, [.int 0, .ref a1, .null])), (a1, .inl ((xy x) 0, 512, .inl (fun _ => 0))), (a2, .inr (6, [.ref a3])), (a3, .inl ((xy x) 1, 8, .inr (.inl (fun _ => 0))))] _ 21 [.ref a2, .ref h]
    refine g_putF C (pc := 21) (ws' := [(h, .inr (5, [.int 0, .ref a1, .ref a2])), (a1, .inl ((xy x) 0, 512, .inl (fun _ => 0))), (a2, .inr (6, [.ref a3])), (a3, .inl ((xy x) 1, 8, .inr (.inl (fun _ => 0))))]) lpX6_18 hin 0 rfl rfl rfl rfl rfl (Nat.le_of_ble_eq_true rfl) rfl dX6_init_21 ?_
    exact g_vret C E (pc := 24) dX6_init_24 ⟨rfl, a1, a2, a3, rfl⟩)
def rmX3_init : Room := { frames := 4, cells := 16, slots := 776, locals := 84 }
set_option maxRecDepth 100000 in
set_option maxHeartbeats 4000000 in
theorem cX3_init_k (l : Launch) (D : va_G) (yy : Nat → ClassId) (h : Nat) (o : Int32 × (Nat → Int32) × (Nat → Int64)) (hf : fX6_beginAt (fun _ => 0) (fun _ => 0) 0 = some o) : GMet l yX3_init cX3_init 1 none rmX3_init 16 776 D yy [.ref h] [(h, .inr (2, [.int 0, .int 0, .int 0, .int 0, .null, .null, .null]))] (fun zv zw => zv = none ∧ ∃ a1 a2 a3 a4 a5 a6 a7 a8 a9 a10 a11 a12 a13 a14 a15 a16 : Nat, zw = [(h, .inr (2, [.int 0, .int 0, .int 0, .int 0, .ref a1, .ref a7, .ref a13])), (a1, .inr (7, [.int 0, .ref a2, .ref a3, .ref a4, .ref a5, .ref a6])), (a2, .inl (yy 0, 8, .inl (fun _ => 0))), (a3, .inl (yy 0, 8, .inl (fun _ => 0))), (a4, .inl (yy 0, 8, .inl (fun _ => 0))), (a5, .inl (yy 0, 8, .inl (fun _ => 0))), (a6, .inl (yy 0, 8, .inl (fun _ => 0))), (a7, .inr (0, [.int 0, .ref a8, .ref a9, .ref a10, .ref a11, .ref a12])), (a8, .inl (yy 0, 40, .inl (fun _ => 0))), (a9, .inl (yy 0, 40, .inl (fun _ => 0))), (a10, .inl (yy 0, 40, .inl (fun _ => 0))), (a11, .inl (yy 0, 40, .inl (fun _ => 0))), (a12, .inl (yy 0, 40, .inl (fun _ => 0))), (a13, .inr (5, [.int o.1, .ref a14, .ref a15])), (a14, .inl (yy 0, 512, .inl o.2.1)), (a15, .inr (6, [.ref a16])), (a16, .inl (yy 1, 8, .inr (.inl o.2.2)))]) :=
  g_met (by decide +kernel) (Nat.le_of_ble_eq_true rfl) (fun x hl hD hy hN C E hin => by
    subst hD; subst hy
    refine g_aload_n C (pc := 0) 0 dX3_init_0 rfl rfl ?_
    refine g_obj C (pc := 1) lOX3_3 (Nat.le_of_ble_eq_true rfl) (Nat.le_of_ble_eq_true rfl) dX3_init_1 ?_
    refine g_aload_n C (pc := 4) 0 dX3_init_4 rfl rfl ?_
    refine g_new C (pc := 5) lWX3_9 [.int 0, .null, .null, .null, .null, .null] (fun j hj => by rcases (show j = 0 ∨ j = 1 ∨ j = 2 ∨ j = 3 ∨ j = 4 ∨ j = 5 by omega) with rfl | rfl | rfl | rfl | rfl | rfl <;> rfl) ⟨Nat.le_of_ble_eq_true rfl, Nat.le_of_ble_eq_true rfl⟩ dX3_init_5 (fun a1 => ?_)
    show GW x 1 6 [(h, .inr (2, [.int 0, .int 0, .int 0, .int 0, .null, .null, .null])), (a1, .inr (7, [.int 0, .null, .null, .null, .null, .null]))] _ 8 [.ref a1, .ref h]
    refine g_dup C (pc := 8) dX3_init_8 rfl ?_
    refine g_callJ C (pc := 9) (b := a1) (As := []) (rest := [.ref a1, .ref h]) (wr := [(h, .inr (2, [.int 0, .int 0, .int 0, .int 0, .null, .null, .null]))]) (wc := [(a1, .inr (7, [.int 0, .null, .null, .null, .null, .null]))]) lkX8_init lIX3_11 (cX8_init_k (xl x) (xD x) (xy x) a1) rfl ⟨⟨Nat.le_of_ble_eq_true rfl, Nat.le_of_ble_eq_true rfl⟩, ⟨rfl, rfl⟩, ⟨Nat.le_of_ble_eq_true rfl, Nat.le_of_ble_eq_true rfl⟩⟩ rfl (Nat.le_of_ble_eq_true rfl) dX3_init_9 rfl (fun zv zw hw => ?_)
    obtain ⟨rfl, a2, a3, a4, a5, a6, rfl⟩ := hw
    show GW x 6 46 [(h, .inr (2, [.int 0, .int 0, .int 0, .int 0, .null, .null, .null])), (a1, .inr (7, [.int 0, .ref a2, .ref a3, .ref a4, .ref a5, .ref a6])), (a2, .inl ((xy x) 0, 8, .inl (fun _ => 0))), (a3, .inl ((xy x) 0, 8, .inl (fun _ => 0))), (a4, .inl ((xy x) 0, 8, .inl (fun _ => 0))), (a5, .inl ((xy x) 0, 8, .inl (fun _ => 0))), (a6, .inl ((xy x) 0, 8, .inl (fun _ => 0)))] _ 12 [.ref a1, .ref h]
    refine g_putF C (pc := 12) (ws' := [(h, .inr (2, [.int 0, .int 0, .int 0, .int 0, .ref a1, .null, .null])), (a1, .inr (7, [.int 0, .ref a2, .ref a3, .ref a4, .ref a5, .ref a6])), (a2, .inl ((xy x) 0, 8, .inl (fun _ => 0))), (a3, .inl ((xy x) 0, 8, .inl (fun _ => 0))), (a4, .inl ((xy x) 0, 8, .inl (fun _ => 0))), (a5, .inl ((xy x) 0, 8, .inl (fun _ => 0))), (a6, .inl ((xy x) 0, 8, .inl (fun _ => 0)))]) lpX3_12 hin 0 rfl rfl rfl rfl rfl (Nat.le_of_ble_eq_true rfl) rfl dX3_init_12 ?_
    refine g_aload_n C (pc := 15) 0 dX3_init_15 rfl rfl ?_
    refine g_new C (pc := 16) lWX3_18 [.int 0, .null, .null, .null, .null, .null] (fun j hj => by rcases (show j = 0 ∨ j = 1 ∨ j = 2 ∨ j = 3 ∨ j = 4 ∨ j = 5 by omega) with rfl | rfl | rfl | rfl | rfl | rfl <;> rfl) ⟨Nat.le_of_ble_eq_true rfl, Nat.le_of_ble_eq_true rfl⟩ dX3_init_16 (fun a7 => ?_)
    show GW x 7 52 [(h, .inr (2, [.int 0, .int 0, .int 0, .int 0, .ref a1, .null, .null])), (a1, .inr (7, [.int 0, .ref a2, .ref a3, .ref a4, .ref a5, .ref a6])), (a2, .inl ((xy x) 0, 8, .inl (fun _ => 0))), (a3, .inl ((xy x) 0, 8, .inl (fun _ => 0))), (a4, .inl ((xy x) 0, 8, .inl (fun _ => 0))), (a5, .inl ((xy x) 0, 8, .inl (fun _ => 0))), (a6, .inl ((xy x) 0, 8, .inl (fun _ => 0))), (a7, .inr (0, [.int 0, .null, .null, .null, .null, .null]))] _ 19 [.ref a7, .ref h]
    refine g_dup C (pc := 19) dX3_init_19 rfl ?_
    refine g_callJ C (pc := 20) (b := a7) (As := []) (rest := [.ref a7, .ref h]) (wr := [(h, .inr (2, [.int 0, .int 0, .int 0, .int 0, .ref a1, .null, .null])), (a1, .inr (7, [.int 0, .ref a2, .ref a3, .ref a4, .ref a5, .ref a6])), (a2, .inl ((xy x) 0, 8, .inl (fun _ => 0))), (a3, .inl ((xy x) 0, 8, .inl (fun _ => 0))), (a4, .inl ((xy x) 0, 8, .inl (fun _ => 0))), (a5, .inl ((xy x) 0, 8, .inl (fun _ => 0))), (a6, .inl ((xy x) 0, 8, .inl (fun _ => 0)))]) (wc := [(a7, .inr (0, [.int 0, .null, .null, .null, .null, .null]))]) lkX0_init lIX3_20 (cX0_init_k (xl x) (xD x) (xy x) a7) rfl ⟨⟨Nat.le_of_ble_eq_true rfl, Nat.le_of_ble_eq_true rfl⟩, ⟨rfl, rfl⟩, ⟨Nat.le_of_ble_eq_true rfl, Nat.le_of_ble_eq_true rfl⟩⟩ rfl (Nat.le_of_ble_eq_true rfl) dX3_init_20 rfl (fun zv zw hw => ?_)
    obtain ⟨rfl, a8, a9, a10, a11, a12, rfl⟩ := hw
    show GW x 12 252 [(h, .inr (2, [.int 0, .int 0, .int 0, .int 0, .ref a1, .null, .null])), (a1, .inr (7, [.int 0, .ref a2, .ref a3, .ref a4, .ref a5, .ref a6])), (a2, .inl ((xy x) 0, 8, .inl (fun _ => 0))), (a3, .inl ((xy x) 0, 8, .inl (fun _ => 0))), (a4, .inl ((xy x) 0, 8, .inl (fun _ => 0))), (a5, .inl ((xy x) 0, 8, .inl (fun _ => 0))), (a6, .inl ((xy x) 0, 8, .inl (fun _ => 0))), (a7, .inr (0, [.int 0, .ref a8, .ref a9, .ref a10, .ref a11, .ref a12])), (a8, .inl ((xy x) 0, 40, .inl (fun _ => 0))), (a9, .inl ((xy x) 0, 40, .inl (fun _ => 0))), (a10, .inl ((xy x) 0, 40, .inl (fun _ => 0))), (a11, .inl ((xy x) 0, 40, .inl (fun _ => 0))), (a12, .inl ((xy x) 0, 40, .inl (fun _ => 0)))] _ 23 [.ref a7, .ref h]
    refine g_putF C (pc := 23) (ws' := [(h, .inr (2, [.int 0, .int 0, .int 0, .int 0, .ref a1, .ref a7, .null])), (a1, .inr (7, [.int 0, .ref a2, .ref a3, .ref a4, .ref a5, .ref a6])), (a2, .inl ((xy x) 0, 8, .inl (fun _ => 0))), (a3, .inl ((xy x) 0, 8, .inl (fun _ => 0))), (a4, .inl ((xy x) 0, 8, .inl (fun _ => 0))), (a5, .inl ((xy x) 0, 8, .inl (fun _ => 0))), (a6, .inl ((xy x) 0, 8, .inl (fun _ => 0))), (a7, .inr (0, [.int 0, .ref a8, .ref a9, .ref a10, .ref a11, .ref a12])), (a8, .inl ((xy x) 0, 40, .inl (fun _ => 0))), (a9, .inl ((xy x) 0, 40, .inl (fun _ => 0))), (a10, .inl ((xy x) 0, 40, .inl (fun _ => 0))), (a11, .inl ((xy x) 0, 40, .inl (fun _ => 0))), (a12, .inl ((xy x) 0, 40, .inl (fun _ => 0)))]) lpX3_21 hin 0 rfl rfl rfl rfl rfl (Nat.le_of_ble_eq_true rfl) rfl dX3_init_23 ?_
    refine g_aload_n C (pc := 26) 0 dX3_init_26 rfl rfl ?_
    refine g_new C (pc := 27) lWX3_25 [.int 0, .null, .null] (fun j hj => by rcases (show j = 0 ∨ j = 1 ∨ j = 2 by omega) with rfl | rfl | rfl <;> rfl) ⟨Nat.le_of_ble_eq_true rfl, Nat.le_of_ble_eq_true rfl⟩ dX3_init_27 (fun a13 => ?_)
    show GW x 13 255 [(h, .inr (2, [.int 0, .int 0, .int 0, .int 0, .ref a1, .ref a7, .null])), (a1, .inr (7, [.int 0, .ref a2, .ref a3, .ref a4, .ref a5, .ref a6])), (a2, .inl ((xy x) 0, 8, .inl (fun _ => 0))), (a3, .inl ((xy x) 0, 8, .inl (fun _ => 0))), (a4, .inl ((xy x) 0, 8, .inl (fun _ => 0))), (a5, .inl ((xy x) 0, 8, .inl (fun _ => 0))), (a6, .inl ((xy x) 0, 8, .inl (fun _ => 0))), (a7, .inr (0, [.int 0, .ref a8, .ref a9, .ref a10, .ref a11, .ref a12])), (a8, .inl ((xy x) 0, 40, .inl (fun _ => 0))), (a9, .inl ((xy x) 0, 40, .inl (fun _ => 0))), (a10, .inl ((xy x) 0, 40, .inl (fun _ => 0))), (a11, .inl ((xy x) 0, 40, .inl (fun _ => 0))), (a12, .inl ((xy x) 0, 40, .inl (fun _ => 0))), (a13, .inr (5, [.int 0, .null, .null]))] _ 30 [.ref a13, .ref h]
    refine g_dup C (pc := 30) dX3_init_30 rfl ?_
    refine g_callJ C (pc := 31) (b := a13) (As := []) (rest := [.ref a13, .ref h]) (wr := [(h, .inr (2, [.int 0, .int 0, .int 0, .int 0, .ref a1, .ref a7, .null])), (a1, .inr (7, [.int 0, .ref a2, .ref a3, .ref a4, .ref a5, .ref a6])), (a2, .inl ((xy x) 0, 8, .inl (fun _ => 0))), (a3, .inl ((xy x) 0, 8, .inl (fun _ => 0))), (a4, .inl ((xy x) 0, 8, .inl (fun _ => 0))), (a5, .inl ((xy x) 0, 8, .inl (fun _ => 0))), (a6, .inl ((xy x) 0, 8, .inl (fun _ => 0))), (a7, .inr (0, [.int 0, .ref a8, .ref a9, .ref a10, .ref a11, .ref a12])), (a8, .inl ((xy x) 0, 40, .inl (fun _ => 0))), (a9, .inl ((xy x) 0, 40, .inl (fun _ => 0))), (a10, .inl ((xy x) 0, 40, .inl (fun _ => 0))), (a11, .inl ((xy x) 0, 40, .inl (fun _ => 0))), (a12, .inl ((xy x) 0, 40, .inl (fun _ => 0)))]) (wc := [(a13, .inr (5, [.int 0, .null, .null]))]) lkX6_init lIX3_27 (cX6_init_k (xl x) (xD x) (xy x) a13) rfl ⟨⟨Nat.le_of_ble_eq_true rfl, Nat.le_of_ble_eq_true rfl⟩, ⟨rfl, rfl⟩, ⟨Nat.le_of_ble_eq_true rfl, Nat.le_of_ble_eq_true rfl⟩⟩ rfl (Nat.le_of_ble_eq_true rfl) dX3_init_31 rfl (fun zv zw hw => ?_)
    obtain ⟨rfl, a14, a15, a16, rfl⟩ := hw
    show GW x 16 776 [(h, .inr (2, [.int 0, .int 0, .int 0, .int 0, .ref a1, .ref a7, .null])), (a1, .inr (7, [.int 0, .ref a2, .ref a3, .ref a4, .ref a5, .ref a6])), (a2, .inl ((xy x) 0, 8, .inl (fun _ => 0))), (a3, .inl ((xy x) 0, 8, .inl (fun _ => 0))), (a4, .inl ((xy x) 0, 8, .inl (fun _ => 0))), (a5, .inl ((xy x) 0, 8, .inl (fun _ => 0))), (a6, .inl ((xy x) 0, 8, .inl (fun _ => 0))), (a7, .inr (0, [.int 0, .ref a8, .ref a9, .ref a10, .ref a11, .ref a12])), (a8, .inl ((xy x) 0, 40, .inl (fun _ => 0))), (a9, .inl ((xy x) 0, 40, .inl (fun _ => 0))), (a10, .inl ((xy x) 0, 40, .inl (fun _ => 0))), (a11, .inl ((xy x) 0, 40, .inl (fun _ => 0))), (a12, .inl ((xy x) 0, 40, .inl (fun _ => 0))), (a13, .inr (5, [.int 0, .ref a14, .ref a15])), (a14, .inl ((xy x) 0, 512, .inl (fun _ => 0))), (a15, .inr (6, [.ref a16])), (a16, .inl ((xy x) 1, 8, .inr (.inl (fun _ => 0))))] _ 34 [.ref a13, .ref h]
    refine g_putF C (pc := 34) (ws' := [(h, .inr (2, [.int 0, .int 0, .int 0, .int 0, .ref a1, .ref a7, .ref a13])), (a1, .inr (7, [.int 0, .ref a2, .ref a3, .ref a4, .ref a5, .ref a6])), (a2, .inl ((xy x) 0, 8, .inl (fun _ => 0))), (a3, .inl ((xy x) 0, 8, .inl (fun _ => 0))), (a4, .inl ((xy x) 0, 8, .inl (fun _ => 0))), (a5, .inl ((xy x) 0, 8, .inl (fun _ => 0))), (a6, .inl ((xy x) 0, 8, .inl (fun _ => 0))), (a7, .inr (0, [.int 0, .ref a8, .ref a9, .ref a10, .ref a11, .ref a12])), (a8, .inl ((xy x) 0, 40, .inl (fun _ => 0))), (a9, .inl ((xy x) 0, 40, .inl (fun _ => 0))), (a10, .inl ((xy x) 0, 40, .inl (fun _ => 0))), (a11, .inl ((xy x) 0, 40, .inl (fun _ => 0))), (a12, .inl ((xy x) 0, 40, .inl (fun _ => 0))), (a13, .inr (5, [.int 0, .ref a14, .ref a15])), (a14, .inl ((xy x) 0, 512, .inl (fun _ => 0))), (a15, .inr (6, [.ref a16])), (a16, .inl ((xy x) 1, 8, .inr (.inl (fun _ => 0))))]) lpX3_28 hin 0 rfl rfl rfl rfl rfl (Nat.le_of_ble_eq_true rfl) rfl dX3_init_34 ?_
    refine g_aload_n C (pc := 37) 0 dX3_init_37 rfl rfl ?_
    refine g_get C (pc := 38) lfX3_28 0 rfl rfl dX3_init_38 ?_
    refine g_aload_n C (pc := 41) 0 dX3_init_41 rfl rfl ?_
    refine g_get C (pc := 42) lfX3_32 0 rfl rfl dX3_init_42 ?_
    refine g_callV C (pc := 45) (b := a13) (As := [.int 0]) (rest := []) (v1 := none) (st' := []) (wc := [(a13, .inr (5, [.int 0, .ref a14, .ref a15])), (a14, .inl ((xy x) 0, 512, .inl (fun _ => 0))), (a15, .inr (6, [.ref a16])), (a16, .inl ((xy x) 1, 8, .inr (.inl (fun _ => 0))))]) (w1 := [(a13, .inr (5, [.int o.1, .ref a14, .ref a15])), (a14, .inl ((xy x) 0, 512, .inl o.2.1)), (a15, .inr (6, [.ref a16])), (a16, .inl ((xy x) 1, 8, .inr (.inl o.2.2)))]) (wr := [(h, .inr (2, [.int 0, .int 0, .int 0, .int 0, .ref a1, .ref a7, .ref a13])), (a1, .inr (7, [.int 0, .ref a2, .ref a3, .ref a4, .ref a5, .ref a6])), (a2, .inl ((xy x) 0, 8, .inl (fun _ => 0))), (a3, .inl ((xy x) 0, 8, .inl (fun _ => 0))), (a4, .inl ((xy x) 0, 8, .inl (fun _ => 0))), (a5, .inl ((xy x) 0, 8, .inl (fun _ => 0))), (a6, .inl ((xy x) 0, 8, .inl (fun _ => 0))), (a7, .inr (0, [.int 0, .ref a8, .ref a9, .ref a10, .ref a11, .ref a12])), (a8, .inl ((xy x) 0, 40, .inl (fun _ => 0))), (a9, .inl ((xy x) 0, 40, .inl (fun _ => 0))), (a10, .inl ((xy x) 0, 40, .inl (fun _ => 0))), (a11, .inl ((xy x) 0, 40, .inl (fun _ => 0))), (a12, .inl ((xy x) 0, 40, .inl (fun _ => 0)))]) (ws' := [(h, .inr (2, [.int 0, .int 0, .int 0, .int 0, .ref a1, .ref a7, .ref a13])), (a1, .inr (7, [.int 0, .ref a2, .ref a3, .ref a4, .ref a5, .ref a6])), (a2, .inl ((xy x) 0, 8, .inl (fun _ => 0))), (a3, .inl ((xy x) 0, 8, .inl (fun _ => 0))), (a4, .inl ((xy x) 0, 8, .inl (fun _ => 0))), (a5, .inl ((xy x) 0, 8, .inl (fun _ => 0))), (a6, .inl ((xy x) 0, 8, .inl (fun _ => 0))), (a7, .inr (0, [.int 0, .ref a8, .ref a9, .ref a10, .ref a11, .ref a12])), (a8, .inl ((xy x) 0, 40, .inl (fun _ => 0))), (a9, .inl ((xy x) 0, 40, .inl (fun _ => 0))), (a10, .inl ((xy x) 0, 40, .inl (fun _ => 0))), (a11, .inl ((xy x) 0, 40, .inl (fun _ => 0))), (a12, .inl ((xy x) 0, 40, .inl (fun _ => 0))), (a13, .inr (5, [.int o.1, .ref a14, .ref a15])), (a14, .inl ((xy x) 0, 512, .inl o.2.1)), (a15, .inr (6, [.ref a16])), (a16, .inl ((xy x) 1, 8, .inr (.inl o.2.2)))]) 0 [13, 14, 15, 16] [0, 1, 2, 3, 4, 5, 6, 7, 8, 9, 10, 11, 12] [0, 1, 2, 3, 4, 5, 6, 7, 8, 9, 10, 11, 12, 13, 14, 15, 16] lkX6_beginAt lVX3_36 (cX6_beginAt_k (xl x) (xD x) (xy x) a13 0 a14 (fun _ => 0) a15 a16 (fun _ => 0) 0 o hf) rfl ⟨⟨Nat.le_of_ble_eq_true rfl, Nat.le_of_ble_eq_true rfl⟩, ⟨rfl, rfl⟩, ⟨Nat.le_of_ble_eq_true rfl, Nat.le_of_ble_eq_true rfl⟩⟩ rfl rfl rfl rfl rfl rfl rfl (Nat.le_of_ble_eq_true rfl) rfl dX3_init_45 ?_
    exact g_vret C E (pc := 48) dX3_init_48 ⟨rfl, a1, a2, a3, a4, a5, a6, a7, a8, a9, a10, a11, a12, a13, a14, a15, a16, rfl⟩)
def rmX4_init : Room := { frames := 1, cells := 1, slots := 80, locals := 12 }
set_option maxRecDepth 100000 in
set_option maxHeartbeats 4000000 in
theorem cX4_init_k (l : Launch) (D : va_G) (yy : Nat → ClassId) (h : Nat) : GMet l yX4_init cX4_init 1 none rmX4_init 1 80 D yy [.ref h] [(h, .inr (3, [.int 0, .null]))] (fun zv zw => zv = none ∧ ∃ a1 : Nat, zw = [(h, .inr (3, [.int 0, .ref a1])), (a1, .inl (yy 3, 80, .inl (fun _ => 0)))]) :=
  g_met (by decide +kernel) (Nat.le_of_ble_eq_true rfl) (fun x hl hD hy hN C E hin => by
    subst hD; subst hy
    refine g_aload_n C (pc := 0) 0 dX4_init_0 rfl rfl ?_
    refine g_obj C (pc := 1) lOX4_3 (Nat.le_of_ble_eq_true rfl) (Nat.le_of_ble_eq_true rfl) dX4_init_1 ?_
    refine g_aload_n C (pc := 4) 0 dX4_init_4 rfl rfl ?_
    refine g_bipush C (pc := 5) dX4_init_5 ck_bipush_80 ?_
    refine g_newa C (pc := 7) (aty := .char) (ty := .char) 3 80 (80, .inl (fun _ => 0)) rfl rfl lT_char (fun _ => rfl) (by decide) (by decide +kernel) (by decide +kernel) ⟨Nat.le_of_ble_eq_true rfl, Nat.le_of_ble_eq_true rfl⟩ dX4_init_7 (fun a1 => ?_)
    show GW x 1 80 [(h, .inr (3, [.int 0, .null])), (a1, .inl ((xy x) 3, 80, .inl (fun _ => 0)))] _ 9 [.ref a1, .ref h]
    refine g_putF C (pc := 9) (ws' := [(h, .inr (3, [.int 0, .ref a1])), (a1, .inl ((xy x) 3, 80, .inl (fun _ => 0)))]) lpX4_9 hin 0 rfl rfl rfl rfl rfl (Nat.le_of_ble_eq_true rfl) rfl dX4_init_9 ?_
    exact g_vret C E (pc := 12) dX4_init_12 ⟨rfl, a1, rfl⟩)
def rmX5_init : Room := { frames := 2, cells := 2, slots := 82, locals := 32 }
set_option maxRecDepth 100000 in
set_option maxHeartbeats 4000000 in
theorem cX5_init_k (l : Launch) (D : va_G) (yy : Nat → ClassId) (h : Nat) : GMet l yX5_init cX5_init 1 none rmX5_init 2 82 D yy [.ref h] [(h, .inr (4, [.null, .int 0, .int 0, .int 0, .int 0, .int 0, .int 0, .int 0, .int 0, .int 0]))] (fun zv zw => zv = none ∧ ∃ a1 a2 : Nat, zw = [(h, .inr (4, [.ref a1, .int 0, .int 0, .int 0, .int 0, .int 0, .int 0, .int 0, .int 0, .int 0])), (a1, .inr (3, [.int 0, .ref a2])), (a2, .inl (yy 3, 80, .inl (fun _ => 0)))]) :=
  g_met (by decide +kernel) (Nat.le_of_ble_eq_true rfl) (fun x hl hD hy hN C E hin => by
    subst hD; subst hy
    refine g_aload_n C (pc := 0) 0 dX5_init_0 rfl rfl ?_
    refine g_obj C (pc := 1) lOX5_3 (Nat.le_of_ble_eq_true rfl) (Nat.le_of_ble_eq_true rfl) dX5_init_1 ?_
    refine g_aload_n C (pc := 4) 0 dX5_init_4 rfl rfl ?_
    refine g_new C (pc := 5) lWX5_9 [.int 0, .null] (fun j hj => by rcases (show j = 0 ∨ j = 1 by omega) with rfl | rfl <;> rfl) ⟨Nat.le_of_ble_eq_true rfl, Nat.le_of_ble_eq_true rfl⟩ dX5_init_5 (fun a1 => ?_)
    show GW x 1 2 [(h, .inr (4, [.null, .int 0, .int 0, .int 0, .int 0, .int 0, .int 0, .int 0, .int 0, .int 0])), (a1, .inr (3, [.int 0, .null]))] _ 8 [.ref a1, .ref h]
    refine g_dup C (pc := 8) dX5_init_8 rfl ?_
    refine g_callJ C (pc := 9) (b := a1) (As := []) (rest := [.ref a1, .ref h]) (wr := [(h, .inr (4, [.null, .int 0, .int 0, .int 0, .int 0, .int 0, .int 0, .int 0, .int 0, .int 0]))]) (wc := [(a1, .inr (3, [.int 0, .null]))]) lkX4_init lIX5_11 (cX4_init_k (xl x) (xD x) (xy x) a1) rfl ⟨⟨Nat.le_of_ble_eq_true rfl, Nat.le_of_ble_eq_true rfl⟩, ⟨rfl, rfl⟩, ⟨Nat.le_of_ble_eq_true rfl, Nat.le_of_ble_eq_true rfl⟩⟩ rfl (Nat.le_of_ble_eq_true rfl) dX5_init_9 rfl (fun zv zw hw => ?_)
    obtain ⟨rfl, a2, rfl⟩ := hw
    show GW x 2 82 [(h, .inr (4, [.null, .int 0, .int 0, .int 0, .int 0, .int 0, .int 0, .int 0, .int 0, .int 0])), (a1, .inr (3, [.int 0, .ref a2])), (a2, .inl ((xy x) 3, 80, .inl (fun _ => 0)))] _ 12 [.ref a1, .ref h]
    refine g_putF C (pc := 12) (ws' := [(h, .inr (4, [.ref a1, .int 0, .int 0, .int 0, .int 0, .int 0, .int 0, .int 0, .int 0, .int 0])), (a1, .inr (3, [.int 0, .ref a2])), (a2, .inl ((xy x) 3, 80, .inl (fun _ => 0)))]) lpX5_12 hin 0 rfl rfl rfl rfl rfl (Nat.le_of_ble_eq_true rfl) rfl dX5_init_12 ?_
    exact g_vret C E (pc := 15) dX5_init_15 ⟨rfl, a1, a2, rfl⟩)
def rmX9_init : Room := { frames := 2, cells := 8, slots := 1051, locals := 32 }
set_option maxRecDepth 100000 in
set_option maxHeartbeats 4000000 in
theorem cX9_init_k (l : Launch) (D : va_G) (yy : Nat → ClassId) (h : Nat) : GMet l yX9_init cX9_init 1 none rmX9_init 8 1051 D yy [.ref h] [(h, .inr (8, [.null, .null, .null, .null, .null]))] (fun zv zw => zv = none ∧ ∃ a1 a2 a3 a4 a5 a6 a7 a8 : Nat, zw = [(h, .inr (8, [.ref a1, .ref a3, .ref a5, .ref a7, .ref a8])), (a1, .inr (6, [.ref a2])), (a2, .inl (yy 1, 8, .inr (.inl (fun _ => 0)))), (a3, .inr (6, [.ref a4])), (a4, .inl (yy 1, 8, .inr (.inl (fun _ => 0)))), (a5, .inr (6, [.ref a6])), (a6, .inl (yy 1, 8, .inr (.inl (fun _ => 0)))), (a7, .inl (yy 0, 512, .inl (fun _ => 0))), (a8, .inl (yy 0, 512, .inl (fun _ => 0)))]) :=
  g_met (by decide +kernel) (Nat.le_of_ble_eq_true rfl) (fun x hl hD hy hN C E hin => by
    subst hD; subst hy
    refine g_aload_n C (pc := 0) 0 dX9_init_0 rfl rfl ?_
    refine g_obj C (pc := 1) lOX9_3 (Nat.le_of_ble_eq_true rfl) (Nat.le_of_ble_eq_true rfl) dX9_init_1 ?_
    refine g_aload_n C (pc := 4) 0 dX9_init_4 rfl rfl ?_
    refine g_new C (pc := 5) lWX9_9 [.null] (fun j hj => by rcases (show j = 0 by omega) with rfl <;> rfl) ⟨Nat.le_of_ble_eq_true rfl, Nat.le_of_ble_eq_true rfl⟩ dX9_init_5 (fun a1 => ?_)
    show GW x 1 1 [(h, .inr (8, [.null, .null, .null, .null, .null])), (a1, .inr (6, [.null]))] _ 8 [.ref a1, .ref h]
    refine g_dup C (pc := 8) dX9_init_8 rfl ?_
    refine g_callJ C (pc := 9) (b := a1) (As := []) (rest := [.ref a1, .ref h]) (wr := [(h, .inr (8, [.null, .null, .null, .null, .null]))]) (wc := [(a1, .inr (6, [.null]))]) lkX7_init lIX9_11 (cX7_init_k (xl x) (xD x) (xy x) a1) rfl ⟨⟨Nat.le_of_ble_eq_true rfl, Nat.le_of_ble_eq_true rfl⟩, ⟨rfl, rfl⟩, ⟨Nat.le_of_ble_eq_true rfl, Nat.le_of_ble_eq_true rfl⟩⟩ rfl (Nat.le_of_ble_eq_true rfl) dX9_init_9 rfl (fun zv zw hw => ?_)
    obtain ⟨rfl, a2, rfl⟩ := hw
    show GW x 2 9 [(h, .inr (8, [.null, .null, .null, .null, .null])), (a1, .inr (6, [.ref a2])), (a2, .inl ((xy x) 1, 8, .inr (.inl (fun _ => 0))))] _ 12 [.ref a1, .ref h]
    refine g_putF C (pc := 12) (ws' := [(h, .inr (8, [.ref a1, .null, .null, .null, .null])), (a1, .inr (6, [.ref a2])), (a2, .inl ((xy x) 1, 8, .inr (.inl (fun _ => 0))))]) lpX9_12 hin 0 rfl rfl rfl rfl rfl (Nat.le_of_ble_eq_true rfl) rfl dX9_init_12 ?_
    refine g_aload_n C (pc := 15) 0 dX9_init_15 rfl rfl ?_
    refine g_new C (pc := 16) lWX9_9 [.null] (fun j hj => by rcases (show j = 0 by omega) with rfl <;> rfl) ⟨Nat.le_of_ble_eq_true rfl, Nat.le_of_ble_eq_true rfl⟩ dX9_init_16 (fun a3 => ?_)
    show GW x 3 10 [(h, .inr (8, [.ref a1, .null, .null, .null, .null])), (a1, .inr (6, [.ref a2])), (a2, .inl ((xy x) 1, 8, .inr (.inl (fun _ => 0)))), (a3, .inr (6, [.null]))] _ 19 [.ref a3, .ref h]
    refine g_dup C (pc := 19) dX9_init_19 rfl ?_
    refine g_callJ C (pc := 20) (b := a3) (As := []) (rest := [.ref a3, .ref h]) (wr := [(h, .inr (8, [.ref a1, .null, .null, .null, .null])), (a1, .inr (6, [.ref a2])), (a2, .inl ((xy x) 1, 8, .inr (.inl (fun _ => 0))))]) (wc := [(a3, .inr (6, [.null]))]) lkX7_init lIX9_11 (cX7_init_k (xl x) (xD x) (xy x) a3) rfl ⟨⟨Nat.le_of_ble_eq_true rfl, Nat.le_of_ble_eq_true rfl⟩, ⟨rfl, rfl⟩, ⟨Nat.le_of_ble_eq_true rfl, Nat.le_of_ble_eq_true rfl⟩⟩ rfl (Nat.le_of_ble_eq_true rfl) dX9_init_20 rfl (fun zv zw hw => ?_)
    obtain ⟨rfl, a4, rfl⟩ := hw
    show GW x 4 18 [(h, .inr (8, [.ref a1, .null, .null, .null, .null])), (a1, .inr (6, [.ref a2])), (a2, .inl ((xy x) 1, 8, .inr (.inl (fun _ => 0)))), (a3, .inr (6, [.ref a4])), (a4, .inl ((xy x) 1, 8, .inr (.inl (fun _ => 0))))] _ 23 [.ref a3, .ref h]
    refine g_putF C (pc := 23) (ws' := [(h, .inr (8, [.ref a1, .ref a3, .null, .null, .null])), (a1, .inr (6, [.ref a2])), (a2, .inl ((xy x) 1, 8, .inr (.inl (fun _ => 0)))), (a3, .inr (6, [.ref a4])), (a4, .inl ((xy x) 1, 8, .inr (.inl (fun _ => 0))))]) lpX9_18 hin 0 rfl rfl rfl rfl rfl (Nat.le_of_ble_eq_true rfl) rfl dX9_init_23 ?_
    refine g_aload_n C (pc := 26) 0 dX9_init_26 rfl rfl ?_
    refine g_new C (pc := 27) lWX9_9 [.null] (fun j hj => by rcases (show j = 0 by omega) with rfl <;> rfl) ⟨Nat.le_of_ble_eq_true rfl, Nat.le_of_ble_eq_true rfl⟩ dX9_init_27 (fun a5 => ?_)
    show GW x 5 19 [(h, .inr (8, [.ref a1, .ref a3, .null, .null, .null])), (a1, .inr (6, [.ref a2])), (a2, .inl ((xy x) 1, 8, .inr (.inl (fun _ => 0)))), (a3, .inr (6, [.ref a4])), (a4, .inl ((xy x) 1, 8, .inr (.inl (fun _ => 0)))), (a5, .inr (6, [.null]))] _ 30 [.ref a5, .ref h]
    refine g_dup C (pc := 30) dX9_init_30 rfl ?_
    refine g_callJ C (pc := 31) (b := a5) (As := []) (rest := [.ref a5, .ref h]) (wr := [(h, .inr (8, [.ref a1, .ref a3, .null, .null, .null])), (a1, .inr (6, [.ref a2])), (a2, .inl ((xy x) 1, 8, .inr (.inl (fun _ => 0)))), (a3, .inr (6, [.ref a4])), (a4, .inl ((xy x) 1, 8, .inr (.inl (fun _ => 0))))]) (wc := [(a5, .inr (6, [.null]))]) lkX7_init lIX9_11 (cX7_init_k (xl x) (xD x) (xy x) a5) rfl ⟨⟨Nat.le_of_ble_eq_true rfl, Nat.le_of_ble_eq_true rfl⟩, ⟨rfl, rfl⟩, ⟨Nat.le_of_ble_eq_true rfl, Nat.le_of_ble_eq_true rfl⟩⟩ rfl (Nat.le_of_ble_eq_true rfl) dX9_init_31 rfl (fun zv zw hw => ?_)
    obtain ⟨rfl, a6, rfl⟩ := hw
    show GW x 6 27 [(h, .inr (8, [.ref a1, .ref a3, .null, .null, .null])), (a1, .inr (6, [.ref a2])), (a2, .inl ((xy x) 1, 8, .inr (.inl (fun _ => 0)))), (a3, .inr (6, [.ref a4])), (a4, .inl ((xy x) 1, 8, .inr (.inl (fun _ => 0)))), (a5, .inr (6, [.ref a6])), (a6, .inl ((xy x) 1, 8, .inr (.inl (fun _ => 0))))] _ 34 [.ref a5, .ref h]
    refine g_putF C (pc := 34) (ws' := [(h, .inr (8, [.ref a1, .ref a3, .ref a5, .null, .null])), (a1, .inr (6, [.ref a2])), (a2, .inl ((xy x) 1, 8, .inr (.inl (fun _ => 0)))), (a3, .inr (6, [.ref a4])), (a4, .inl ((xy x) 1, 8, .inr (.inl (fun _ => 0)))), (a5, .inr (6, [.ref a6])), (a6, .inl ((xy x) 1, 8, .inr (.inl (fun _ => 0))))]) lpX9_21 hin 0 rfl rfl rfl rfl rfl (Nat.le_of_ble_eq_true rfl) rfl dX9_init_34 ?_
    refine g_aload_n C (pc := 37) 0 dX9_init_37 rfl rfl ?_
    refine g_sipush C (pc := 38) dX9_init_38 ck_sipush_512 ?_
    refine g_newa C (pc := 41) (aty := .int) (ty := .int) 0 512 (512, .inl (fun _ => 0)) rfl rfl lT_int (fun _ => rfl) (by decide) (by decide +kernel) (by decide +kernel) ⟨Nat.le_of_ble_eq_true rfl, Nat.le_of_ble_eq_true rfl⟩ dX9_init_41 (fun a7 => ?_)
    show GW x 7 539 [(h, .inr (8, [.ref a1, .ref a3, .ref a5, .null, .null])), (a1, .inr (6, [.ref a2])), (a2, .inl ((xy x) 1, 8, .inr (.inl (fun _ => 0)))), (a3, .inr (6, [.ref a4])), (a4, .inl ((xy x) 1, 8, .inr (.inl (fun _ => 0)))), (a5, .inr (6, [.ref a6])), (a6, .inl ((xy x) 1, 8, .inr (.inl (fun _ => 0)))), (a7, .inl ((xy x) 0, 512, .inl (fun _ => 0)))] _ 43 [.ref a7, .ref h]
    refine g_putF C (pc := 43) (ws' := [(h, .inr (8, [.ref a1, .ref a3, .ref a5, .ref a7, .null])), (a1, .inr (6, [.ref a2])), (a2, .inl ((xy x) 1, 8, .inr (.inl (fun _ => 0)))), (a3, .inr (6, [.ref a4])), (a4, .inl ((xy x) 1, 8, .inr (.inl (fun _ => 0)))), (a5, .inr (6, [.ref a6])), (a6, .inl ((xy x) 1, 8, .inr (.inl (fun _ => 0)))), (a7, .inl ((xy x) 0, 512, .inl (fun _ => 0)))]) lpX9_24 hin 0 rfl rfl rfl rfl rfl (Nat.le_of_ble_eq_true rfl) rfl dX9_init_43 ?_
    refine g_aload_n C (pc := 46) 0 dX9_init_46 rfl rfl ?_
    refine g_sipush C (pc := 47) dX9_init_47 ck_sipush_512 ?_
    refine g_newa C (pc := 50) (aty := .int) (ty := .int) 0 512 (512, .inl (fun _ => 0)) rfl rfl lT_int (fun _ => rfl) (by decide) (by decide +kernel) (by decide +kernel) ⟨Nat.le_of_ble_eq_true rfl, Nat.le_of_ble_eq_true rfl⟩ dX9_init_50 (fun a8 => ?_)
    show GW x 8 1051 [(h, .inr (8, [.ref a1, .ref a3, .ref a5, .ref a7, .null])), (a1, .inr (6, [.ref a2])), (a2, .inl ((xy x) 1, 8, .inr (.inl (fun _ => 0)))), (a3, .inr (6, [.ref a4])), (a4, .inl ((xy x) 1, 8, .inr (.inl (fun _ => 0)))), (a5, .inr (6, [.ref a6])), (a6, .inl ((xy x) 1, 8, .inr (.inl (fun _ => 0)))), (a7, .inl ((xy x) 0, 512, .inl (fun _ => 0))), (a8, .inl ((xy x) 0, 512, .inl (fun _ => 0)))] _ 52 [.ref a8, .ref h]
    refine g_putF C (pc := 52) (ws' := [(h, .inr (8, [.ref a1, .ref a3, .ref a5, .ref a7, .ref a8])), (a1, .inr (6, [.ref a2])), (a2, .inl ((xy x) 1, 8, .inr (.inl (fun _ => 0)))), (a3, .inr (6, [.ref a4])), (a4, .inl ((xy x) 1, 8, .inr (.inl (fun _ => 0)))), (a5, .inr (6, [.ref a6])), (a6, .inl ((xy x) 1, 8, .inr (.inl (fun _ => 0)))), (a7, .inl ((xy x) 0, 512, .inl (fun _ => 0))), (a8, .inl ((xy x) 0, 512, .inl (fun _ => 0)))]) lpX9_28 hin 0 rfl rfl rfl rfl rfl (Nat.le_of_ble_eq_true rfl) rfl dX9_init_52 ?_
    exact g_vret C E (pc := 55) dX9_init_55 ⟨rfl, a1, a2, a3, a4, a5, a6, a7, a8, rfl⟩)
