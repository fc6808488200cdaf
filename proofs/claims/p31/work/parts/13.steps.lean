def rmX8_has : Room := { frames := 0, cells := 0, slots := 0, locals := 0 }
def fX8_has (s_n : Int32) (p0 : Int32) : Option (Int32) :=
  if p0 < 0 then some (0 : Int32) else if s_n ≤ p0 then some (0 : Int32) else some (1 : Int32)
set_option maxRecDepth 100000 in
set_option maxHeartbeats 4000000 in
theorem eX8_has (x : GX) (C : GC x cX8_has RX8 rmX8_has) (N : xn x = 2) (qs : Nat) (s_n : Int32) (qs1 : Nat) (s_g : Nat → Int32) (qs2 : Nat) (s_h : Nat → Int32) (qs3 : Nat) (s_x : Nat → Int32) (qs4 : Nat) (s_y : Nat → Int32) (qs5 : Nat) (s_k : Nat → Int32) (p0 : Int32) (o : Int32) (E : GE x (some .boolean) 0 0 (fun zv zw => zv = some (.int o) ∧ zw = [(qs, .inr (7, [.int s_n, .ref qs1, .ref qs2, .ref qs3, .ref qs4, .ref qs5])), (qs1, .inl ((xy x) 0, 8, .inl s_g)), (qs2, .inl ((xy x) 0, 8, .inl s_h)), (qs3, .inl ((xy x) 0, 8, .inl s_x)), (qs4, .inl ((xy x) 0, 8, .inl s_y)), (qs5, .inl ((xy x) 0, 8, .inl s_k))])) (hf : fX8_has s_n p0 = some o)  : GW x 0 0 [(qs, .inr (7, [.int s_n, .ref qs1, .ref qs2, .ref qs3, .ref qs4, .ref qs5])), (qs1, .inl ((xy x) 0, 8, .inl s_g)), (qs2, .inl ((xy x) 0, 8, .inl s_h)), (qs3, .inl ((xy x) 0, 8, .inl s_x)), (qs4, .inl ((xy x) 0, 8, .inl s_y)), (qs5, .inl ((xy x) 0, 8, .inl s_k))] [(0, .ref qs), (1, .int p0)] 0 [] := by
  unfold fX8_has at hf
  refine g_iload_n C (pc := 0) 1 dX8_has_0 rfl rfl ?_
  refine g_if_lt C (pc := 1) 16 dX8_has_1 (by decide) (fun c_1 => ?_) (fun c_1 => ?_)
  · replace hf := (k_if hf).1 c_1
    refine g_iconst C (pc := 16) dX8_has_16 ck_iconst_0 ?_
    cases hf
    exact g_zret C E rfl (pc := 17) dX8_has_17 ⟨rfl, rfl⟩
  · replace hf := (k_if hf).2 c_1
    refine g_iload_n C (pc := 4) 1 dX8_has_4 rfl rfl ?_
    refine g_aload_n C (pc := 5) 0 dX8_has_5 rfl rfl ?_
    refine g_get C (pc := 6) lfX8_27 0 rfl rfl dX8_has_6 ?_
    refine g_icmp_ge C (pc := 9) 16 dX8_has_9 (by decide) (fun c_9 => ?_) (fun c_9 => ?_)
    · replace hf := (k_if hf).1 c_9
      refine g_iconst C (pc := 16) dX8_has_16 ck_iconst_0 ?_
      cases hf
      exact g_zret C E rfl (pc := 17) dX8_has_17 ⟨rfl, rfl⟩
    · replace hf := (k_if hf).2 c_9
      refine g_iconst C (pc := 12) dX8_has_12 ck_iconst_1 ?_
      refine g_goto C (pc := 13) (tgt := 17) dX8_has_13 (by decide) ?_
      cases hf
      exact g_zret C E rfl (pc := 17) dX8_has_17 ⟨rfl, rfl⟩
set_option maxRecDepth 100000 in
theorem cX8_has_k (l : Launch) (D : va_G) (yy : Nat → ClassId) (qs : Nat) (s_n : Int32) (qs1 : Nat) (s_g : Nat → Int32) (qs2 : Nat) (s_h : Nat → Int32) (qs3 : Nat) (s_x : Nat → Int32) (qs4 : Nat) (s_y : Nat → Int32) (qs5 : Nat) (s_k : Nat → Int32) (p0 : Int32) (o : Int32) (hf : fX8_has s_n p0 = some o) : GMet l yX8_has cX8_has 2 (some .boolean) rmX8_has 0 0 D yy [.ref qs, .int p0] [(qs, .inr (7, [.int s_n, .ref qs1, .ref qs2, .ref qs3, .ref qs4, .ref qs5])), (qs1, .inl (yy 0, 8, .inl s_g)), (qs2, .inl (yy 0, 8, .inl s_h)), (qs3, .inl (yy 0, 8, .inl s_x)), (qs4, .inl (yy 0, 8, .inl s_y)), (qs5, .inl (yy 0, 8, .inl s_k))] (fun zv zw => zv = some (.int o) ∧ zw = [(qs, .inr (7, [.int s_n, .ref qs1, .ref qs2, .ref qs3, .ref qs4, .ref qs5])), (qs1, .inl (yy 0, 8, .inl s_g)), (qs2, .inl (yy 0, 8, .inl s_h)), (qs3, .inl (yy 0, 8, .inl s_x)), (qs4, .inl (yy 0, 8, .inl s_y)), (qs5, .inl (yy 0, 8, .inl s_k))]) :=
  g_met (by decide +kernel) (Nat.le_of_ble_eq_true rfl) (fun x hl hD hy hn C E _ => by subst hD; subst hy; exact eX8_has x C hn qs s_n qs1 s_g qs2 s_h qs3 s_x qs4 s_y qs5 s_k p0 o E hf)
def rmX8_isAction : Room := { frames := 1, cells := 0, slots := 0, locals := 20 }
def fX8_isAction (p0 : Int32) (p1 : Int32) (p2 : Int32) (p3 : Int32) : Option (Int32) :=
  if p1 < 0 then some (0 : Int32) else if (2 : Int32) < p1 then some (0 : Int32) else if p2 < 0 then some (0 : Int32) else if p2 ≤ (2 : Int32) then if p0 = 0 then if p2 = 0 then bd (fX1_isDigit p3) fun y_53 : Int32 => if y_53 = 0 then some (0 : Int32) else some (1 : Int32) else some (0 : Int32) else if p0 = 1 then bd (fX1_isOffset p3) fun y_66 : Int32 => gd (isB y_66) (some y_66) else if p0 = 2 then if p2 = p1 then some (0 : Int32) else if p3 = 0 then some (1 : Int32) else some (0 : Int32) else some (0 : Int32) else some (0 : Int32)
set_option maxRecDepth 100000 in
set_option maxHeartbeats 4000000 in
theorem eX8_isAction (x : GX) (C : GC x cX8_isAction RX8 rmX8_isAction) (N : xn x = 4) (p0 : Int32) (p1 : Int32) (p2 : Int32) (p3 : Int32) (o : Int32) (E : GE x (some .boolean) 0 0 (fun zv zw => zv = some (.int o) ∧ zw = [])) (hf : fX8_isAction p0 p1 p2 p3 = some o)  : GW x 0 0 [] [(0, .int p0), (1, .int p1), (2, .int p2), (3, .int p3)] 0 [] := by
  unfold fX8_isAction at hf
  refine g_iload_n C (pc := 0) 1 dX8_isAction_0 rfl rfl ?_
  refine g_if_lt C (pc := 1) 18 dX8_isAction_1 (by decide) (fun c_1 => ?_) (fun c_1 => ?_)
  · replace hf := (k_if hf).1 c_1
    refine g_iconst C (pc := 18) dX8_isAction_18 ck_iconst_0 ?_
    cases hf
    exact g_zret C E rfl (pc := 19) dX8_isAction_19 ⟨rfl, rfl⟩
  · replace hf := (k_if hf).2 c_1
    refine g_iload_n C (pc := 4) 1 dX8_isAction_4 rfl rfl ?_
    refine g_iconst C (pc := 5) dX8_isAction_5 ck_iconst_2 ?_
    refine g_icmp_gt C (pc := 6) 18 dX8_isAction_6 (by decide) (fun c_6 => ?_) (fun c_6 => ?_)
    · replace hf := (k_if hf).1 c_6
      refine g_iconst C (pc := 18) dX8_isAction_18 ck_iconst_0 ?_
      cases hf
      exact g_zret C E rfl (pc := 19) dX8_isAction_19 ⟨rfl, rfl⟩
    · replace hf := (k_if hf).2 c_6
      refine g_iload_n C (pc := 9) 2 dX8_isAction_9 rfl rfl ?_
      refine g_if_lt C (pc := 10) 18 dX8_isAction_10 (by decide) (fun c_10 => ?_) (fun c_10 => ?_)
      · replace hf := (k_if hf).1 c_10
        refine g_iconst C (pc := 18) dX8_isAction_18 ck_iconst_0 ?_
        cases hf
        exact g_zret C E rfl (pc := 19) dX8_isAction_19 ⟨rfl, rfl⟩
      · replace hf := (k_if hf).2 c_10
        refine g_iload_n C (pc := 13) 2 dX8_isAction_13 rfl rfl ?_
        refine g_iconst C (pc := 14) dX8_isAction_14 ck_iconst_2 ?_
        refine g_icmp_le C (pc := 15) 20 dX8_isAction_15 (by decide) (fun c_15 => ?_) (fun c_15 => ?_)
        · replace hf := (k_if hf).1 c_15
          refine g_iload_n C (pc := 20) 0 dX8_isAction_20 rfl rfl ?_
          by_cases s_21_0 : p0 = 0
          · replace hf := (k_if hf).1 s_21_0
            refine g_tsw C (pc := 21) (off := 27) 48 dX8_isAction_21 (by rw [s_21_0]; decide +kernel) (by rw [s_21_0]; decide +kernel) (by rw [s_21_0] <;> rfl) (by decide) ?_
            refine g_iload_n C (pc := 48) 2 dX8_isAction_48 rfl rfl ?_
            refine g_if_ne C (pc := 49) 63 dX8_isAction_49 (by decide) (fun c_49 => ?_) (fun c_49 => ?_)
            · replace hf := (k_if hf).2 c_49
              refine g_iconst C (pc := 63) dX8_isAction_63 ck_iconst_0 ?_
              cases hf
              exact g_zret C E rfl (pc := 64) dX8_isAction_64 ⟨rfl, rfl⟩
            · replace hf := (k_if hf).1 c_49
              refine g_iload_n C (pc := 52) 3 dX8_isAction_52 rfl rfl ?_
              obtain ⟨y_53, h_53, hf⟩ := k_bd hf
              refine g_callS0 C (pc := 53) (As := [.int p3]) (rest := []) (v1 := (some (.int y_53))) (st' := [.int y_53]) lkX1_isDigit lSX8_35 (cX1_isDigit_k (xl x) (xD x) (xy x) p3 y_53 h_53) rfl ⟨⟨Nat.le_of_ble_eq_true rfl, Nat.le_of_ble_eq_true rfl⟩, ⟨rfl, rfl⟩, ⟨Nat.le_of_ble_eq_true rfl, Nat.le_of_ble_eq_true rfl⟩⟩ rfl (Nat.le_of_ble_eq_true rfl) rfl dX8_isAction_53 ?_
              refine g_if_eq C (pc := 56) 63 dX8_isAction_56 (by decide) (fun c_56 => ?_) (fun c_56 => ?_)
              · replace hf := (k_if hf).1 c_56
                refine g_iconst C (pc := 63) dX8_isAction_63 ck_iconst_0 ?_
                cases hf
                exact g_zret C E rfl (pc := 64) dX8_isAction_64 ⟨rfl, rfl⟩
              · replace hf := (k_if hf).2 c_56
                refine g_iconst C (pc := 59) dX8_isAction_59 ck_iconst_1 ?_
                refine g_goto C (pc := 60) (tgt := 64) dX8_isAction_60 (by decide) ?_
                cases hf
                exact g_zret C E rfl (pc := 64) dX8_isAction_64 ⟨rfl, rfl⟩
          replace hf := (k_if hf).2 s_21_0
          by_cases s_21_1 : p0 = 1
          · replace hf := (k_if hf).1 s_21_1
            refine g_tsw C (pc := 21) (off := 44) 65 dX8_isAction_21 (by rw [s_21_1]; decide +kernel) (by rw [s_21_1]; decide +kernel) (by rw [s_21_1] <;> rfl) (by decide) ?_
            refine g_iload_n C (pc := 65) 3 dX8_isAction_65 rfl rfl ?_
            obtain ⟨y_66, h_66, hf⟩ := k_bd hf
            refine g_callS0 C (pc := 66) (As := [.int p3]) (rest := []) (v1 := (some (.int y_66))) (st' := [.int y_66]) lkX1_isOffset lSX8_41 (cX1_isOffset_k (xl x) (xD x) (xy x) p3 y_66 h_66) rfl ⟨⟨Nat.le_of_ble_eq_true rfl, Nat.le_of_ble_eq_true rfl⟩, ⟨rfl, rfl⟩, ⟨Nat.le_of_ble_eq_true rfl, Nat.le_of_ble_eq_true rfl⟩⟩ rfl (Nat.le_of_ble_eq_true rfl) rfl dX8_isAction_66 ?_
            obtain ⟨z_69, hf⟩ := k_gd hf
            cases hf
            exact g_zret C E (isB_nar z_69) (pc := 69) dX8_isAction_69 ⟨rfl, rfl⟩
          replace hf := (k_if hf).2 s_21_1
          by_cases s_21_2 : p0 = 2
          · replace hf := (k_if hf).1 s_21_2
            refine g_tsw C (pc := 21) (off := 49) 70 dX8_isAction_21 (by rw [s_21_2]; decide +kernel) (by rw [s_21_2]; decide +kernel) (by rw [s_21_2] <;> rfl) (by decide) ?_
            refine g_iload_n C (pc := 70) 2 dX8_isAction_70 rfl rfl ?_
            refine g_iload_n C (pc := 71) 1 dX8_isAction_71 rfl rfl ?_
            refine g_icmp_eq C (pc := 72) 83 dX8_isAction_72 (by decide) (fun c_72 => ?_) (fun c_72 => ?_)
            · replace hf := (k_if hf).1 c_72
              refine g_iconst C (pc := 83) dX8_isAction_83 ck_iconst_0 ?_
              cases hf
              exact g_zret C E rfl (pc := 84) dX8_isAction_84 ⟨rfl, rfl⟩
            · replace hf := (k_if hf).2 c_72
              refine g_iload_n C (pc := 75) 3 dX8_isAction_75 rfl rfl ?_
              refine g_if_ne C (pc := 76) 83 dX8_isAction_76 (by decide) (fun c_76 => ?_) (fun c_76 => ?_)
              · replace hf := (k_if hf).2 c_76
                refine g_iconst C (pc := 83) dX8_isAction_83 ck_iconst_0 ?_
                cases hf
                exact g_zret C E rfl (pc := 84) dX8_isAction_84 ⟨rfl, rfl⟩
              · replace hf := (k_if hf).1 c_76
                refine g_iconst C (pc := 79) dX8_isAction_79 ck_iconst_1 ?_
                refine g_goto C (pc := 80) (tgt := 84) dX8_isAction_80 (by decide) ?_
                cases hf
                exact g_zret C E rfl (pc := 84) dX8_isAction_84 ⟨rfl, rfl⟩
          replace hf := (k_if hf).2 s_21_2
          refine g_tswD C (pc := 21) 85 dX8_isAction_21 (tsw_out [0, 1, 2] (by decide +kernel) (by decide) (List.forall_mem_cons.mpr ⟨s_21_0, List.forall_mem_cons.mpr ⟨s_21_1, List.forall_mem_cons.mpr ⟨s_21_2, fun _ h => absurd h List.not_mem_nil⟩⟩⟩)) (by decide) ?_
          refine g_iconst C (pc := 85) dX8_isAction_85 ck_iconst_0 ?_
          cases hf
          exact g_zret C E rfl (pc := 86) dX8_isAction_86 ⟨rfl, rfl⟩
        · replace hf := (k_if hf).2 c_15
          refine g_iconst C (pc := 18) dX8_isAction_18 ck_iconst_0 ?_
          cases hf
          exact g_zret C E rfl (pc := 19) dX8_isAction_19 ⟨rfl, rfl⟩
set_option maxRecDepth 100000 in
theorem cX8_isAction_k (l : Launch) (D : va_G) (yy : Nat → ClassId) (p0 : Int32) (p1 : Int32) (p2 : Int32) (p3 : Int32) (o : Int32) (hf : fX8_isAction p0 p1 p2 p3 = some o) : GMet l yX8_isAction cX8_isAction 4 (some .boolean) rmX8_isAction 0 0 D yy [.int p0, .int p1, .int p2, .int p3] [] (fun zv zw => zv = some (.int o) ∧ zw = []) :=
  g_met (by decide +kernel) (Nat.le_of_ble_eq_true rfl) (fun x hl hD hy hn C E _ => by subst hD; subst hy; exact eX8_isAction x C hn p0 p1 p2 p3 o E hf)
def rmX8_add : Room := { frames := 3, cells := 0, slots := 0, locals := 64 }
def fX8_add (s_n : Int32) (s_g : Nat → Int32) (s_h : Nat → Int32) (s_x : Nat → Int32) (s_y : Nat → Int32) (s_k : Nat → Int32) (p0 : Int32) (p1 : Int32) (p2 : Int32) (p3 : Int32) (p4 : Int32) : Option (Int32 × Int32 × (Nat → Int32) × (Nat → Int32) × (Nat → Int32) × (Nat → Int32) × (Nat → Int32)) :=
  bd (fX1_isCode p0) fun y_1 : Int32 => if y_1 = 0 then some ((-2 : Int32), s_n, s_g, s_h, s_x, s_y, s_k) else bd (fX8_isAction p1 p2 p3 p4) fun y_13 : Int32 => if y_13 = 0 then some ((-2 : Int32), s_n, s_g, s_h, s_x, s_y, s_k) else if s_n < (8 : Int32) then gd (gi s_n 8) (gd (gi s_n 8) (gd (gi s_n 8) (gd (gi s_n 8) (gd (gi s_n 8) (some ((s_n + (1 : Int32)) - (1 : Int32), s_n + (1 : Int32), upd s_g (ix s_n) p0, upd s_h (ix s_n) p1, upd s_x (ix s_n) p2, upd s_y (ix s_n) p3, upd s_k (ix s_n) p4)))))) else some ((-4 : Int32), s_n, s_g, s_h, s_x, s_y, s_k)
set_option maxRecDepth 100000 in
set_option maxHeartbeats 4000000 in
theorem eX8_add (x : GX) (C : GC x cX8_add RX8 rmX8_add) (N : xn x = 6) (qs : Nat) (s_n : Int32) (qs1 : Nat) (s_g : Nat → Int32) (qs2 : Nat) (s_h : Nat → Int32) (qs3 : Nat) (s_x : Nat → Int32) (qs4 : Nat) (s_y : Nat → Int32) (qs5 : Nat) (s_k : Nat → Int32) (p0 : Int32) (p1 : Int32) (p2 : Int32) (p3 : Int32) (p4 : Int32) (o : Int32 × Int32 × (Nat → Int32) × (Nat → Int32) × (Nat → Int32) × (Nat → Int32) × (Nat → Int32)) (E : GE x (some .int) 0 0 (fun zv zw => zv = some (.int o.1) ∧ zw = [(qs, .inr (7, [.int o.2.1, .ref qs1, .ref qs2, .ref qs3, .ref qs4, .ref qs5])), (qs1, .inl ((xy x) 0, 8, .inl o.2.2.1)), (qs2, .inl ((xy x) 0, 8, .inl o.2.2.2.1)), (qs3, .inl ((xy x) 0, 8, .inl o.2.2.2.2.1)), (qs4, .inl ((xy x) 0, 8, .inl o.2.2.2.2.2.1)), (qs5, .inl ((xy x) 0, 8, .inl o.2.2.2.2.2.2))])) (hf : fX8_add s_n s_g s_h s_x s_y s_k p0 p1 p2 p3 p4 = some o)  : GW x 0 0 [(qs, .inr (7, [.int s_n, .ref qs1, .ref qs2, .ref qs3, .ref qs4, .ref qs5])), (qs1, .inl ((xy x) 0, 8, .inl s_g)), (qs2, .inl ((xy x) 0, 8, .inl s_h)), (qs3, .inl ((xy x) 0, 8, .inl s_x)), (qs4, .inl ((xy x) 0, 8, .inl s_y)), (qs5, .inl ((xy x) 0, 8, .inl s_k))] [(0, .ref qs), (1, .int p0), (2, .int p1), (3, .int p2), (4, .int p3), (5, .int p4)] 0 [] := by
  unfold fX8_add at hf
  refine g_iload_n C (pc := 0) 1 dX8_add_0 rfl rfl ?_
  obtain ⟨y_1, h_1, hf⟩ := k_bd hf
  refine g_callS0 C (pc := 1) (As := [.int p0]) (rest := []) (v1 := (some (.int y_1))) (st' := [.int y_1]) lkX1_isCode lSX8_44 (cX1_isCode_k (xl x) (xD x) (xy x) p0 y_1 h_1) rfl ⟨⟨Nat.le_of_ble_eq_true rfl, Nat.le_of_ble_eq_true rfl⟩, ⟨rfl, rfl⟩, ⟨Nat.le_of_ble_eq_true rfl, Nat.le_of_ble_eq_true rfl⟩⟩ rfl (Nat.le_of_ble_eq_true rfl) rfl dX8_add_1 ?_
  refine g_if_eq C (pc := 4) 19 dX8_add_4 (by decide) (fun c_4 => ?_) (fun c_4 => ?_)
  · replace hf := (k_if hf).1 c_4
    refine g_bipush C (pc := 19) dX8_add_19 ck_bipush_m2 ?_
    cases hf
    exact g_iret C E (pc := 21) dX8_add_21 ⟨rfl, rfl⟩
  · replace hf := (k_if hf).2 c_4
    refine g_iload_n C (pc := 7) 2 dX8_add_7 rfl rfl ?_
    refine g_iload_n C (pc := 8) 3 dX8_add_8 rfl rfl ?_
    refine g_iload C (pc := 9) 4 dX8_add_9 rfl ?_
    refine g_iload C (pc := 11) 5 dX8_add_11 rfl ?_
    obtain ⟨y_13, h_13, hf⟩ := k_bd hf
    refine g_callS0 C (pc := 13) (As := [.int p1, .int p2, .int p3, .int p4]) (rest := []) (v1 := (some (.int y_13))) (st' := [.int y_13]) lkX8_isAction lSX8_47 (cX8_isAction_k (xl x) (xD x) (xy x) p1 p2 p3 p4 y_13 h_13) rfl ⟨⟨Nat.le_of_ble_eq_true rfl, Nat.le_of_ble_eq_true rfl⟩, ⟨rfl, rfl⟩, ⟨Nat.le_of_ble_eq_true rfl, Nat.le_of_ble_eq_true rfl⟩⟩ rfl (Nat.le_of_ble_eq_true rfl) rfl dX8_add_13 ?_
    refine g_if_ne C (pc := 16) 22 dX8_add_16 (by decide) (fun c_16 => ?_) (fun c_16 => ?_)
    · replace hf := (k_if hf).2 c_16
      refine g_aload_n C (pc := 22) 0 dX8_add_22 rfl rfl ?_
      refine g_get C (pc := 23) lfX8_27 0 rfl rfl dX8_add_23 ?_
      refine g_bipush C (pc := 26) dX8_add_26 ck_bipush_8 ?_
      refine g_icmp_lt C (pc := 28) 34 dX8_add_28 (by decide) (fun c_28 => ?_) (fun c_28 => ?_)
      · replace hf := (k_if hf).1 c_28
        refine g_aload_n C (pc := 34) 0 dX8_add_34 rfl rfl ?_
        refine g_get C (pc := 35) lfX8_9 0 rfl rfl dX8_add_35 ?_
        refine g_aload_n C (pc := 38) 0 dX8_add_38 rfl rfl ?_
        refine g_get C (pc := 39) lfX8_27 0 rfl rfl dX8_add_39 ?_
        refine g_iload_n C (pc := 42) 1 dX8_add_42 rfl rfl ?_
        obtain ⟨i_43, hf⟩ := k_gd hf
        refine g_iast C (pc := 43) (ws' := [(qs, .inr (7, [.int s_n, .ref qs1, .ref qs2, .ref qs3, .ref qs4, .ref qs5])), (qs1, .inl ((xy x) 0, 8, .inl (upd s_g (ix s_n) p0))), (qs2, .inl ((xy x) 0, 8, .inl s_h)), (qs3, .inl ((xy x) 0, 8, .inl s_x)), (qs4, .inl ((xy x) 0, 8, .inl s_y)), (qs5, .inl ((xy x) 0, 8, .inl s_k))]) 1 rfl i_43 rfl dX8_add_43 ?_
        refine g_aload_n C (pc := 44) 0 dX8_add_44 rfl rfl ?_
        refine g_get C (pc := 45) lfX8_15 0 rfl rfl dX8_add_45 ?_
        refine g_aload_n C (pc := 48) 0 dX8_add_48 rfl rfl ?_
        refine g_get C (pc := 49) lfX8_27 0 rfl rfl dX8_add_49 ?_
        refine g_iload_n C (pc := 52) 2 dX8_add_52 rfl rfl ?_
        obtain ⟨i_53, hf⟩ := k_gd hf
        refine g_iast C (pc := 53) (ws' := [(qs, .inr (7, [.int s_n, .ref qs1, .ref qs2, .ref qs3, .ref qs4, .ref qs5])), (qs1, .inl ((xy x) 0, 8, .inl (upd s_g (ix s_n) p0))), (qs2, .inl ((xy x) 0, 8, .inl (upd s_h (ix s_n) p1))), (qs3, .inl ((xy x) 0, 8, .inl s_x)), (qs4, .inl ((xy x) 0, 8, .inl s_y)), (qs5, .inl ((xy x) 0, 8, .inl s_k))]) 2 rfl i_53 rfl dX8_add_53 ?_
        refine g_aload_n C (pc := 54) 0 dX8_add_54 rfl rfl ?_
        refine g_get C (pc := 55) lfX8_18 0 rfl rfl dX8_add_55 ?_
        refine g_aload_n C (pc := 58) 0 dX8_add_58 rfl rfl ?_
        refine g_get C (pc := 59) lfX8_27 0 rfl rfl dX8_add_59 ?_
        refine g_iload_n C (pc := 62) 3 dX8_add_62 rfl rfl ?_
        obtain ⟨i_63, hf⟩ := k_gd hf
        refine g_iast C (pc := 63) (ws' := [(qs, .inr (7, [.int s_n, .ref qs1, .ref qs2, .ref qs3, .ref qs4, .ref qs5])), (qs1, .inl ((xy x) 0, 8, .inl (upd s_g (ix s_n) p0))), (qs2, .inl ((xy x) 0, 8, .inl (upd s_h (ix s_n) p1))), (qs3, .inl ((xy x) 0, 8, .inl (upd s_x (ix s_n) p2))), (qs4, .inl ((xy x) 0, 8, .inl s_y)), (qs5, .inl ((xy x) 0, 8, .inl s_k))]) 3 rfl i_63 rfl dX8_add_63 ?_
        refine g_aload_n C (pc := 64) 0 dX8_add_64 rfl rfl ?_
        refine g_get C (pc := 65) lfX8_21 0 rfl rfl dX8_add_65 ?_
        refine g_aload_n C (pc := 68) 0 dX8_add_68 rfl rfl ?_
        refine g_get C (pc := 69) lfX8_27 0 rfl rfl dX8_add_69 ?_
        refine g_iload C (pc := 72) 4 dX8_add_72 rfl ?_
        obtain ⟨i_74, hf⟩ := k_gd hf
        refine g_iast C (pc := 74) (ws' := [(qs, .inr (7, [.int s_n, .ref qs1, .ref qs2, .ref qs3, .ref qs4, .ref qs5])), (qs1, .inl ((xy x) 0, 8, .inl (upd s_g (ix s_n) p0))), (qs2, .inl ((xy x) 0, 8, .inl (upd s_h (ix s_n) p1))), (qs3, .inl ((xy x) 0, 8, .inl (upd s_x (ix s_n) p2))), (qs4, .inl ((xy x) 0, 8, .inl (upd s_y (ix s_n) p3))), (qs5, .inl ((xy x) 0, 8, .inl s_k))]) 4 rfl i_74 rfl dX8_add_74 ?_
        refine g_aload_n C (pc := 75) 0 dX8_add_75 rfl rfl ?_
        refine g_get C (pc := 76) lfX8_24 0 rfl rfl dX8_add_76 ?_
        refine g_aload_n C (pc := 79) 0 dX8_add_79 rfl rfl ?_
        refine g_get C (pc := 80) lfX8_27 0 rfl rfl dX8_add_80 ?_
        refine g_iload C (pc := 83) 5 dX8_add_83 rfl ?_
        obtain ⟨i_85, hf⟩ := k_gd hf
        refine g_iast C (pc := 85) (ws' := [(qs, .inr (7, [.int s_n, .ref qs1, .ref qs2, .ref qs3, .ref qs4, .ref qs5])), (qs1, .inl ((xy x) 0, 8, .inl (upd s_g (ix s_n) p0))), (qs2, .inl ((xy x) 0, 8, .inl (upd s_h (ix s_n) p1))), (qs3, .inl ((xy x) 0, 8, .inl (upd s_x (ix s_n) p2))), (qs4, .inl ((xy x) 0, 8, .inl (upd s_y (ix s_n) p3))), (qs5, .inl ((xy x) 0, 8, .inl (upd s_k (ix s_n) p4)))]) 5 rfl i_85 rfl dX8_add_85 ?_
        refine g_aload_n C (pc := 86) 0 dX8_add_86 rfl rfl ?_
        refine g_dup C (pc := 87) dX8_add_87 rfl ?_
        refine g_get C (pc := 88) lfX8_27 0 rfl rfl dX8_add_88 ?_
        refine g_iconst C (pc := 91) dX8_add_91 ck_iconst_1 ?_
        refine g_iadd C (pc := 92) dX8_add_92 ?_
        refine g_put C (pc := 93) (ws' := [(qs, .inr (7, [.int (s_n + (1 : Int32)), .ref qs1, .ref qs2, .ref qs3, .ref qs4, .ref qs5])), (qs1, .inl ((xy x) 0, 8, .inl (upd s_g (ix s_n) p0))), (qs2, .inl ((xy x) 0, 8, .inl (upd s_h (ix s_n) p1))), (qs3, .inl ((xy x) 0, 8, .inl (upd s_x (ix s_n) p2))), (qs4, .inl ((xy x) 0, 8, .inl (upd s_y (ix s_n) p3))), (qs5, .inl ((xy x) 0, 8, .inl (upd s_k (ix s_n) p4)))]) lpX8_27 0 rfl rfl rfl rfl (Nat.le_of_ble_eq_true rfl) rfl dX8_add_93 ?_
        refine g_aload_n C (pc := 96) 0 dX8_add_96 rfl rfl ?_
        refine g_get C (pc := 97) lfX8_27 0 rfl rfl dX8_add_97 ?_
        refine g_iconst C (pc := 100) dX8_add_100 ck_iconst_1 ?_
        refine g_isub C (pc := 101) dX8_add_101 ?_
        cases hf
        exact g_iret C E (pc := 102) dX8_add_102 ⟨rfl, rfl⟩
      · replace hf := (k_if hf).2 c_28
        refine g_bipush C (pc := 31) dX8_add_31 ck_bipush_m4 ?_
        cases hf
        exact g_iret C E (pc := 33) dX8_add_33 ⟨rfl, rfl⟩
    · replace hf := (k_if hf).1 c_16
      refine g_bipush C (pc := 19) dX8_add_19 ck_bipush_m2 ?_
      cases hf
      exact g_iret C E (pc := 21) dX8_add_21 ⟨rfl, rfl⟩
set_option maxRecDepth 100000 in
theorem cX8_add_k (l : Launch) (D : va_G) (yy : Nat → ClassId) (qs : Nat) (s_n : Int32) (qs1 : Nat) (s_g : Nat → Int32) (qs2 : Nat) (s_h : Nat → Int32) (qs3 : Nat) (s_x : Nat → Int32) (qs4 : Nat) (s_y : Nat → Int32) (qs5 : Nat) (s_k : Nat → Int32) (p0 : Int32) (p1 : Int32) (p2 : Int32) (p3 : Int32) (p4 : Int32) (o : Int32 × Int32 × (Nat → Int32) × (Nat → Int32) × (Nat → Int32) × (Nat → Int32) × (Nat → Int32)) (hf : fX8_add s_n s_g s_h s_x s_y s_k p0 p1 p2 p3 p4 = some o) : GMet l yX8_add cX8_add 6 (some .int) rmX8_add 0 0 D yy [.ref qs, .int p0, .int p1, .int p2, .int p3, .int p4] [(qs, .inr (7, [.int s_n, .ref qs1, .ref qs2, .ref qs3, .ref qs4, .ref qs5])), (qs1, .inl (yy 0, 8, .inl s_g)), (qs2, .inl (yy 0, 8, .inl s_h)), (qs3, .inl (yy 0, 8, .inl s_x)), (qs4, .inl (yy 0, 8, .inl s_y)), (qs5, .inl (yy 0, 8, .inl s_k))] (fun zv zw => zv = some (.int o.1) ∧ zw = [(qs, .inr (7, [.int o.2.1, .ref qs1, .ref qs2, .ref qs3, .ref qs4, .ref qs5])), (qs1, .inl (yy 0, 8, .inl o.2.2.1)), (qs2, .inl (yy 0, 8, .inl o.2.2.2.1)), (qs3, .inl (yy 0, 8, .inl o.2.2.2.2.1)), (qs4, .inl (yy 0, 8, .inl o.2.2.2.2.2.1)), (qs5, .inl (yy 0, 8, .inl o.2.2.2.2.2.2))]) :=
  g_met (by decide +kernel) (Nat.le_of_ble_eq_true rfl) (fun x hl hD hy hn C E _ => by subst hD; subst hy; exact eX8_add x C hn qs s_n qs1 s_g qs2 s_h qs3 s_x qs4 s_y qs5 s_k p0 p1 p2 p3 p4 o E hf)
def rmX8_copyStep : Room := { frames := 0, cells := 0, slots := 0, locals := 0 }
def fX8_copyStep (s_g : Nat → Int32) (s_h : Nat → Int32) (s_x : Nat → Int32) (s_y : Nat → Int32) (s_k : Nat → Int32) (os_g : Nat → Int32) (os_h : Nat → Int32) (os_x : Nat → Int32) (os_y : Nat → Int32) (os_k : Nat → Int32) (p1 : Int32) (p2 : Int32) : Option ((Nat → Int32) × (Nat → Int32) × (Nat → Int32) × (Nat → Int32) × (Nat → Int32)) :=
  gd (gi p1 8) (gd (gi p2 8) (gd (gi p1 8) (gd (gi p2 8) (gd (gi p1 8) (gd (gi p2 8) (gd (gi p1 8) (gd (gi p2 8) (gd (gi p1 8) (gd (gi p2 8) (some (upd s_g (ix p2) (os_g (ix p1)), upd s_h (ix p2) (os_h (ix p1)), upd s_x (ix p2) (os_x (ix p1)), upd s_y (ix p2) (os_y (ix p1)), upd s_k (ix p2) (os_k (ix p1)))))))))))))
set_option maxRecDepth 100000 in
set_option maxHeartbeats 4000000 in
theorem eX8_copyStep (x : GX) (C : GC x cX8_copyStep RX8 rmX8_copyStep) (N : xn x = 4) (qs : Nat) (s_n : Int32) (qs1 : Nat) (s_g : Nat → Int32) (qs2 : Nat) (s_h : Nat → Int32) (qs3 : Nat) (s_x : Nat → Int32) (qs4 : Nat) (s_y : Nat → Int32) (qs5 : Nat) (s_k : Nat → Int32) (oqs : Nat) (os_n : Int32) (oqs1 : Nat) (os_g : Nat → Int32) (oqs2 : Nat) (os_h : Nat → Int32) (oqs3 : Nat) (os_x : Nat → Int32) (oqs4 : Nat) (os_y : Nat → Int32) (oqs5 : Nat) (os_k : Nat → Int32) (p1 : Int32) (p2 : Int32) (o : (Nat → Int32) × (Nat → Int32) × (Nat → Int32) × (Nat → Int32) × (Nat → Int32)) (E : GE x none 0 0 (fun zv zw => zv = none ∧ zw = [(qs, .inr (7, [.int s_n, .ref qs1, .ref qs2, .ref qs3, .ref qs4, .ref qs5])), (qs1, .inl ((xy x) 0, 8, .inl o.1)), (qs2, .inl ((xy x) 0, 8, .inl o.2.1)), (qs3, .inl ((xy x) 0, 8, .inl o.2.2.1)), (qs4, .inl ((xy x) 0, 8, .inl o.2.2.2.1)), (qs5, .inl ((xy x) 0, 8, .inl o.2.2.2.2)), (oqs, .inr (7, [.int os_n, .ref oqs1, .ref oqs2, .ref oqs3, .ref oqs4, .ref oqs5])), (oqs1, .inl ((xy x) 0, 8, .inl os_g)), (oqs2, .inl ((xy x) 0, 8, .inl os_h)), (oqs3, .inl ((xy x) 0, 8, .inl os_x)), (oqs4, .inl ((xy x) 0, 8, .inl os_y)), (oqs5, .inl ((xy x) 0, 8, .inl os_k))])) (hf : fX8_copyStep s_g s_h s_x s_y s_k os_g os_h os_x os_y os_k p1 p2 = some o)  : GW x 0 0 [(qs, .inr (7, [.int s_n, .ref qs1, .ref qs2, .ref qs3, .ref qs4, .ref qs5])), (qs1, .inl ((xy x) 0, 8, .inl s_g)), (qs2, .inl ((xy x) 0, 8, .inl s_h)), (qs3, .inl ((xy x) 0, 8, .inl s_x)), (qs4, .inl ((xy x) 0, 8, .inl s_y)), (qs5, .inl ((xy x) 0, 8, .inl s_k)), (oqs, .inr (7, [.int os_n, .ref oqs1, .ref oqs2, .ref oqs3, .ref oqs4, .ref oqs5])), (oqs1, .inl ((xy x) 0, 8, .inl os_g)), (oqs2, .inl ((xy x) 0, 8, .inl os_h)), (oqs3, .inl ((xy x) 0, 8, .inl os_x)), (oqs4, .inl ((xy x) 0, 8, .inl os_y)), (oqs5, .inl ((xy x) 0, 8, .inl os_k))] [(0, .ref qs), (1, .ref oqs), (2, .int p1), (3, .int p2)] 0 [] := by
  unfold fX8_copyStep at hf
  refine g_aload_n C (pc := 0) 0 dX8_copyStep_0 rfl rfl ?_
  refine g_get C (pc := 1) lfX8_9 0 rfl rfl dX8_copyStep_1 ?_
  refine g_iload_n C (pc := 4) 3 dX8_copyStep_4 rfl rfl ?_
  refine g_aload_n C (pc := 5) 1 dX8_copyStep_5 rfl rfl ?_
  refine g_get C (pc := 6) lfX8_9 6 rfl rfl dX8_copyStep_6 ?_
  refine g_iload_n C (pc := 9) 2 dX8_copyStep_9 rfl rfl ?_
  obtain ⟨i_10, hf⟩ := k_gd hf
  refine g_iald C (pc := 10) 7 rfl i_10 dX8_copyStep_10 ?_
  obtain ⟨i_11, hf⟩ := k_gd hf
  refine g_iast C (pc := 11) (ws' := [(qs, .inr (7, [.int s_n, .ref qs1, .ref qs2, .ref qs3, .ref qs4, .ref qs5])), (qs1, .inl ((xy x) 0, 8, .inl (upd s_g (ix p2) (os_g (ix p1))))), (qs2, .inl ((xy x) 0, 8, .inl s_h)), (qs3, .inl ((xy x) 0, 8, .inl s_x)), (qs4, .inl ((xy x) 0, 8, .inl s_y)), (qs5, .inl ((xy x) 0, 8, .inl s_k)), (oqs, .inr (7, [.int os_n, .ref oqs1, .ref oqs2, .ref oqs3, .ref oqs4, .ref oqs5])), (oqs1, .inl ((xy x) 0, 8, .inl os_g)), (oqs2, .inl ((xy x) 0, 8, .inl os_h)), (oqs3, .inl ((xy x) 0, 8, .inl os_x)), (oqs4, .inl ((xy x) 0, 8, .inl os_y)), (oqs5, .inl ((xy x) 0, 8, .inl os_k))]) 1 rfl i_11 rfl dX8_copyStep_11 ?_
  refine g_aload_n C (pc := 12) 0 dX8_copyStep_12 rfl rfl ?_
  refine g_get C (pc := 13) lfX8_15 0 rfl rfl dX8_copyStep_13 ?_
  refine g_iload_n C (pc := 16) 3 dX8_copyStep_16 rfl rfl ?_
  refine g_aload_n C (pc := 17) 1 dX8_copyStep_17 rfl rfl ?_
  refine g_get C (pc := 18) lfX8_15 6 rfl rfl dX8_copyStep_18 ?_
  refine g_iload_n C (pc := 21) 2 dX8_copyStep_21 rfl rfl ?_
  obtain ⟨i_22, hf⟩ := k_gd hf
  refine g_iald C (pc := 22) 8 rfl i_22 dX8_copyStep_22 ?_
  obtain ⟨i_23, hf⟩ := k_gd hf
  refine g_iast C (pc := 23) (ws' := [(qs, .inr (7, [.int s_n, .ref qs1, .ref qs2, .ref qs3, .ref qs4, .ref qs5])), (qs1, .inl ((xy x) 0, 8, .inl (upd s_g (ix p2) (os_g (ix p1))))), (qs2, .inl ((xy x) 0, 8, .inl (upd s_h (ix p2) (os_h (ix p1))))), (qs3, .inl ((xy x) 0, 8, .inl s_x)), (qs4, .inl ((xy x) 0, 8, .inl s_y)), (qs5, .inl ((xy x) 0, 8, .inl s_k)), (oqs, .inr (7, [.int os_n, .ref oqs1, .ref oqs2, .ref oqs3, .ref oqs4, .ref oqs5])), (oqs1, .inl ((xy x) 0, 8, .inl os_g)), (oqs2, .inl ((xy x) 0, 8, .inl os_h)), (oqs3, .inl ((xy x) 0, 8, .inl os_x)), (oqs4, .inl ((xy x) 0, 8, .inl os_y)), (oqs5, .inl ((xy x) 0, 8, .inl os_k))]) 2 rfl i_23 rfl dX8_copyStep_23 ?_
  refine g_aload_n C (pc := 24) 0 dX8_copyStep_24 rfl rfl ?_
  refine g_get C (pc := 25) lfX8_18 0 rfl rfl dX8_copyStep_25 ?_
  refine g_iload_n C (pc := 28) 3 dX8_copyStep_28 rfl rfl ?_
  refine g_aload_n C (pc := 29) 1 dX8_copyStep_29 rfl rfl ?_
  refine g_get C (pc := 30) lfX8_18 6 rfl rfl dX8_copyStep_30 ?_
  refine g_iload_n C (pc := 33) 2 dX8_copyStep_33 rfl rfl ?_
  obtain ⟨i_34, hf⟩ := k_gd hf
  refine g_iald C (pc := 34) 9 rfl i_34 dX8_copyStep_34 ?_
  obtain ⟨i_35, hf⟩ := k_gd hf
  refine g_iast C (pc := 35) (ws' := [(qs, .inr (7, [.int s_n, .ref qs1, .ref qs2, .ref qs3, .ref qs4, .ref qs5])), (qs1, .inl ((xy x) 0, 8, .inl (upd s_g (ix p2) (os_g (ix p1))))), (qs2, .inl ((xy x) 0, 8, .inl (upd s_h (ix p2) (os_h (ix p1))))), (qs3, .inl ((xy x) 0, 8, .inl (upd s_x (ix p2) (os_x (ix p1))))), (qs4, .inl ((xy x) 0, 8, .inl s_y)), (qs5, .inl ((xy x) 0, 8, .inl s_k)), (oqs, .inr (7, [.int os_n, .ref oqs1, .ref oqs2, .ref oqs3, .ref oqs4, .ref oqs5])), (oqs1, .inl ((xy x) 0, 8, .inl os_g)), (oqs2, .inl ((xy x) 0, 8, .inl os_h)), (oqs3, .inl ((xy x) 0, 8, .inl os_x)), (oqs4, .inl ((xy x) 0, 8, .inl os_y)), (oqs5, .inl ((xy x) 0, 8, .inl os_k))]) 3 rfl i_35 rfl dX8_copyStep_35 ?_
  refine g_aload_n C (pc := 36) 0 dX8_copyStep_36 rfl rfl ?_
  refine g_get C (pc := 37) lfX8_21 0 rfl rfl dX8_copyStep_37 ?_
  refine g_iload_n C (pc := 40) 3 dX8_copyStep_40 rfl rfl ?_
  refine g_aload_n C (pc := 41) 1 dX8_copyStep_41 rfl rfl ?_
  refine g_get C (pc := 42) lfX8_21 6 rfl rfl dX8_copyStep_42 ?_
  refine g_iload_n C (pc := 45) 2 dX8_copyStep_45 rfl rfl ?_
  obtain ⟨i_46, hf⟩ := k_gd hf
  refine g_iald C (pc := 46) 10 rfl i_46 dX8_copyStep_46 ?_
  obtain ⟨i_47, hf⟩ := k_gd hf
  refine g_iast C (pc := 47) (ws' := [(qs, .inr (7, [.int s_n, .ref qs1, .ref qs2, .ref qs3, .ref qs4, .ref qs5])), (qs1, .inl ((xy x) 0, 8, .inl (upd s_g (ix p2) (os_g (ix p1))))), (qs2, .inl ((xy x) 0, 8, .inl (upd s_h (ix p2) (os_h (ix p1))))), (qs3, .inl ((xy x) 0, 8, .inl (upd s_x (ix p2) (os_x (ix p1))))), (qs4, .inl ((xy x) 0, 8, .inl (upd s_y (ix p2) (os_y (ix p1))))), (qs5, .inl ((xy x) 0, 8, .inl s_k)), (oqs, .inr (7, [.int os_n, .ref oqs1, .ref oqs2, .ref oqs3, .ref oqs4, .ref oqs5])), (oqs1, .inl ((xy x) 0, 8, .inl os_g)), (oqs2, .inl ((xy x) 0, 8, .inl os_h)), (oqs3, .inl ((xy x) 0, 8, .inl os_x)), (oqs4, .inl ((xy x) 0, 8, .inl os_y)), (oqs5, .inl ((xy x) 0, 8, .inl os_k))]) 4 rfl i_47 rfl dX8_copyStep_47 ?_
  refine g_aload_n C (pc := 48) 0 dX8_copyStep_48 rfl rfl ?_
  refine g_get C (pc := 49) lfX8_24 0 rfl rfl dX8_copyStep_49 ?_
  refine g_iload_n C (pc := 52) 3 dX8_copyStep_52 rfl rfl ?_
  refine g_aload_n C (pc := 53) 1 dX8_copyStep_53 rfl rfl ?_
  refine g_get C (pc := 54) lfX8_24 6 rfl rfl dX8_copyStep_54 ?_
  refine g_iload_n C (pc := 57) 2 dX8_copyStep_57 rfl rfl ?_
  obtain ⟨i_58, hf⟩ := k_gd hf
  refine g_iald C (pc := 58) 11 rfl i_58 dX8_copyStep_58 ?_
  obtain ⟨i_59, hf⟩ := k_gd hf
  refine g_iast C (pc := 59) (ws' := [(qs, .inr (7, [.int s_n, .ref qs1, .ref qs2, .ref qs3, .ref qs4, .ref qs5])), (qs1, .inl ((xy x) 0, 8, .inl (upd s_g (ix p2) (os_g (ix p1))))), (qs2, .inl ((xy x) 0, 8, .inl (upd s_h (ix p2) (os_h (ix p1))))), (qs3, .inl ((xy x) 0, 8, .inl (upd s_x (ix p2) (os_x (ix p1))))), (qs4, .inl ((xy x) 0, 8, .inl (upd s_y (ix p2) (os_y (ix p1))))), (qs5, .inl ((xy x) 0, 8, .inl (upd s_k (ix p2) (os_k (ix p1))))), (oqs, .inr (7, [.int os_n, .ref oqs1, .ref oqs2, .ref oqs3, .ref oqs4, .ref oqs5])), (oqs1, .inl ((xy x) 0, 8, .inl os_g)), (oqs2, .inl ((xy x) 0, 8, .inl os_h)), (oqs3, .inl ((xy x) 0, 8, .inl os_x)), (oqs4, .inl ((xy x) 0, 8, .inl os_y)), (oqs5, .inl ((xy x) 0, 8, .inl os_k))]) 5 rfl i_59 rfl dX8_copyStep_59 ?_
  cases hf
  exact g_vret C E (pc := 60) dX8_copyStep_60 ⟨rfl, rfl⟩
set_option maxRecDepth 100000 in
theorem cX8_copyStep_k (l : Launch) (D : va_G) (yy : Nat → ClassId) (qs : Nat) (s_n : Int32) (qs1 : Nat) (s_g : Nat → Int32) (qs2 : Nat) (s_h : Nat → Int32) (qs3 : Nat) (s_x : Nat → Int32) (qs4 : Nat) (s_y : Nat → Int32) (qs5 : Nat) (s_k : Nat → Int32) (oqs : Nat) (os_n : Int32) (oqs1 : Nat) (os_g : Nat → Int32) (oqs2 : Nat) (os_h : Nat → Int32) (oqs3 : Nat) (os_x : Nat → Int32) (oqs4 : Nat) (os_y : Nat → Int32) (oqs5 : Nat) (os_k : Nat → Int32) (p1 : Int32) (p2 : Int32) (o : (Nat → Int32) × (Nat → Int32) × (Nat → Int32) × (Nat → Int32) × (Nat → Int32)) (hf : fX8_copyStep s_g s_h s_x s_y s_k os_g os_h os_x os_y os_k p1 p2 = some o) : GMet l yX8_copyStep cX8_copyStep 4 none rmX8_copyStep 0 0 D yy [.ref qs, .ref oqs, .int p1, .int p2] [(qs, .inr (7, [.int s_n, .ref qs1, .ref qs2, .ref qs3, .ref qs4, .ref qs5])), (qs1, .inl (yy 0, 8, .inl s_g)), (qs2, .inl (yy 0, 8, .inl s_h)), (qs3, .inl (yy 0, 8, .inl s_x)), (qs4, .inl (yy 0, 8, .inl s_y)), (qs5, .inl (yy 0, 8, .inl s_k)), (oqs, .inr (7, [.int os_n, .ref oqs1, .ref oqs2, .ref oqs3, .ref oqs4, .ref oqs5])), (oqs1, .inl (yy 0, 8, .inl os_g)), (oqs2, .inl (yy 0, 8, .inl os_h)), (oqs3, .inl (yy 0, 8, .inl os_x)), (oqs4, .inl (yy 0, 8, .inl os_y)), (oqs5, .inl (yy 0, 8, .inl os_k))] (fun zv zw => zv = none ∧ zw = [(qs, .inr (7, [.int s_n, .ref qs1, .ref qs2, .ref qs3, .ref qs4, .ref qs5])), (qs1, .inl (yy 0, 8, .inl o.1)), (qs2, .inl (yy 0, 8, .inl o.2.1)), (qs3, .inl (yy 0, 8, .inl o.2.2.1)), (qs4, .inl (yy 0, 8, .inl o.2.2.2.1)), (qs5, .inl (yy 0, 8, .inl o.2.2.2.2)), (oqs, .inr (7, [.int os_n, .ref oqs1, .ref oqs2, .ref oqs3, .ref oqs4, .ref oqs5])), (oqs1, .inl (yy 0, 8, .inl os_g)), (oqs2, .inl (yy 0, 8, .inl os_h)), (oqs3, .inl (yy 0, 8, .inl os_x)), (oqs4, .inl (yy 0, 8, .inl os_y)), (oqs5, .inl (yy 0, 8, .inl os_k))]) :=
  g_met (by decide +kernel) (Nat.le_of_ble_eq_true rfl) (fun x hl hD hy hn C E _ => by subst hD; subst hy; exact eX8_copyStep x C hn qs s_n qs1 s_g qs2 s_h qs3 s_x qs4 s_y qs5 s_k oqs os_n oqs1 os_g oqs2 os_h oqs3 os_x oqs4 os_y oqs5 os_k p1 p2 o E hf)
def rmX8_copySteps : Room := { frames := 0, cells := 0, slots := 0, locals := 0 }
def fX8_copySteps (s_g : Nat → Int32) (s_h : Nat → Int32) (s_x : Nat → Int32) (s_y : Nat → Int32) (s_k : Nat → Int32) (p1 : Int32) (p2 : Int32) : Option ((Nat → Int32) × (Nat → Int32) × (Nat → Int32) × (Nat → Int32) × (Nat → Int32)) :=
  gd (gi p1 8) (gd (gi p2 8) (gd (gi p1 8) (gd (gi p2 8) (gd (gi p1 8) (gd (gi p2 8) (gd (gi p1 8) (gd (gi p2 8) (gd (gi p1 8) (gd (gi p2 8) (some (upd s_g (ix p2) (s_g (ix p1)), upd s_h (ix p2) (s_h (ix p1)), upd s_x (ix p2) (s_x (ix p1)), upd s_y (ix p2) (s_y (ix p1)), upd s_k (ix p2) (s_k (ix p1)))))))))))))
set_option maxRecDepth 100000 in
set_option maxHeartbeats 4000000 in
theorem eX8_copySteps (x : GX) (C : GC x cX8_copyStep RX8 rmX8_copySteps) (N : xn x = 4) (qs : Nat) (s_n : Int32) (qs1 : Nat) (s_g : Nat → Int32) (qs2 : Nat) (s_h : Nat → Int32) (qs3 : Nat) (s_x : Nat → Int32) (qs4 : Nat) (s_y : Nat → Int32) (qs5 : Nat) (s_k : Nat → Int32) (p1 : Int32) (p2 : Int32) (o : (Nat → Int32) × (Nat → Int32) × (Nat → Int32) × (Nat → Int32) × (Nat → Int32)) (E : GE x none 0 0 (fun zv zw => zv = none ∧ zw = [(qs, .inr (7, [.int s_n, .ref qs1, .ref qs2, .ref qs3, .ref qs4, .ref qs5])), (qs1, .inl ((xy x) 0, 8, .inl o.1)), (qs2, .inl ((xy x) 0, 8, .inl o.2.1)), (qs3, .inl ((xy x) 0, 8, .inl o.2.2.1)), (qs4, .inl ((xy x) 0, 8, .inl o.2.2.2.1)), (qs5, .inl ((xy x) 0, 8, .inl o.2.2.2.2))])) (hf : fX8_copySteps s_g s_h s_x s_y s_k p1 p2 = some o)  : GW x 0 0 [(qs, .inr (7, [.int s_n, .ref qs1, .ref qs2, .ref qs3, .ref qs4, .ref qs5])), (qs1, .inl ((xy x) 0, 8, .inl s_g)), (qs2, .inl ((xy x) 0, 8, .inl s_h)), (qs3, .inl ((xy x) 0, 8, .inl s_x)), (qs4, .inl ((xy x) 0, 8, .inl s_y)), (qs5, .inl ((xy x) 0, 8, .inl s_k))] [(0, .ref qs), (1, .ref qs), (2, .int p1), (3, .int p2)] 0 [] := by
  unfold fX8_copySteps at hf
  refine g_aload_n C (pc := 0) 0 dX8_copyStep_0 rfl rfl ?_
  refine g_get C (pc := 1) lfX8_9 0 rfl rfl dX8_copyStep_1 ?_
  refine g_iload_n C (pc := 4) 3 dX8_copyStep_4 rfl rfl ?_
  refine g_aload_n C (pc := 5) 1 dX8_copyStep_5 rfl rfl ?_
  refine g_get C (pc := 6) lfX8_9 0 rfl rfl dX8_copyStep_6 ?_
  refine g_iload_n C (pc := 9) 2 dX8_copyStep_9 rfl rfl ?_
  obtain ⟨i_10, hf⟩ := k_gd hf
  refine g_iald C (pc := 10) 1 rfl i_10 dX8_copyStep_10 ?_
  obtain ⟨i_11, hf⟩ := k_gd hf
  refine g_iast C (pc := 11) (ws' := [(qs, .inr (7, [.int s_n, .ref qs1, .ref qs2, .ref qs3, .ref qs4, .ref qs5])), (qs1, .inl ((xy x) 0, 8, .inl (upd s_g (ix p2) (s_g (ix p1))))), (qs2, .inl ((xy x) 0, 8, .inl s_h)), (qs3, .inl ((xy x) 0, 8, .inl s_x)), (qs4, .inl ((xy x) 0, 8, .inl s_y)), (qs5, .inl ((xy x) 0, 8, .inl s_k))]) 1 rfl i_11 rfl dX8_copyStep_11 ?_
  refine g_aload_n C (pc := 12) 0 dX8_copyStep_12 rfl rfl ?_
  refine g_get C (pc := 13) lfX8_15 0 rfl rfl dX8_copyStep_13 ?_
  refine g_iload_n C (pc := 16) 3 dX8_copyStep_16 rfl rfl ?_
  refine g_aload_n C (pc := 17) 1 dX8_copyStep_17 rfl rfl ?_
  refine g_get C (pc := 18) lfX8_15 0 rfl rfl dX8_copyStep_18 ?_
  refine g_iload_n C (pc := 21) 2 dX8_copyStep_21 rfl rfl ?_
  obtain ⟨i_22, hf⟩ := k_gd hf
  refine g_iald C (pc := 22) 2 rfl i_22 dX8_copyStep_22 ?_
  obtain ⟨i_23, hf⟩ := k_gd hf
  refine g_iast C (pc := 23) (ws' := [(qs, .inr (7, [.int s_n, .ref qs1, .ref qs2, .ref qs3, .ref qs4, .ref qs5])), (qs1, .inl ((xy x) 0, 8, .inl (upd s_g (ix p2) (s_g (ix p1))))), (qs2, .inl ((xy x) 0, 8, .inl (upd s_h (ix p2) (s_h (ix p1))))), (qs3, .inl ((xy x) 0, 8, .inl s_x)), (qs4, .inl ((xy x) 0, 8, .inl s_y)), (qs5, .inl ((xy x) 0, 8, .inl s_k))]) 2 rfl i_23 rfl dX8_copyStep_23 ?_
  refine g_aload_n C (pc := 24) 0 dX8_copyStep_24 rfl rfl ?_
  refine g_get C (pc := 25) lfX8_18 0 rfl rfl dX8_copyStep_25 ?_
  refine g_iload_n C (pc := 28) 3 dX8_copyStep_28 rfl rfl ?_
  refine g_aload_n C (pc := 29) 1 dX8_copyStep_29 rfl rfl ?_
  refine g_get C (pc := 30) lfX8_18 0 rfl rfl dX8_copyStep_30 ?_
  refine g_iload_n C (pc := 33) 2 dX8_copyStep_33 rfl rfl ?_
  obtain ⟨i_34, hf⟩ := k_gd hf
  refine g_iald C (pc := 34) 3 rfl i_34 dX8_copyStep_34 ?_
  obtain ⟨i_35, hf⟩ := k_gd hf
  refine g_iast C (pc := 35) (ws' := [(qs, .inr (7, [.int s_n, .ref qs1, .ref qs2, .ref qs3, .ref qs4, .ref qs5])), (qs1, .inl ((xy x) 0, 8, .inl (upd s_g (ix p2) (s_g (ix p1))))), (qs2, .inl ((xy x) 0, 8, .inl (upd s_h (ix p2) (s_h (ix p1))))), (qs3, .inl ((xy x) 0, 8, .inl (upd s_x (ix p2) (s_x (ix p1))))), (qs4, .inl ((xy x) 0, 8, .inl s_y)), (qs5, .inl ((xy x) 0, 8, .inl s_k))]) 3 rfl i_35 rfl dX8_copyStep_35 ?_
  refine g_aload_n C (pc := 36) 0 dX8_copyStep_36 rfl rfl ?_
  refine g_get C (pc := 37) lfX8_21 0 rfl rfl dX8_copyStep_37 ?_
  refine g_iload_n C (pc := 40) 3 dX8_copyStep_40 rfl rfl ?_
  refine g_aload_n C (pc := 41) 1 dX8_copyStep_41 rfl rfl ?_
  refine g_get C (pc := 42) lfX8_21 0 rfl rfl dX8_copyStep_42 ?_
  refine g_iload_n C (pc := 45) 2 dX8_copyStep_45 rfl rfl ?_
  obtain ⟨i_46, hf⟩ := k_gd hf
  refine g_iald C (pc := 46) 4 rfl i_46 dX8_copyStep_46 ?_
  obtain ⟨i_47, hf⟩ := k_gd hf
  refine g_iast C (pc := 47) (ws' := [(qs, .inr (7, [.int s_n, .ref qs1, .ref qs2, .ref qs3, .ref qs4, .ref qs5])), (qs1, .inl ((xy x) 0, 8, .inl (upd s_g (ix p2) (s_g (ix p1))))), (qs2, .inl ((xy x) 0, 8, .inl (upd s_h (ix p2) (s_h (ix p1))))), (qs3, .inl ((xy x) 0, 8, .inl (upd s_x (ix p2) (s_x (ix p1))))), (qs4, .inl ((xy x) 0, 8, .inl (upd s_y (ix p2) (s_y (ix p1))))), (qs5, .inl ((xy x) 0, 8, .inl s_k))]) 4 rfl i_47 rfl dX8_copyStep_47 ?_
  refine g_aload_n C (pc := 48) 0 dX8_copyStep_48 rfl rfl ?_
  refine g_get C (pc := 49) lfX8_24 0 rfl rfl dX8_copyStep_49 ?_
  refine g_iload_n C (pc := 52) 3 dX8_copyStep_52 rfl rfl ?_
  refine g_aload_n C (pc := 53) 1 dX8_copyStep_53 rfl rfl ?_
  refine g_get C (pc := 54) lfX8_24 0 rfl rfl dX8_copyStep_54 ?_
  refine g_iload_n C (pc := 57) 2 dX8_copyStep_57 rfl rfl ?_
  obtain ⟨i_58, hf⟩ := k_gd hf
  refine g_iald C (pc := 58) 5 rfl i_58 dX8_copyStep_58 ?_
  obtain ⟨i_59, hf⟩ := k_gd hf
  refine g_iast C (pc := 59) (ws' := [(qs, .inr (7, [.int s_n, .ref qs1, .ref qs2, .ref qs3, .ref qs4, .ref qs5])), (qs1, .inl ((xy x) 0, 8, .inl (upd s_g (ix p2) (s_g (ix p1))))), (qs2, .inl ((xy x) 0, 8, .inl (upd s_h (ix p2) (s_h (ix p1))))), (qs3, .inl ((xy x) 0, 8, .inl (upd s_x (ix p2) (s_x (ix p1))))), (qs4, .inl ((xy x) 0, 8, .inl (upd s_y (ix p2) (s_y (ix p1))))), (qs5, .inl ((xy x) 0, 8, .inl (upd s_k (ix p2) (s_k (ix p1)))))]) 5 rfl i_59 rfl dX8_copyStep_59 ?_
  cases hf
  exact g_vret C E (pc := 60) dX8_copyStep_60 ⟨rfl, rfl⟩
set_option maxRecDepth 100000 in
theorem cX8_copySteps_k (l : Launch) (D : va_G) (yy : Nat → ClassId) (qs : Nat) (s_n : Int32) (qs1 : Nat) (s_g : Nat → Int32) (qs2 : Nat) (s_h : Nat → Int32) (qs3 : Nat) (s_x : Nat → Int32) (qs4 : Nat) (s_y : Nat → Int32) (qs5 : Nat) (s_k : Nat → Int32) (p1 : Int32) (p2 : Int32) (o : (Nat → Int32) × (Nat → Int32) × (Nat → Int32) × (Nat → Int32) × (Nat → Int32)) (hf : fX8_copySteps s_g s_h s_x s_y s_k p1 p2 = some o) : GMet l yX8_copyStep cX8_copyStep 4 none rmX8_copySteps 0 0 D yy [.ref qs, .ref qs, .int p1, .int p2] [(qs, .inr (7, [.int s_n, .ref qs1, .ref qs2, .ref qs3, .ref qs4, .ref qs5])), (qs1, .inl (yy 0, 8, .inl s_g)), (qs2, .inl (yy 0, 8, .inl s_h)), (qs3, .inl (yy 0, 8, .inl s_x)), (qs4, .inl (yy 0, 8, .inl s_y)), (qs5, .inl (yy 0, 8, .inl s_k))] (fun zv zw => zv = none ∧ zw = [(qs, .inr (7, [.int s_n, .ref qs1, .ref qs2, .ref qs3, .ref qs4, .ref qs5])), (qs1, .inl (yy 0, 8, .inl o.1)), (qs2, .inl (yy 0, 8, .inl o.2.1)), (qs3, .inl (yy 0, 8, .inl o.2.2.1)), (qs4, .inl (yy 0, 8, .inl o.2.2.2.1)), (qs5, .inl (yy 0, 8, .inl o.2.2.2.2))]) :=
  g_met (by decide +kernel) (Nat.le_of_ble_eq_true rfl) (fun x hl hD hy hn C E _ => by subst hD; subst hy; exact eX8_copySteps x C hn qs s_n qs1 s_g qs2 s_h qs3 s_x qs4 s_y qs5 s_k p1 p2 o E hf)
def rmX8_remove : Room := { frames := 1, cells := 0, slots := 0, locals := 23 }
def gX8_remove_14 (s_n : Int32) (a_14 : Int32 × (Nat → Int32) × (Nat → Int32) × (Nat → Int32) × (Nat → Int32) × (Nat → Int32)) : Option ((Int32 × (Nat → Int32) × (Nat → Int32) × (Nat → Int32) × (Nat → Int32) × (Nat → Int32)) ⊕ (Int32 × (Nat → Int32) × (Nat → Int32) × (Nat → Int32) × (Nat → Int32) × (Nat → Int32))) :=
  if s_n ≤ a_14.1 then some (.inr (a_14.1, a_14.2.1, a_14.2.2.1, a_14.2.2.2.1, a_14.2.2.2.2.1, a_14.2.2.2.2.2)) else bd (fX8_copySteps a_14.2.1 a_14.2.2.1 a_14.2.2.2.1 a_14.2.2.2.2.1 a_14.2.2.2.2.2 a_14.1 (a_14.1 - (1 : Int32))) fun y_28 : (Nat → Int32) × (Nat → Int32) × (Nat → Int32) × (Nat → Int32) × (Nat → Int32) => some (.inl (a_14.1 + 1, y_28.1, y_28.2.1, y_28.2.2.1, y_28.2.2.2.1, y_28.2.2.2.2))
set_option maxRecDepth 100000 in
set_option maxHeartbeats 4000000 in
theorem bX8_remove_14 (x : GX) (C : GC x cX8_remove RX8 rmX8_remove) (N : xn x = 3) (qs : Nat) (s_n : Int32) (qs1 : Nat) (qs2 : Nat) (qs3 : Nat) (qs4 : Nat) (qs5 : Nat) (a_14 : Int32 × (Nat → Int32) × (Nat → Int32) × (Nat → Int32) × (Nat → Int32) × (Nat → Int32)) (r : (Int32 × (Nat → Int32) × (Nat → Int32) × (Nat → Int32) × (Nat → Int32) × (Nat → Int32)) ⊕ (Int32 × (Nat → Int32) × (Nat → Int32) × (Nat → Int32) × (Nat → Int32) × (Nat → Int32)))  (hf : gX8_remove_14 s_n a_14 = some r) (kn : ∀ e : Int32 × (Nat → Int32) × (Nat → Int32) × (Nat → Int32) × (Nat → Int32) × (Nat → Int32), r = .inl e → GW x 0 0 [(qs, .inr (7, [.int s_n, .ref qs1, .ref qs2, .ref qs3, .ref qs4, .ref qs5])), (qs1, .inl ((xy x) 0, 8, .inl e.2.1)), (qs2, .inl ((xy x) 0, 8, .inl e.2.2.1)), (qs3, .inl ((xy x) 0, 8, .inl e.2.2.2.1)), (qs4, .inl ((xy x) 0, 8, .inl e.2.2.2.2.1)), (qs5, .inl ((xy x) 0, 8, .inl e.2.2.2.2.2))] [(0, .ref qs), (2, .int e.1)] 14 []) (kx : ∀ e : Int32 × (Nat → Int32) × (Nat → Int32) × (Nat → Int32) × (Nat → Int32) × (Nat → Int32), r = .inr e → GW x 0 0 [(qs, .inr (7, [.int s_n, .ref qs1, .ref qs2, .ref qs3, .ref qs4, .ref qs5])), (qs1, .inl ((xy x) 0, 8, .inl e.2.1)), (qs2, .inl ((xy x) 0, 8, .inl e.2.2.1)), (qs3, .inl ((xy x) 0, 8, .inl e.2.2.2.1)), (qs4, .inl ((xy x) 0, 8, .inl e.2.2.2.2.1)), (qs5, .inl ((xy x) 0, 8, .inl e.2.2.2.2.2))] [(0, .ref qs)] 37 []) : GW x 0 0 [(qs, .inr (7, [.int s_n, .ref qs1, .ref qs2, .ref qs3, .ref qs4, .ref qs5])), (qs1, .inl ((xy x) 0, 8, .inl a_14.2.1)), (qs2, .inl ((xy x) 0, 8, .inl a_14.2.2.1)), (qs3, .inl ((xy x) 0, 8, .inl a_14.2.2.2.1)), (qs4, .inl ((xy x) 0, 8, .inl a_14.2.2.2.2.1)), (qs5, .inl ((xy x) 0, 8, .inl a_14.2.2.2.2.2))] [(0, .ref qs), (2, .int a_14.1)] 14 [] := by
  unfold gX8_remove_14 at hf
  refine g_iload_n C (pc := 14) 1 dX8_remove_14 rfl rfl ?_
  refine g_aload_n C (pc := 15) 0 dX8_remove_15 rfl rfl ?_
  refine g_get C (pc := 16) lfX8_27 0 rfl rfl dX8_remove_16 ?_
  refine g_icmp_ge C (pc := 19) 37 dX8_remove_19 (by decide) (fun c_19 => ?_) (fun c_19 => ?_)
  · replace hf := (k_if hf).1 c_19
    cases hf
    exact g_lo [0] rfl (kx (a_14.1, a_14.2.1, a_14.2.2.1, a_14.2.2.2.1, a_14.2.2.2.2.1, a_14.2.2.2.2.2) rfl)
  · replace hf := (k_if hf).2 c_19
    refine g_aload_n C (pc := 22) 0 dX8_remove_22 rfl rfl ?_
    refine g_aload_n C (pc := 23) 0 dX8_remove_23 rfl rfl ?_
    refine g_iload_n C (pc := 24) 1 dX8_remove_24 rfl rfl ?_
    refine g_iload_n C (pc := 25) 1 dX8_remove_25 rfl rfl ?_
    refine g_iconst C (pc := 26) dX8_remove_26 ck_iconst_1 ?_
    refine g_isub C (pc := 27) dX8_remove_27 ?_
    obtain ⟨y_28, h_28, hf⟩ := k_bd hf
    refine g_callA C (pc := 28) (b := qs) (As := [.ref qs, .int a_14.1, .int (a_14.1 - (1 : Int32))]) (rest := []) (v1 := none) (st' := []) (w1 := [(qs, .inr (7, [.int s_n, .ref qs1, .ref qs2, .ref qs3, .ref qs4, .ref qs5])), (qs1, .inl ((xy x) 0, 8, .inl y_28.1)), (qs2, .inl ((xy x) 0, 8, .inl y_28.2.1)), (qs3, .inl ((xy x) 0, 8, .inl y_28.2.2.1)), (qs4, .inl ((xy x) 0, 8, .inl y_28.2.2.2.1)), (qs5, .inl ((xy x) 0, 8, .inl y_28.2.2.2.2))]) 0 lkX8_copyStep lVX8_31 (cX8_copySteps_k (xl x) (xD x) (xy x) qs s_n qs1 a_14.2.1 qs2 a_14.2.2.1 qs3 a_14.2.2.2.1 qs4 a_14.2.2.2.2.1 qs5 a_14.2.2.2.2.2 a_14.1 (a_14.1 - (1 : Int32)) y_28 h_28) rfl ⟨⟨Nat.le_of_ble_eq_true rfl, Nat.le_of_ble_eq_true rfl⟩, ⟨rfl, rfl⟩, ⟨Nat.le_of_ble_eq_true rfl, Nat.le_of_ble_eq_true rfl⟩⟩ rfl rfl rfl (Nat.le_of_ble_eq_true rfl) rfl dX8_remove_28 ?_
    refine g_iinc C (pc := 31) (v := a_14.1 + 1) (lo' := [(2, .int (a_14.1 + 1)), (0, .ref qs)]) 1 dX8_remove_31 rfl (congrArg (HAdd.hAdd _) ck_iinc_1) N rfl rfl ?_
    refine g_goto C (pc := 34) (tgt := 14) dX8_remove_34 (by decide) ?_
    cases hf
    exact g_lo [1, 0] rfl (kn (a_14.1 + 1, y_28.1, y_28.2.1, y_28.2.2.1, y_28.2.2.2.1, y_28.2.2.2.2) rfl)
def fX8_remove (s_n : Int32) (s_g : Nat → Int32) (s_h : Nat → Int32) (s_x : Nat → Int32) (s_y : Nat → Int32) (s_k : Nat → Int32) (p0 : Int32) : Option (Int32 × Int32 × (Nat → Int32) × (Nat → Int32) × (Nat → Int32) × (Nat → Int32) × (Nat → Int32)) :=
  bd (fX8_has s_n p0) fun y_2 : Int32 => if y_2 = 0 then some ((-1 : Int32), s_n, s_g, s_h, s_x, s_y, s_k) else bd (iter (gX8_remove_14 s_n) FU (p0 + (1 : Int32), s_g, s_h, s_x, s_y, s_k)) fun b_14 : Int32 × (Nat → Int32) × (Nat → Int32) × (Nat → Int32) × (Nat → Int32) × (Nat → Int32) => some (s_n - (1 : Int32), s_n - (1 : Int32), b_14.2.1, b_14.2.2.1, b_14.2.2.2.1, b_14.2.2.2.2.1, b_14.2.2.2.2.2)
set_option maxRecDepth 100000 in
set_option maxHeartbeats 4000000 in
theorem eX8_remove (x : GX) (C : GC x cX8_remove RX8 rmX8_remove) (N : xn x = 3) (qs : Nat) (s_n : Int32) (qs1 : Nat) (s_g : Nat → Int32) (qs2 : Nat) (s_h : Nat → Int32) (qs3 : Nat) (s_x : Nat → Int32) (qs4 : Nat) (s_y : Nat → Int32) (qs5 : Nat) (s_k : Nat → Int32) (p0 : Int32) (o : Int32 × Int32 × (Nat → Int32) × (Nat → Int32) × (Nat → Int32) × (Nat → Int32) × (Nat → Int32)) (E : GE x (some .int) 0 0 (fun zv zw => zv = some (.int o.1) ∧ zw = [(qs, .inr (7, [.int o.2.1, .ref qs1, .ref qs2, .ref qs3, .ref qs4, .ref qs5])), (qs1, .inl ((xy x) 0, 8, .inl o.2.2.1)), (qs2, .inl ((xy x) 0, 8, .inl o.2.2.2.1)), (qs3, .inl ((xy x) 0, 8, .inl o.2.2.2.2.1)), (qs4, .inl ((xy x) 0, 8, .inl o.2.2.2.2.2.1)), (qs5, .inl ((xy x) 0, 8, .inl o.2.2.2.2.2.2))])) (hf : fX8_remove s_n s_g s_h s_x s_y s_k p0 = some o)  : GW x 0 0 [(qs, .inr (7, [.int s_n, .ref qs1, .ref qs2, .ref qs3, .ref qs4, .ref qs5])), (qs1, .inl ((xy x) 0, 8, .inl s_g)), (qs2, .inl ((xy x) 0, 8, .inl s_h)), (qs3, .inl ((xy x) 0, 8, .inl s_x)), (qs4, .inl ((xy x) 0, 8, .inl s_y)), (qs5, .inl ((xy x) 0, 8, .inl s_k))] [(0, .ref qs), (1, .int p0)] 0 [] := by
  unfold fX8_remove at hf
  refine g_aload_n C (pc := 0) 0 dX8_remove_0 rfl rfl ?_
  refine g_iload_n C (pc := 1) 1 dX8_remove_1 rfl rfl ?_
  obtain ⟨y_2, h_2, hf⟩ := k_bd hf
  refine g_callA C (pc := 2) (b := qs) (As := [.int p0]) (rest := []) (v1 := (some (.int y_2))) (st' := [.int y_2]) (w1 := [(qs, .inr (7, [.int s_n, .ref qs1, .ref qs2, .ref qs3, .ref qs4, .ref qs5])), (qs1, .inl ((xy x) 0, 8, .inl s_g)), (qs2, .inl ((xy x) 0, 8, .inl s_h)), (qs3, .inl ((xy x) 0, 8, .inl s_x)), (qs4, .inl ((xy x) 0, 8, .inl s_y)), (qs5, .inl ((xy x) 0, 8, .inl s_k))]) 0 lkX8_has lVX8_51 (cX8_has_k (xl x) (xD x) (xy x) qs s_n qs1 s_g qs2 s_h qs3 s_x qs4 s_y qs5 s_k p0 y_2 h_2) rfl ⟨⟨Nat.le_of_ble_eq_true rfl, Nat.le_of_ble_eq_true rfl⟩, ⟨rfl, rfl⟩, ⟨Nat.le_of_ble_eq_true rfl, Nat.le_of_ble_eq_true rfl⟩⟩ rfl rfl rfl (Nat.le_of_ble_eq_true rfl) rfl dX8_remove_2 ?_
  refine g_if_ne C (pc := 5) 10 dX8_remove_5 (by decide) (fun c_5 => ?_) (fun c_5 => ?_)
  · replace hf := (k_if hf).2 c_5
    refine g_iload_n C (pc := 10) 1 dX8_remove_10 rfl rfl ?_
    refine g_iconst C (pc := 11) dX8_remove_11 ck_iconst_1 ?_
    refine g_iadd C (pc := 12) dX8_remove_12 ?_
    refine g_istore_n C (pc := 13) (lo' := [(2, .int (p0 + (1 : Int32))), (0, .ref qs), (1, .int p0)]) dX8_remove_13 rfl N rfl rfl ?_
    obtain ⟨b_14, hb_14, hf⟩ := k_bd hf
    refine g_lo [1, 0] rfl ?_
    refine g_loop (g := (gX8_remove_14 s_n)) (fun e : Int32 × (Nat → Int32) × (Nat → Int32) × (Nat → Int32) × (Nat → Int32) × (Nat → Int32) => [(qs, .inr (7, [.int s_n, .ref qs1, .ref qs2, .ref qs3, .ref qs4, .ref qs5])), (qs1, .inl ((xy x) 0, 8, .inl e.2.1)), (qs2, .inl ((xy x) 0, 8, .inl e.2.2.1)), (qs3, .inl ((xy x) 0, 8, .inl e.2.2.2.1)), (qs4, .inl ((xy x) 0, 8, .inl e.2.2.2.2.1)), (qs5, .inl ((xy x) 0, 8, .inl e.2.2.2.2.2))]) (fun e : Int32 × (Nat → Int32) × (Nat → Int32) × (Nat → Int32) × (Nat → Int32) × (Nat → Int32) => [(0, .ref qs), (2, .int e.1)]) 14 (fun e : Int32 × (Nat → Int32) × (Nat → Int32) × (Nat → Int32) × (Nat → Int32) × (Nat → Int32) => GW x 0 0 [(qs, .inr (7, [.int s_n, .ref qs1, .ref qs2, .ref qs3, .ref qs4, .ref qs5])), (qs1, .inl ((xy x) 0, 8, .inl e.2.1)), (qs2, .inl ((xy x) 0, 8, .inl e.2.2.1)), (qs3, .inl ((xy x) 0, 8, .inl e.2.2.2.1)), (qs4, .inl ((xy x) 0, 8, .inl e.2.2.2.2.1)), (qs5, .inl ((xy x) 0, 8, .inl e.2.2.2.2.2))] [(0, .ref qs)] 37 []) (fun a r hg kn kx => bX8_remove_14 x C N qs s_n qs1 qs2 qs3 qs4 qs5 a r hg kn kx) FU _ b_14 hb_14 ?_
    refine g_aload_n C (pc := 37) 0 dX8_remove_37 rfl rfl ?_
    refine g_dup C (pc := 38) dX8_remove_38 rfl ?_
    refine g_get C (pc := 39) lfX8_27 0 rfl rfl dX8_remove_39 ?_
    refine g_iconst C (pc := 42) dX8_remove_42 ck_iconst_1 ?_
    refine g_isub C (pc := 43) dX8_remove_43 ?_
    refine g_put C (pc := 44) (ws' := [(qs, .inr (7, [.int (s_n - (1 : Int32)), .ref qs1, .ref qs2, .ref qs3, .ref qs4, .ref qs5])), (qs1, .inl ((xy x) 0, 8, .inl b_14.2.1)), (qs2, .inl ((xy x) 0, 8, .inl b_14.2.2.1)), (qs3, .inl ((xy x) 0, 8, .inl b_14.2.2.2.1)), (qs4, .inl ((xy x) 0, 8, .inl b_14.2.2.2.2.1)), (qs5, .inl ((xy x) 0, 8, .inl b_14.2.2.2.2.2))]) lpX8_27 0 rfl rfl rfl rfl (Nat.le_of_ble_eq_true rfl) rfl dX8_remove_44 ?_
    refine g_aload_n C (pc := 47) 0 dX8_remove_47 rfl rfl ?_
    refine g_get C (pc := 48) lfX8_27 0 rfl rfl dX8_remove_48 ?_
    cases hf
    exact g_iret C E (pc := 51) dX8_remove_51 ⟨rfl, rfl⟩
  · replace hf := (k_if hf).1 c_5
    refine g_iconst C (pc := 8) dX8_remove_8 ck_iconst_m1 ?_
    cases hf
    exact g_iret C E (pc := 9) dX8_remove_9 ⟨rfl, rfl⟩
set_option maxRecDepth 100000 in
theorem cX8_remove_k (l : Launch) (D : va_G) (yy : Nat → ClassId) (qs : Nat) (s_n : Int32) (qs1 : Nat) (s_g : Nat → Int32) (qs2 : Nat) (s_h : Nat → Int32) (qs3 : Nat) (s_x : Nat → Int32) (qs4 : Nat) (s_y : Nat → Int32) (qs5 : Nat) (s_k : Nat → Int32) (p0 : Int32) (o : Int32 × Int32 × (Nat → Int32) × (Nat → Int32) × (Nat → Int32) × (Nat → Int32) × (Nat → Int32)) (hf : fX8_remove s_n s_g s_h s_x s_y s_k p0 = some o) : GMet l yX8_remove cX8_remove 3 (some .int) rmX8_remove 0 0 D yy [.ref qs, .int p0] [(qs, .inr (7, [.int s_n, .ref qs1, .ref qs2, .ref qs3, .ref qs4, .ref qs5])), (qs1, .inl (yy 0, 8, .inl s_g)), (qs2, .inl (yy 0, 8, .inl s_h)), (qs3, .inl (yy 0, 8, .inl s_x)), (qs4, .inl (yy 0, 8, .inl s_y)), (qs5, .inl (yy 0, 8, .inl s_k))] (fun zv zw => zv = some (.int o.1) ∧ zw = [(qs, .inr (7, [.int o.2.1, .ref qs1, .ref qs2, .ref qs3, .ref qs4, .ref qs5])), (qs1, .inl (yy 0, 8, .inl o.2.2.1)), (qs2, .inl (yy 0, 8, .inl o.2.2.2.1)), (qs3, .inl (yy 0, 8, .inl o.2.2.2.2.1)), (qs4, .inl (yy 0, 8, .inl o.2.2.2.2.2.1)), (qs5, .inl (yy 0, 8, .inl o.2.2.2.2.2.2))]) :=
  g_met (by decide +kernel) (Nat.le_of_ble_eq_true rfl) (fun x hl hD hy hn C E _ => by subst hD; subst hy; exact eX8_remove x C hn qs s_n qs1 s_g qs2 s_h qs3 s_x qs4 s_y qs5 s_k p0 o E hf)
def rmX8_replace : Room := { frames := 0, cells := 0, slots := 0, locals := 0 }
def fX8_replace (p0 : Int32) (p1 : Int32) (p2 : Int32) : Option (Int32) :=
  some ((p0 &&& (((7 : Int32) <<< (((6 : Int32) - ((3 : Int32) * p1)) &&& 31)) ^^^ (-1 : Int32))) ||| (p2 <<< (((6 : Int32) - ((3 : Int32) * p1)) &&& 31)))
set_option maxRecDepth 100000 in
set_option maxHeartbeats 4000000 in
theorem eX8_replace (x : GX) (C : GC x cX8_replace RX8 rmX8_replace) (N : xn x = 4) (p0 : Int32) (p1 : Int32) (p2 : Int32) (o : Int32) (E : GE x (some .int) 0 0 (fun zv zw => zv = some (.int o) ∧ zw = [])) (hf : fX8_replace p0 p1 p2 = some o)  : GW x 0 0 [] [(0, .int p0), (1, .int p1), (2, .int p2)] 0 [] := by
  unfold fX8_replace at hf
  refine g_bipush C (pc := 0) dX8_replace_0 ck_bipush_6 ?_
  refine g_iconst C (pc := 2) dX8_replace_2 ck_iconst_3 ?_
  refine g_iload_n C (pc := 3) 1 dX8_replace_3 rfl rfl ?_
  refine g_imul C (pc := 4) dX8_replace_4 ?_
  refine g_isub C (pc := 5) dX8_replace_5 ?_
  refine g_istore_n C (pc := 6) (lo' := [(3, .int ((6 : Int32) - ((3 : Int32) * p1))), (0, .int p0), (1, .int p1), (2, .int p2)]) dX8_replace_6 rfl N rfl rfl ?_
  refine g_iload_n C (pc := 7) 1 dX8_replace_7 rfl rfl ?_
  refine g_bipush C (pc := 8) dX8_replace_8 ck_bipush_7 ?_
  refine g_iload_n C (pc := 10) 0 dX8_replace_10 rfl rfl ?_
  refine g_ishl C (pc := 11) dX8_replace_11 ?_
  refine g_iconst C (pc := 12) dX8_replace_12 ck_iconst_m1 ?_
  refine g_ixor C (pc := 13) dX8_replace_13 ?_
  refine g_iand C (pc := 14) dX8_replace_14 ?_
  refine g_iload_n C (pc := 15) 3 dX8_replace_15 rfl rfl ?_
  refine g_iload_n C (pc := 16) 0 dX8_replace_16 rfl rfl ?_
  refine g_ishl C (pc := 17) dX8_replace_17 ?_
  refine g_ior C (pc := 18) dX8_replace_18 ?_
  cases hf
  exact g_iret C E (pc := 19) dX8_replace_19 ⟨rfl, rfl⟩
set_option maxRecDepth 100000 in
theorem cX8_replace_k (l : Launch) (D : va_G) (yy : Nat → ClassId) (p0 : Int32) (p1 : Int32) (p2 : Int32) (o : Int32) (hf : fX8_replace p0 p1 p2 = some o) : GMet l yX8_replace cX8_replace 4 (some .int) rmX8_replace 0 0 D yy [.int p0, .int p1, .int p2] [] (fun zv zw => zv = some (.int o) ∧ zw = []) :=
  g_met (by decide +kernel) (Nat.le_of_ble_eq_true rfl) (fun x hl hD hy hn C E _ => by subst hD; subst hy; exact eX8_replace x C hn p0 p1 p2 o E hf)
def rmX8_target : Room := { frames := 2, cells := 0, slots := 0, locals := 46 }
def jX8_target_100 (s_x : Nat → Int32) (s_k : Nat → Int32) (p0 : Int32) (p1 : Int32) (y_23 : Int32) : Option (Int32) :=
  gd (gi p0 8) (bd (fX8_replace p1 (s_x (ix p0)) ((y_23 + (s_k (ix p0))) &&& (7 : Int32))) fun y_112 : Int32 => some y_112)
set_option maxRecDepth 100000 in
set_option maxHeartbeats 4000000 in
theorem tX8_target_100 (x : GX) (C : GC x cX8_target RX8 rmX8_target) (N : xn x = 7) (qs : Nat) (s_n : Int32) (qs1 : Nat) (s_g : Nat → Int32) (qs2 : Nat) (s_h : Nat → Int32) (qs3 : Nat) (s_x : Nat → Int32) (qs4 : Nat) (s_y : Nat → Int32) (qs5 : Nat) (s_k : Nat → Int32) (p0 : Int32) (p1 : Int32) (y_23 : Int32) (o : Int32) (E : GE x (some .int) 0 0 (fun zv zw => zv = some (.int o) ∧ zw = [(qs, .inr (7, [.int s_n, .ref qs1, .ref qs2, .ref qs3, .ref qs4, .ref qs5])), (qs1, .inl ((xy x) 0, 8, .inl s_g)), (qs2, .inl ((xy x) 0, 8, .inl s_h)), (qs3, .inl ((xy x) 0, 8, .inl s_x)), (qs4, .inl ((xy x) 0, 8, .inl s_y)), (qs5, .inl ((xy x) 0, 8, .inl s_k))])) (hf : jX8_target_100 s_x s_k p0 p1 y_23 = some o)  : GW x 0 0 [(qs, .inr (7, [.int s_n, .ref qs1, .ref qs2, .ref qs3, .ref qs4, .ref qs5])), (qs1, .inl ((xy x) 0, 8, .inl s_g)), (qs2, .inl ((xy x) 0, 8, .inl s_h)), (qs3, .inl ((xy x) 0, 8, .inl s_x)), (qs4, .inl ((xy x) 0, 8, .inl s_y)), (qs5, .inl ((xy x) 0, 8, .inl s_k))] [(0, .ref qs), (1, .int p0), (2, .int p1), (5, .int (y_23 + (s_k (ix p0))))] 100 [] := by
  unfold jX8_target_100 at hf
  refine g_iload_n C (pc := 100) 2 dX8_target_100 rfl rfl ?_
  refine g_aload_n C (pc := 101) 0 dX8_target_101 rfl rfl ?_
  refine g_get C (pc := 102) lfX8_18 0 rfl rfl dX8_target_102 ?_
  refine g_iload_n C (pc := 105) 1 dX8_target_105 rfl rfl ?_
  obtain ⟨i_106, hf⟩ := k_gd hf
  refine g_iald C (pc := 106) 3 rfl i_106 dX8_target_106 ?_
  refine g_iload C (pc := 107) 3 dX8_target_107 rfl ?_
  refine g_bipush C (pc := 109) dX8_target_109 ck_bipush_7 ?_
  refine g_iand C (pc := 111) dX8_target_111 ?_
  obtain ⟨y_112, h_112, hf⟩ := k_bd hf
  refine g_callS0 C (pc := 112) (As := [.int p1, .int (s_x (ix p0)), .int ((y_23 + (s_k (ix p0))) &&& (7 : Int32))]) (rest := []) (v1 := (some (.int y_112))) (st' := [.int y_112]) lkX8_replace lSX8_62 (cX8_replace_k (xl x) (xD x) (xy x) p1 (s_x (ix p0)) ((y_23 + (s_k (ix p0))) &&& (7 : Int32)) y_112 h_112) rfl ⟨⟨Nat.le_of_ble_eq_true rfl, Nat.le_of_ble_eq_true rfl⟩, ⟨rfl, rfl⟩, ⟨Nat.le_of_ble_eq_true rfl, Nat.le_of_ble_eq_true rfl⟩⟩ rfl (Nat.le_of_ble_eq_true rfl) rfl dX8_target_112 ?_
  refine g_goto C (pc := 115) (tgt := 120) dX8_target_115 (by decide) ?_
  cases hf
  exact g_iret C E (pc := 120) dX8_target_120 ⟨rfl, rfl⟩
def fX8_target (s_g : Nat → Int32) (s_h : Nat → Int32) (s_x : Nat → Int32) (s_y : Nat → Int32) (s_k : Nat → Int32) (p0 : Int32) (p1 : Int32) (p2 : Int32) : Option (Int32) :=
  gd (gi p0 8) (bd (fX1_isMetBy (s_g (ix p0)) p1) fun y_7 : Int32 => if y_7 = 0 then some (-6 : Int32) else gd (gi p0 8) (bd (fX1_numberOf p1 (s_y (ix p0))) fun y_23 : Int32 => gd (gi p0 8) (if s_h (ix p0) = 0 then gd (gi p0 8) (gd (gi p0 8) (bd (fX8_replace p1 (s_x (ix p0)) (s_k (ix p0))) fun y_73 : Int32 => some y_73)) else if s_h (ix p0) = 1 then gd (gi p0 8) (if p2 = 0 then bd (fX1_isDigit (y_23 + (s_k (ix p0)))) fun y_94 : Int32 => if y_94 = 0 then some (-6 : Int32) else jX8_target_100 s_x s_k p0 p1 y_23 else jX8_target_100 s_x s_k p0 p1 y_23) else gd (gi p0 8) (gd (gi p0 8) (bd (fX1_numberOf p1 (s_x (ix p0))) fun y_135 : Int32 => bd (fX8_replace p1 (s_y (ix p0)) y_135) fun y_138 : Int32 => gd (gi p0 8) (bd (fX8_replace y_138 (s_x (ix p0)) y_23) fun y_153 : Int32 => some y_153))))))
set_option maxRecDepth 100000 in
set_option maxHeartbeats 4000000 in
theorem eX8_target (x : GX) (C : GC x cX8_target RX8 rmX8_target) (N : xn x = 7) (qs : Nat) (s_n : Int32) (qs1 : Nat) (s_g : Nat → Int32) (qs2 : Nat) (s_h : Nat → Int32) (qs3 : Nat) (s_x : Nat → Int32) (qs4 : Nat) (s_y : Nat → Int32) (qs5 : Nat) (s_k : Nat → Int32) (p0 : Int32) (p1 : Int32) (p2 : Int32) (o : Int32) (E : GE x (some .int) 0 0 (fun zv zw => zv = some (.int o) ∧ zw = [(qs, .inr (7, [.int s_n, .ref qs1, .ref qs2, .ref qs3, .ref qs4, .ref qs5])), (qs1, .inl ((xy x) 0, 8, .inl s_g)), (qs2, .inl ((xy x) 0, 8, .inl s_h)), (qs3, .inl ((xy x) 0, 8, .inl s_x)), (qs4, .inl ((xy x) 0, 8, .inl s_y)), (qs5, .inl ((xy x) 0, 8, .inl s_k))])) (hf : fX8_target s_g s_h s_x s_y s_k p0 p1 p2 = some o)  : GW x 0 0 [(qs, .inr (7, [.int s_n, .ref qs1, .ref qs2, .ref qs3, .ref qs4, .ref qs5])), (qs1, .inl ((xy x) 0, 8, .inl s_g)), (qs2, .inl ((xy x) 0, 8, .inl s_h)), (qs3, .inl ((xy x) 0, 8, .inl s_x)), (qs4, .inl ((xy x) 0, 8, .inl s_y)), (qs5, .inl ((xy x) 0, 8, .inl s_k))] [(0, .ref qs), (1, .int p0), (2, .int p1), (3, .int p2)] 0 [] := by
  unfold fX8_target at hf
  refine g_aload_n C (pc := 0) 0 dX8_target_0 rfl rfl ?_
  refine g_get C (pc := 1) lfX8_9 0 rfl rfl dX8_target_1 ?_
  refine g_iload_n C (pc := 4) 1 dX8_target_4 rfl rfl ?_
  obtain ⟨i_5, hf⟩ := k_gd hf
  refine g_iald C (pc := 5) 1 rfl i_5 dX8_target_5 ?_
  refine g_iload_n C (pc := 6) 2 dX8_target_6 rfl rfl ?_
  obtain ⟨y_7, h_7, hf⟩ := k_bd hf
  refine g_callS0 C (pc := 7) (As := [.int (s_g (ix p0)), .int p1]) (rest := []) (v1 := (some (.int y_7))) (st' := [.int y_7]) lkX1_isMetBy lSX8_54 (cX1_isMetBy_k (xl x) (xD x) (xy x) (s_g (ix p0)) p1 y_7 h_7) rfl ⟨⟨Nat.le_of_ble_eq_true rfl, Nat.le_of_ble_eq_true rfl⟩, ⟨rfl, rfl⟩, ⟨Nat.le_of_ble_eq_true rfl, Nat.le_of_ble_eq_true rfl⟩⟩ rfl (Nat.le_of_ble_eq_true rfl) rfl dX8_target_7 ?_
  refine g_if_ne C (pc := 10) 16 dX8_target_10 (by decide) (fun c_10 => ?_) (fun c_10 => ?_)
  · replace hf := (k_if hf).2 c_10
    refine g_iload_n C (pc := 16) 2 dX8_target_16 rfl rfl ?_
    refine g_aload_n C (pc := 17) 0 dX8_target_17 rfl rfl ?_
    refine g_get C (pc := 18) lfX8_21 0 rfl rfl dX8_target_18 ?_
    refine g_iload_n C (pc := 21) 1 dX8_target_21 rfl rfl ?_
    obtain ⟨i_22, hf⟩ := k_gd hf
    refine g_iald C (pc := 22) 4 rfl i_22 dX8_target_22 ?_
    obtain ⟨y_23, h_23, hf⟩ := k_bd hf
    refine g_callS0 C (pc := 23) (As := [.int p1, .int (s_y (ix p0))]) (rest := []) (v1 := (some (.int y_23))) (st' := [.int y_23]) lkX1_numberOf lSX8_58 (cX1_numberOf_k (xl x) (xD x) (xy x) p1 (s_y (ix p0)) y_23 h_23) rfl ⟨⟨Nat.le_of_ble_eq_true rfl, Nat.le_of_ble_eq_true rfl⟩, ⟨rfl, rfl⟩, ⟨Nat.le_of_ble_eq_true rfl, Nat.le_of_ble_eq_true rfl⟩⟩ rfl (Nat.le_of_ble_eq_true rfl) rfl dX8_target_23 ?_
    refine g_istore C (pc := 26) (lo' := [(4, .int y_23), (0, .ref qs), (1, .int p0), (2, .int p1), (3, .int p2)]) dX8_target_26 N rfl rfl ?_
    refine g_aload_n C (pc := 28) 1 dX8_target_28 rfl rfl ?_
    refine g_get C (pc := 29) lfX8_15 0 rfl rfl dX8_target_29 ?_
    refine g_iload_n C (pc := 32) 2 dX8_target_32 rfl rfl ?_
    obtain ⟨i_33, hf⟩ := k_gd hf
    refine g_iald C (pc := 33) 2 rfl i_33 dX8_target_33 ?_
    by_cases s_34_0 : s_h (ix p0) = 0
    · replace hf := (k_if hf).1 s_34_0
      refine g_lsw C (pc := 34) (off := 26) 60 dX8_target_34 (by decide +kernel) (by rw [s_34_0] <;> rfl) (by decide) ?_
      refine g_iload_n C (pc := 60) 3 dX8_target_60 rfl rfl ?_
      refine g_aload_n C (pc := 61) 1 dX8_target_61 rfl rfl ?_
      refine g_get C (pc := 62) lfX8_18 0 rfl rfl dX8_target_62 ?_
      refine g_iload_n C (pc := 65) 2 dX8_target_65 rfl rfl ?_
      obtain ⟨i_66, hf⟩ := k_gd hf
      refine g_iald C (pc := 66) 3 rfl i_66 dX8_target_66 ?_
      refine g_aload_n C (pc := 67) 1 dX8_target_67 rfl rfl ?_
      refine g_get C (pc := 68) lfX8_24 0 rfl rfl dX8_target_68 ?_
      refine g_iload_n C (pc := 71) 2 dX8_target_71 rfl rfl ?_
      obtain ⟨i_72, hf⟩ := k_gd hf
      refine g_iald C (pc := 72) 5 rfl i_72 dX8_target_72 ?_
      obtain ⟨y_73, h_73, hf⟩ := k_bd hf
      refine g_callS0 C (pc := 73) (As := [.int p1, .int (s_x (ix p0)), .int (s_k (ix p0))]) (rest := []) (v1 := (some (.int y_73))) (st' := [.int y_73]) lkX8_replace lSX8_62 (cX8_replace_k (xl x) (xD x) (xy x) p1 (s_x (ix p0)) (s_k (ix p0)) y_73 h_73) rfl ⟨⟨Nat.le_of_ble_eq_true rfl, Nat.le_of_ble_eq_true rfl⟩, ⟨rfl, rfl⟩, ⟨Nat.le_of_ble_eq_true rfl, Nat.le_of_ble_eq_true rfl⟩⟩ rfl (Nat.le_of_ble_eq_true rfl) rfl dX8_target_73 ?_
      cases hf
      exact g_iret C E (pc := 76) dX8_target_76 ⟨rfl, rfl⟩
    replace hf := (k_if hf).2 s_34_0
    by_cases s_34_1 : s_h (ix p0) = 1
    · replace hf := (k_if hf).1 s_34_1
      refine g_lsw C (pc := 34) (off := 43) 77 dX8_target_34 (by decide +kernel) (by rw [s_34_1] <;> rfl) (by decide) ?_
      refine g_iload C (pc := 77) 0 dX8_target_77 rfl ?_
      refine g_aload_n C (pc := 79) 1 dX8_target_79 rfl rfl ?_
      refine g_get C (pc := 80) lfX8_24 0 rfl rfl dX8_target_80 ?_
      refine g_iload_n C (pc := 83) 2 dX8_target_83 rfl rfl ?_
      obtain ⟨i_84, hf⟩ := k_gd hf
      refine g_iald C (pc := 84) 5 rfl i_84 dX8_target_84 ?_
      refine g_iadd C (pc := 85) dX8_target_85 ?_
      refine g_istore C (pc := 86) (lo' := [(5, .int (y_23 + (s_k (ix p0)))), (4, .int y_23), (0, .ref qs), (1, .int p0), (2, .int p1), (3, .int p2)]) dX8_target_86 N rfl rfl ?_
      refine g_iload_n C (pc := 88) 5 dX8_target_88 rfl rfl ?_
      refine g_if_ne C (pc := 89) 100 dX8_target_89 (by decide) (fun c_89 => ?_) (fun c_89 => ?_)
      · replace hf := (k_if hf).2 c_89
        exact g_lo [2, 3, 4, 0] rfl (tX8_target_100 x C N qs s_n qs1 s_g qs2 s_h qs3 s_x qs4 s_y qs5 s_k p0 p1 y_23 o E hf)
      · replace hf := (k_if hf).1 c_89
        refine g_iload C (pc := 92) 0 dX8_target_92 rfl ?_
        obtain ⟨y_94, h_94, hf⟩ := k_bd hf
        refine g_callS0 C (pc := 94) (As := [.int (y_23 + (s_k (ix p0)))]) (rest := []) (v1 := (some (.int y_94))) (st' := [.int y_94]) lkX1_isDigit lSX8_35 (cX1_isDigit_k (xl x) (xD x) (xy x) (y_23 + (s_k (ix p0))) y_94 h_94) rfl ⟨⟨Nat.le_of_ble_eq_true rfl, Nat.le_of_ble_eq_true rfl⟩, ⟨rfl, rfl⟩, ⟨Nat.le_of_ble_eq_true rfl, Nat.le_of_ble_eq_true rfl⟩⟩ rfl (Nat.le_of_ble_eq_true rfl) rfl dX8_target_94 ?_
        refine g_if_eq C (pc := 97) 118 dX8_target_97 (by decide) (fun c_97 => ?_) (fun c_97 => ?_)
        · replace hf := (k_if hf).1 c_97
          refine g_bipush C (pc := 118) dX8_target_118 ck_bipush_m6 ?_
          cases hf
          exact g_iret C E (pc := 120) dX8_target_120 ⟨rfl, rfl⟩
        · replace hf := (k_if hf).2 c_97
          exact g_lo [2, 3, 4, 0] rfl (tX8_target_100 x C N qs s_n qs1 s_g qs2 s_h qs3 s_x qs4 s_y qs5 s_k p0 p1 y_23 o E hf)
    replace hf := (k_if hf).2 s_34_1
    refine g_lsw C (pc := 34) (off := 87) 121 dX8_target_34 (by decide +kernel) ((lv_osw s_34_0 (by decide +kernel)).trans ((lv_osw s_34_1 (by decide +kernel)).trans rfl)) (by decide) ?_
    refine g_iload_n C (pc := 121) 3 dX8_target_121 rfl rfl ?_
    refine g_aload_n C (pc := 122) 1 dX8_target_122 rfl rfl ?_
    refine g_get C (pc := 123) lfX8_21 0 rfl rfl dX8_target_123 ?_
    refine g_iload_n C (pc := 126) 2 dX8_target_126 rfl rfl ?_
    obtain ⟨i_127, hf⟩ := k_gd hf
    refine g_iald C (pc := 127) 4 rfl i_127 dX8_target_127 ?_
    refine g_iload_n C (pc := 128) 3 dX8_target_128 rfl rfl ?_
    refine g_aload_n C (pc := 129) 1 dX8_target_129 rfl rfl ?_
    refine g_get C (pc := 130) lfX8_18 0 rfl rfl dX8_target_130 ?_
    refine g_iload_n C (pc := 133) 2 dX8_target_133 rfl rfl ?_
    obtain ⟨i_134, hf⟩ := k_gd hf
    refine g_iald C (pc := 134) 3 rfl i_134 dX8_target_134 ?_
    obtain ⟨y_135, h_135, hf⟩ := k_bd hf
    refine g_callS0 C (pc := 135) (As := [.int p1, .int (s_x (ix p0))]) (rest := [.int (s_y (ix p0)), .int p1]) (v1 := (some (.int y_135))) (st' := [.int y_135, .int (s_y (ix p0)), .int p1]) lkX1_numberOf lSX8_58 (cX1_numberOf_k (xl x) (xD x) (xy x) p1 (s_x (ix p0)) y_135 h_135) rfl ⟨⟨Nat.le_of_ble_eq_true rfl, Nat.le_of_ble_eq_true rfl⟩, ⟨rfl, rfl⟩, ⟨Nat.le_of_ble_eq_true rfl, Nat.le_of_ble_eq_true rfl⟩⟩ rfl (Nat.le_of_ble_eq_true rfl) rfl dX8_target_135 ?_
    obtain ⟨y_138, h_138, hf⟩ := k_bd hf
    refine g_callS0 C (pc := 138) (As := [.int p1, .int (s_y (ix p0)), .int y_135]) (rest := []) (v1 := (some (.int y_138))) (st' := [.int y_138]) lkX8_replace lSX8_62 (cX8_replace_k (xl x) (xD x) (xy x) p1 (s_y (ix p0)) y_135 y_138 h_138) rfl ⟨⟨Nat.le_of_ble_eq_true rfl, Nat.le_of_ble_eq_true rfl⟩, ⟨rfl, rfl⟩, ⟨Nat.le_of_ble_eq_true rfl, Nat.le_of_ble_eq_true rfl⟩⟩ rfl (Nat.le_of_ble_eq_true rfl) rfl dX8_target_138 ?_
    refine g_istore C (pc := 141) (lo' := [(6, .int y_138), (4, .int y_23), (0, .ref qs), (1, .int p0), (2, .int p1), (3, .int p2)]) dX8_target_141 N rfl rfl ?_
    refine g_iload C (pc := 143) 0 dX8_target_143 rfl ?_
    refine g_aload_n C (pc := 145) 2 dX8_target_145 rfl rfl ?_
    refine g_get C (pc := 146) lfX8_18 0 rfl rfl dX8_target_146 ?_
    refine g_iload_n C (pc := 149) 3 dX8_target_149 rfl rfl ?_
    obtain ⟨i_150, hf⟩ := k_gd hf
    refine g_iald C (pc := 150) 3 rfl i_150 dX8_target_150 ?_
    refine g_iload C (pc := 151) 1 dX8_target_151 rfl ?_
    obtain ⟨y_153, h_153, hf⟩ := k_bd hf
    refine g_callS0 C (pc := 153) (As := [.int y_138, .int (s_x (ix p0)), .int y_23]) (rest := []) (v1 := (some (.int y_153))) (st' := [.int y_153]) lkX8_replace lSX8_62 (cX8_replace_k (xl x) (xD x) (xy x) y_138 (s_x (ix p0)) y_23 y_153 h_153) rfl ⟨⟨Nat.le_of_ble_eq_true rfl, Nat.le_of_ble_eq_true rfl⟩, ⟨rfl, rfl⟩, ⟨Nat.le_of_ble_eq_true rfl, Nat.le_of_ble_eq_true rfl⟩⟩ rfl (Nat.le_of_ble_eq_true rfl) rfl dX8_target_153 ?_
    cases hf
    exact g_iret C E (pc := 156) dX8_target_156 ⟨rfl, rfl⟩
  · replace hf := (k_if hf).1 c_10
    refine g_bipush C (pc := 13) dX8_target_13 ck_bipush_m6 ?_
    cases hf
    exact g_iret C E (pc := 15) dX8_target_15 ⟨rfl, rfl⟩
set_option maxRecDepth 100000 in
theorem cX8_target_k (l : Launch) (D : va_G) (yy : Nat → ClassId) (qs : Nat) (s_n : Int32) (qs1 : Nat) (s_g : Nat → Int32) (qs2 : Nat) (s_h : Nat → Int32) (qs3 : Nat) (s_x : Nat → Int32) (qs4 : Nat) (s_y : Nat → Int32) (qs5 : Nat) (s_k : Nat → Int32) (p0 : Int32) (p1 : Int32) (p2 : Int32) (o : Int32) (hf : fX8_target s_g s_h s_x s_y s_k p0 p1 p2 = some o) : GMet l yX8_target cX8_target 7 (some .int) rmX8_target 0 0 D yy [.ref qs, .int p0, .int p1, .int p2] [(qs, .inr (7, [.int s_n, .ref qs1, .ref qs2, .ref qs3, .ref qs4, .ref qs5])), (qs1, .inl (yy 0, 8, .inl s_g)), (qs2, .inl (yy 0, 8, .inl s_h)), (qs3, .inl (yy 0, 8, .inl s_x)), (qs4, .inl (yy 0, 8, .inl s_y)), (qs5, .inl (yy 0, 8, .inl s_k))] (fun zv zw => zv = some (.int o) ∧ zw = [(qs, .inr (7, [.int s_n, .ref qs1, .ref qs2, .ref qs3, .ref qs4, .ref qs5])), (qs1, .inl (yy 0, 8, .inl s_g)), (qs2, .inl (yy 0, 8, .inl s_h)), (qs3, .inl (yy 0, 8, .inl s_x)), (qs4, .inl (yy 0, 8, .inl s_y)), (qs5, .inl (yy 0, 8, .inl s_k))]) :=
  g_met (by decide +kernel) (Nat.le_of_ble_eq_true rfl) (fun x hl hD hy hn C E _ => by subst hD; subst hy; exact eX8_target x C hn qs s_n qs1 s_g qs2 s_h qs3 s_x qs4 s_y qs5 s_k p0 p1 p2 o E hf)
def rmX8_copyFrom : Room := { frames := 1, cells := 0, slots := 0, locals := 23 }
def gX8_copyFrom_10 (os_g : Nat → Int32) (os_h : Nat → Int32) (os_x : Nat → Int32) (os_y : Nat → Int32) (os_k : Nat → Int32) (a_10 : Int32 × (Nat → Int32) × (Nat → Int32) × (Nat → Int32) × (Nat → Int32) × (Nat → Int32)) : Option ((Int32 × (Nat → Int32) × (Nat → Int32) × (Nat → Int32) × (Nat → Int32) × (Nat → Int32)) ⊕ (Int32 × (Nat → Int32) × (Nat → Int32) × (Nat → Int32) × (Nat → Int32) × (Nat → Int32))) :=
  if (8 : Int32) ≤ a_10.1 then some (.inr (a_10.1, a_10.2.1, a_10.2.2.1, a_10.2.2.2.1, a_10.2.2.2.2.1, a_10.2.2.2.2.2)) else bd (fX8_copyStep a_10.2.1 a_10.2.2.1 a_10.2.2.2.1 a_10.2.2.2.2.1 a_10.2.2.2.2.2 os_g os_h os_x os_y os_k a_10.1 a_10.1) fun y_20 : (Nat → Int32) × (Nat → Int32) × (Nat → Int32) × (Nat → Int32) × (Nat → Int32) => some (.inl (a_10.1 + 1, y_20.1, y_20.2.1, y_20.2.2.1, y_20.2.2.2.1, y_20.2.2.2.2))
set_option maxRecDepth 100000 in
set_option maxHeartbeats 4000000 in
theorem bX8_copyFrom_10 (x : GX) (C : GC x cX8_copyFrom RX8 rmX8_copyFrom) (N : xn x = 3) (qs : Nat) (qs1 : Nat) (qs2 : Nat) (qs3 : Nat) (qs4 : Nat) (qs5 : Nat) (oqs : Nat) (os_n : Int32) (oqs1 : Nat) (os_g : Nat → Int32) (oqs2 : Nat) (os_h : Nat → Int32) (oqs3 : Nat) (os_x : Nat → Int32) (oqs4 : Nat) (os_y : Nat → Int32) (oqs5 : Nat) (os_k : Nat → Int32) (a_10 : Int32 × (Nat → Int32) × (Nat → Int32) × (Nat → Int32) × (Nat → Int32) × (Nat → Int32)) (r : (Int32 × (Nat → Int32) × (Nat → Int32) × (Nat → Int32) × (Nat → Int32) × (Nat → Int32)) ⊕ (Int32 × (Nat → Int32) × (Nat → Int32) × (Nat → Int32) × (Nat → Int32) × (Nat → Int32)))  (hf : gX8_copyFrom_10 os_g os_h os_x os_y os_k a_10 = some r) (kn : ∀ e : Int32 × (Nat → Int32) × (Nat → Int32) × (Nat → Int32) × (Nat → Int32) × (Nat → Int32), r = .inl e → GW x 0 0 [(qs, .inr (7, [.int os_n, .ref qs1, .ref qs2, .ref qs3, .ref qs4, .ref qs5])), (qs1, .inl ((xy x) 0, 8, .inl e.2.1)), (qs2, .inl ((xy x) 0, 8, .inl e.2.2.1)), (qs3, .inl ((xy x) 0, 8, .inl e.2.2.2.1)), (qs4, .inl ((xy x) 0, 8, .inl e.2.2.2.2.1)), (qs5, .inl ((xy x) 0, 8, .inl e.2.2.2.2.2)), (oqs, .inr (7, [.int os_n, .ref oqs1, .ref oqs2, .ref oqs3, .ref oqs4, .ref oqs5])), (oqs1, .inl ((xy x) 0, 8, .inl os_g)), (oqs2, .inl ((xy x) 0, 8, .inl os_h)), (oqs3, .inl ((xy x) 0, 8, .inl os_x)), (oqs4, .inl ((xy x) 0, 8, .inl os_y)), (oqs5, .inl ((xy x) 0, 8, .inl os_k))] [(0, .ref qs), (1, .ref oqs), (2, .int e.1)] 10 []) (kx : ∀ e : Int32 × (Nat → Int32) × (Nat → Int32) × (Nat → Int32) × (Nat → Int32) × (Nat → Int32), r = .inr e → GW x 0 0 [(qs, .inr (7, [.int os_n, .ref qs1, .ref qs2, .ref qs3, .ref qs4, .ref qs5])), (qs1, .inl ((xy x) 0, 8, .inl e.2.1)), (qs2, .inl ((xy x) 0, 8, .inl e.2.2.1)), (qs3, .inl ((xy x) 0, 8, .inl e.2.2.2.1)), (qs4, .inl ((xy x) 0, 8, .inl e.2.2.2.2.1)), (qs5, .inl ((xy x) 0, 8, .inl e.2.2.2.2.2)), (oqs, .inr (7, [.int os_n, .ref oqs1, .ref oqs2, .ref oqs3, .ref oqs4, .ref oqs5])), (oqs1, .inl ((xy x) 0, 8, .inl os_g)), (oqs2, .inl ((xy x) 0, 8, .inl os_h)), (oqs3, .inl ((xy x) 0, 8, .inl os_x)), (oqs4, .inl ((xy x) 0, 8, .inl os_y)), (oqs5, .inl ((xy x) 0, 8, .inl os_k))] [] 29 []) : GW x 0 0 [(qs, .inr (7, [.int os_n, .ref qs1, .ref qs2, .ref qs3, .ref qs4, .ref qs5])), (qs1, .inl ((xy x) 0, 8, .inl a_10.2.1)), (qs2, .inl ((xy x) 0, 8, .inl a_10.2.2.1)), (qs3, .inl ((xy x) 0, 8, .inl a_10.2.2.2.1)), (qs4, .inl ((xy x) 0, 8, .inl a_10.2.2.2.2.1)), (qs5, .inl ((xy x) 0, 8, .inl a_10.2.2.2.2.2)), (oqs, .inr (7, [.int os_n, .ref oqs1, .ref oqs2, .ref oqs3, .ref oqs4, .ref oqs5])), (oqs1, .inl ((xy x) 0, 8, .inl os_g)), (oqs2, .inl ((xy x) 0, 8, .inl os_h)), (oqs3, .inl ((xy x) 0, 8, .inl os_x)), (oqs4, .inl ((xy x) 0, 8, .inl os_y)), (oqs5, .inl ((xy x) 0, 8, .inl os_k))] [(0, .ref qs), (1, .ref oqs), (2, .int a_10.1)] 10 [] := by
  unfold gX8_copyFrom_10 at hf
  refine g_iload_n C (pc := 10) 2 dX8_copyFrom_10 rfl rfl ?_
  refine g_bipush C (pc := 11) dX8_copyFrom_11 ck_bipush_8 ?_
  refine g_icmp_ge C (pc := 13) 29 dX8_copyFrom_13 (by decide) (fun c_13 => ?_) (fun c_13 => ?_)
  · replace hf := (k_if hf).1 c_13
    cases hf
    exact g_lo [] rfl (kx (a_10.1, a_10.2.1, a_10.2.2.1, a_10.2.2.2.1, a_10.2.2.2.2.1, a_10.2.2.2.2.2) rfl)
  · replace hf := (k_if hf).2 c_13
    refine g_aload_n C (pc := 16) 0 dX8_copyFrom_16 rfl rfl ?_
    refine g_aload_n C (pc := 17) 1 dX8_copyFrom_17 rfl rfl ?_
    refine g_iload_n C (pc := 18) 2 dX8_copyFrom_18 rfl rfl ?_
    refine g_iload_n C (pc := 19) 2 dX8_copyFrom_19 rfl rfl ?_
    obtain ⟨y_20, h_20, hf⟩ := k_bd hf
    refine g_callA C (pc := 20) (b := qs) (As := [.ref oqs, .int a_10.1, .int a_10.1]) (rest := []) (v1 := none) (st' := []) (w1 := [(qs, .inr (7, [.int os_n, .ref qs1, .ref qs2, .ref qs3, .ref qs4, .ref qs5])), (qs1, .inl ((xy x) 0, 8, .inl y_20.1)), (qs2, .inl ((xy x) 0, 8, .inl y_20.2.1)), (qs3, .inl ((xy x) 0, 8, .inl y_20.2.2.1)), (qs4, .inl ((xy x) 0, 8, .inl y_20.2.2.2.1)), (qs5, .inl ((xy x) 0, 8, .inl y_20.2.2.2.2)), (oqs, .inr (7, [.int os_n, .ref oqs1, .ref oqs2, .ref oqs3, .ref oqs4, .ref oqs5])), (oqs1, .inl ((xy x) 0, 8, .inl os_g)), (oqs2, .inl ((xy x) 0, 8, .inl os_h)), (oqs3, .inl ((xy x) 0, 8, .inl os_x)), (oqs4, .inl ((xy x) 0, 8, .inl os_y)), (oqs5, .inl ((xy x) 0, 8, .inl os_k))]) 0 lkX8_copyStep lVX8_31 (cX8_copyStep_k (xl x) (xD x) (xy x) qs os_n qs1 a_10.2.1 qs2 a_10.2.2.1 qs3 a_10.2.2.2.1 qs4 a_10.2.2.2.2.1 qs5 a_10.2.2.2.2.2 oqs os_n oqs1 os_g oqs2 os_h oqs3 os_x oqs4 os_y oqs5 os_k a_10.1 a_10.1 y_20 h_20) rfl ⟨⟨Nat.le_of_ble_eq_true rfl, Nat.le_of_ble_eq_true rfl⟩, ⟨rfl, rfl⟩, ⟨Nat.le_of_ble_eq_true rfl, Nat.le_of_ble_eq_true rfl⟩⟩ rfl rfl rfl (Nat.le_of_ble_eq_true rfl) rfl dX8_copyFrom_20 ?_
    refine g_iinc C (pc := 23) (v := a_10.1 + 1) (lo' := [(2, .int (a_10.1 + 1)), (0, .ref qs), (1, .ref oqs)]) 2 dX8_copyFrom_23 rfl (congrArg (HAdd.hAdd _) ck_iinc_1) N rfl rfl ?_
    refine g_goto C (pc := 26) (tgt := 10) dX8_copyFrom_26 (by decide) ?_
    cases hf
    exact g_lo [1, 2, 0] rfl (kn (a_10.1 + 1, y_20.1, y_20.2.1, y_20.2.2.1, y_20.2.2.2.1, y_20.2.2.2.2) rfl)
def fX8_copyFrom (s_g : Nat → Int32) (s_h : Nat → Int32) (s_x : Nat → Int32) (s_y : Nat → Int32) (s_k : Nat → Int32) (os_n : Int32) (os_g : Nat → Int32) (os_h : Nat → Int32) (os_x : Nat → Int32) (os_y : Nat → Int32) (os_k : Nat → Int32) : Option (Int32 × (Nat → Int32) × (Nat → Int32) × (Nat → Int32) × (Nat → Int32) × (Nat → Int32)) :=
  bd (iter (gX8_copyFrom_10 os_g os_h os_x os_y os_k) FU ((0 : Int32), s_g, s_h, s_x, s_y, s_k)) fun b_10 : Int32 × (Nat → Int32) × (Nat → Int32) × (Nat → Int32) × (Nat → Int32) × (Nat → Int32) => some (os_n, b_10.2.1, b_10.2.2.1, b_10.2.2.2.1, b_10.2.2.2.2.1, b_10.2.2.2.2.2)
set_option maxRecDepth 100000 in
set_option maxHeartbeats 4000000 in
theorem eX8_copyFrom (x : GX) (C : GC x cX8_copyFrom RX8 rmX8_copyFrom) (N : xn x = 3) (qs : Nat) (s_n : Int32) (qs1 : Nat) (s_g : Nat → Int32) (qs2 : Nat) (s_h : Nat → Int32) (qs3 : Nat) (s_x : Nat → Int32) (qs4 : Nat) (s_y : Nat → Int32) (qs5 : Nat) (s_k : Nat → Int32) (oqs : Nat) (os_n : Int32) (oqs1 : Nat) (os_g : Nat → Int32) (oqs2 : Nat) (os_h : Nat → Int32) (oqs3 : Nat) (os_x : Nat → Int32) (oqs4 : Nat) (os_y : Nat → Int32) (oqs5 : Nat) (os_k : Nat → Int32) (o : Int32 × (Nat → Int32) × (Nat → Int32) × (Nat → Int32) × (Nat → Int32) × (Nat → Int32)) (E : GE x none 0 0 (fun zv zw => zv = none ∧ zw = [(qs, .inr (7, [.int o.1, .ref qs1, .ref qs2, .ref qs3, .ref qs4, .ref qs5])), (qs1, .inl ((xy x) 0, 8, .inl o.2.1)), (qs2, .inl ((xy x) 0, 8, .inl o.2.2.1)), (qs3, .inl ((xy x) 0, 8, .inl o.2.2.2.1)), (qs4, .inl ((xy x) 0, 8, .inl o.2.2.2.2.1)), (qs5, .inl ((xy x) 0, 8, .inl o.2.2.2.2.2)), (oqs, .inr (7, [.int os_n, .ref oqs1, .ref oqs2, .ref oqs3, .ref oqs4, .ref oqs5])), (oqs1, .inl ((xy x) 0, 8, .inl os_g)), (oqs2, .inl ((xy x) 0, 8, .inl os_h)), (oqs3, .inl ((xy x) 0, 8, .inl os_x)), (oqs4, .inl ((xy x) 0, 8, .inl os_y)), (oqs5, .inl ((xy x) 0, 8, .inl os_k))])) (hf : fX8_copyFrom s_g s_h s_x s_y s_k os_n os_g os_h os_x os_y os_k = some o)  : GW x 0 0 [(qs, .inr (7, [.int s_n, .ref qs1, .ref qs2, .ref qs3, .ref qs4, .ref qs5])), (qs1, .inl ((xy x) 0, 8, .inl s_g)), (qs2, .inl ((xy x) 0, 8, .inl s_h)), (qs3, .inl ((xy x) 0, 8, .inl s_x)), (qs4, .inl ((xy x) 0, 8, .inl s_y)), (qs5, .inl ((xy x) 0, 8, .inl s_k)), (oqs, .inr (7, [.int os_n, .ref oqs1, .ref oqs2, .ref oqs3, .ref oqs4, .ref oqs5])), (oqs1, .inl ((xy x) 0, 8, .inl os_g)), (oqs2, .inl ((xy x) 0, 8, .inl os_h)), (oqs3, .inl ((xy x) 0, 8, .inl os_x)), (oqs4, .inl ((xy x) 0, 8, .inl os_y)), (oqs5, .inl ((xy x) 0, 8, .inl os_k))] [(0, .ref qs), (1, .ref oqs)] 0 [] := by
  unfold fX8_copyFrom at hf
  refine g_aload_n C (pc := 0) 0 dX8_copyFrom_0 rfl rfl ?_
  refine g_aload_n C (pc := 1) 1 dX8_copyFrom_1 rfl rfl ?_
  refine g_get C (pc := 2) lfX8_27 6 rfl rfl dX8_copyFrom_2 ?_
  refine g_put C (pc := 5) (ws' := [(qs, .inr (7, [.int os_n, .ref qs1, .ref qs2, .ref qs3, .ref qs4, .ref qs5])), (qs1, .inl ((xy x) 0, 8, .inl s_g)), (qs2, .inl ((xy x) 0, 8, .inl s_h)), (qs3, .inl ((xy x) 0, 8, .inl s_x)), (qs4, .inl ((xy x) 0, 8, .inl s_y)), (qs5, .inl ((xy x) 0, 8, .inl s_k)), (oqs, .inr (7, [.int os_n, .ref oqs1, .ref oqs2, .ref oqs3, .ref oqs4, .ref oqs5])), (oqs1, .inl ((xy x) 0, 8, .inl os_g)), (oqs2, .inl ((xy x) 0, 8, .inl os_h)), (oqs3, .inl ((xy x) 0, 8, .inl os_x)), (oqs4, .inl ((xy x) 0, 8, .inl os_y)), (oqs5, .inl ((xy x) 0, 8, .inl os_k))]) lpX8_27 0 rfl rfl rfl rfl (Nat.le_of_ble_eq_true rfl) rfl dX8_copyFrom_5 ?_
  refine g_iconst C (pc := 8) dX8_copyFrom_8 ck_iconst_0 ?_
  refine g_istore_n C (pc := 9) (lo' := [(2, .int (0 : Int32)), (0, .ref qs), (1, .ref oqs)]) dX8_copyFrom_9 rfl N rfl rfl ?_
  obtain ⟨b_10, hb_10, hf⟩ := k_bd hf
  refine g_lo [1, 2, 0] rfl ?_
  refine g_loop (g := (gX8_copyFrom_10 os_g os_h os_x os_y os_k)) (fun e : Int32 × (Nat → Int32) × (Nat → Int32) × (Nat → Int32) × (Nat → Int32) × (Nat → Int32) => [(qs, .inr (7, [.int os_n, .ref qs1, .ref qs2, .ref qs3, .ref qs4, .ref qs5])), (qs1, .inl ((xy x) 0, 8, .inl e.2.1)), (qs2, .inl ((xy x) 0, 8, .inl e.2.2.1)), (qs3, .inl ((xy x) 0, 8, .inl e.2.2.2.1)), (qs4, .inl ((xy x) 0, 8, .inl e.2.2.2.2.1)), (qs5, .inl ((xy x) 0, 8, .inl e.2.2.2.2.2)), (oqs, .inr (7, [.int os_n, .ref oqs1, .ref oqs2, .ref oqs3, .ref oqs4, .ref oqs5])), (oqs1, .inl ((xy x) 0, 8, .inl os_g)), (oqs2, .inl ((xy x) 0, 8, .inl os_h)), (oqs3, .inl ((xy x) 0, 8, .inl os_x)), (oqs4, .inl ((xy x) 0, 8, .inl os_y)), (oqs5, .inl ((xy x) 0, 8, .inl os_k))]) (fun e : Int32 × (Nat → Int32) × (Nat → Int32) × (Nat → Int32) × (Nat → Int32) × (Nat → Int32) => [(0, .ref qs), (1, .ref oqs), (2, .int e.1)]) 10 (fun e : Int32 × (Nat → Int32) × (Nat → Int32) × (Nat → Int32) × (Nat → Int32) × (Nat → Int32) => GW x 0 0 [(qs, .inr (7, [.int os_n, .ref qs1, .ref qs2, .ref qs3, .ref qs4, .ref qs5])), (qs1, .inl ((xy x) 0, 8, .inl e.2.1)), (qs2, .inl ((xy x) 0, 8, .inl e.2.2.1)), (qs3, .inl ((xy x) 0, 8, .inl e.2.2.2.1)), (qs4, .inl ((xy x) 0, 8, .inl e.2.2.2.2.1)), (qs5, .inl ((xy x) 0, 8, .inl e.2.2.2.2.2)), (oqs, .inr (7, [.int os_n, .ref oqs1, .ref oqs2, .ref oqs3, .ref oqs4, .ref oqs5])), (oqs1, .inl ((xy x) 0, 8, .inl os_g)), (oqs2, .inl ((xy x) 0, 8, .inl os_h)), (oqs3, .inl ((xy x) 0, 8, .inl os_x)), (oqs4, .inl ((xy x) 0, 8, .inl os_y)), (oqs5, .inl ((xy x) 0, 8, .inl os_k))] [] 29 []) (fun a r hg kn kx => bX8_copyFrom_10 x C N qs qs1 qs2 qs3 qs4 qs5 oqs os_n oqs1 os_g oqs2 os_h oqs3 os_x oqs4 os_y oqs5 os_k a r hg kn kx) FU _ b_10 hb_10 ?_
  cases hf
  exact g_vret C E (pc := 29) dX8_copyFrom_29 ⟨rfl, rfl⟩
set_option maxRecDepth 100000 in
theorem cX8_copyFrom_k (l : Launch) (D : va_G) (yy : Nat → ClassId) (qs : Nat) (s_n : Int32) (qs1 : Nat) (s_g : Nat → Int32) (qs2 : Nat) (s_h : Nat → Int32) (qs3 : Nat) (s_x : Nat → Int32) (qs4 : Nat) (s_y : Nat → Int32) (qs5 : Nat) (s_k : Nat → Int32) (oqs : Nat) (os_n : Int32) (oqs1 : Nat) (os_g : Nat → Int32) (oqs2 : Nat) (os_h : Nat → Int32) (oqs3 : Nat) (os_x : Nat → Int32) (oqs4 : Nat) (os_y : Nat → Int32) (oqs5 : Nat) (os_k : Nat → Int32) (o : Int32 × (Nat → Int32) × (Nat → Int32) × (Nat → Int32) × (Nat → Int32) × (Nat → Int32)) (hf : fX8_copyFrom s_g s_h s_x s_y s_k os_n os_g os_h os_x os_y os_k = some o) : GMet l yX8_copyFrom cX8_copyFrom 3 none rmX8_copyFrom 0 0 D yy [.ref qs, .ref oqs] [(qs, .inr (7, [.int s_n, .ref qs1, .ref qs2, .ref qs3, .ref qs4, .ref qs5])), (qs1, .inl (yy 0, 8, .inl s_g)), (qs2, .inl (yy 0, 8, .inl s_h)), (qs3, .inl (yy 0, 8, .inl s_x)), (qs4, .inl (yy 0, 8, .inl s_y)), (qs5, .inl (yy 0, 8, .inl s_k)), (oqs, .inr (7, [.int os_n, .ref oqs1, .ref oqs2, .ref oqs3, .ref oqs4, .ref oqs5])), (oqs1, .inl (yy 0, 8, .inl os_g)), (oqs2, .inl (yy 0, 8, .inl os_h)), (oqs3, .inl (yy 0, 8, .inl os_x)), (oqs4, .inl (yy 0, 8, .inl os_y)), (oqs5, .inl (yy 0, 8, .inl os_k))] (fun zv zw => zv = none ∧ zw = [(qs, .inr (7, [.int o.1, .ref qs1, .ref qs2, .ref qs3, .ref qs4, .ref qs5])), (qs1, .inl (yy 0, 8, .inl o.2.1)), (qs2, .inl (yy 0, 8, .inl o.2.2.1)), (qs3, .inl (yy 0, 8, .inl o.2.2.2.1)), (qs4, .inl (yy 0, 8, .inl o.2.2.2.2.1)), (qs5, .inl (yy 0, 8, .inl o.2.2.2.2.2)), (oqs, .inr (7, [.int os_n, .ref oqs1, .ref oqs2, .ref oqs3, .ref oqs4, .ref oqs5])), (oqs1, .inl (yy 0, 8, .inl os_g)), (oqs2, .inl (yy 0, 8, .inl os_h)), (oqs3, .inl (yy 0, 8, .inl os_x)), (oqs4, .inl (yy 0, 8, .inl os_y)), (oqs5, .inl (yy 0, 8, .inl os_k))]) :=
  g_met (by decide +kernel) (Nat.le_of_ble_eq_true rfl) (fun x hl hD hy hn C E _ => by subst hD; subst hy; exact eX8_copyFrom x C hn qs s_n qs1 s_g qs2 s_h qs3 s_x qs4 s_y qs5 s_k oqs os_n oqs1 os_g oqs2 os_h oqs3 os_x oqs4 os_y oqs5 os_k o E hf)
