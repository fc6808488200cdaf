/-! ===== the whole object as one value ===== -/
/-- the machine that is; how many are kept, the kept ones, the slots, which are filled; the pad's length and signs; scratch: the reader's numbers, the survey's rows, its sets -/
abbrev CS : Type := MS × Int32 × (Nat → MS) × (Nat → MS) × (Nat → Int32) × Int32 × (Nat → Int32) × (Nat → Int32) × (Nat → Nat → Int32) × (Nat → Nat → Int64)
/-- where it lies -/
abbrev TA : Type := Nat × Nat × Nat × Nat × Nat × (Nat → Nat) × (Nat → Nat) × (Nat → Nat)
def tkE (y : Nat → ClassId) (a : TA) (kf sf : Nat → Option Nat) (c : CS) : va_W :=
  [(a.1, .inr (9, [.ref (a.2.2.2.2.2.1 0), .ref a.2.1, .ref a.2.2.2.1, .ref a.2.2.2.2.1, .ref (a.2.2.2.2.2.2.1 0), .ref (a.2.2.2.2.2.2.2 1), .ref (a.2.2.2.2.2.2.2 0)]))] ++ (wHist y a.2.1 a.2.2.1 c.2.1 kf ++ (mcl y a.2.2.2.2.2.1 c.1 ++ ([(a.2.2.2.2.2.2.1 0, .inr (8, [.ref (a.2.2.2.2.2.2.1 1), .ref (a.2.2.2.2.2.2.1 3), .ref (a.2.2.2.2.2.2.1 5), .ref (a.2.2.2.2.2.2.1 7), .ref (a.2.2.2.2.2.2.1 8)])), (a.2.2.2.2.2.2.1 1, .inr (6, [.ref (a.2.2.2.2.2.2.1 2)])), (a.2.2.2.2.2.2.1 2, .inl (y 1, 8, .inr (.inl (c.2.2.2.2.2.2.2.2.2 0)))), (a.2.2.2.2.2.2.1 3, .inr (6, [.ref (a.2.2.2.2.2.2.1 4)])), (a.2.2.2.2.2.2.1 4, .inl (y 1, 8, .inr (.inl (c.2.2.2.2.2.2.2.2.2 1)))), (a.2.2.2.2.2.2.1 5, .inr (6, [.ref (a.2.2.2.2.2.2.1 6)])), (a.2.2.2.2.2.2.1 6, .inl (y 1, 8, .inr (.inl (c.2.2.2.2.2.2.2.2.2 2)))), (a.2.2.2.2.2.2.1 7, .inl (y 0, 512, .inl (c.2.2.2.2.2.2.2.2.1 0))), (a.2.2.2.2.2.2.1 8, .inl (y 0, 512, .inl (c.2.2.2.2.2.2.2.2.1 1)))] ++ ([(a.2.2.2.2.2.2.2 0, .inr (4, [.ref (a.2.2.2.2.2.2.2 1), .int (c.2.2.2.2.2.2.2.1 0), .int (c.2.2.2.2.2.2.2.1 1), .int (c.2.2.2.2.2.2.2.1 2), .int (c.2.2.2.2.2.2.2.1 3), .int (c.2.2.2.2.2.2.2.1 4), .int (c.2.2.2.2.2.2.2.1 5), .int (c.2.2.2.2.2.2.2.1 6), .int (c.2.2.2.2.2.2.2.1 7), .int (c.2.2.2.2.2.2.2.1 8)])), (a.2.2.2.2.2.2.2 1, .inr (3, [.int c.2.2.2.2.2.1, .ref (a.2.2.2.2.2.2.2 2)])), (a.2.2.2.2.2.2.2 2, .inl (y 3, 80, .inl c.2.2.2.2.2.2.1))] ++ [(a.2.2.2.1, .inl (y 4, 2, .inr (.inr (.inr (.inr sf))))), (a.2.2.2.2.1, .inl (y 2, 2, .inl c.2.2.2.2.1))]))))
def tkw (y : Nat → ClassId) (a : TA) (kf sf : Nat → Option Nat) (Q S : Nat → Nat → Nat) (c : CS) : va_W := tkE y a kf sf c ++ (pool y Q c.2.2.1 L7 ++ pool y S c.2.2.2.1 L2)
/-- a new object -/
def C0 (o : Int32 × (Nat → Int32) × (Nat → Int64)) : CS := (M0 o, 0, (fun _ => M0 o), (fun _ => M0 o), (fun _ => 0), 0, (fun _ => 0), (fun _ => 0), (fun _ _ => 0), (fun _ _ => 0))
theorem perm_e {α : Type} {E T W : List α} : ((E ++ T) ++ W).Perm ((E ++ W) ++ T) := by
  rw [List.append_assoc, List.append_assoc]
  exact List.Perm.append_left _ List.perm_append_comm
def rmX10_init : Room := { frames := 6, cells := 186, slots := 8991, locals := 125 }
/-- the tail while the slots are made, and behind: what is made of the row of slots on -/
abbrev wTk (h : Nat) (v1 v2 v3 v4 v5 v6 v7 : Value) : Nat × va_E := (h, .inr (9, [v1, v2, v3, v4, v5, v6, v7]))
theorem perm_tk {α : Type} {t H m s f v r : List α} : ((((((t ++ m) ++ H) ++ s) ++ f) ++ v) ++ r).Perm (t ++ (H ++ (m ++ (v ++ (r ++ (s ++ f)))))) := by
  simp only [List.append_assoc]
  refine List.Perm.append_left _ ?_
  -- m ++ (H ++ (s ++ (f ++ (v ++ r)))) ~ H ++ (m ++ (v ++ (r ++ (s ++ f))))
  have e1 : (m ++ (H ++ (s ++ (f ++ (v ++ r))))).Perm (H ++ (m ++ (s ++ (f ++ (v ++ r))))) := by
    rw [← List.append_assoc m H, ← List.append_assoc H m]
    exact List.Perm.append_right _ List.perm_append_comm
  refine e1.trans (List.Perm.append_left _ (List.Perm.append_left _ ?_))
  have e2 : (s ++ (f ++ (v ++ r))) = (s ++ f) ++ (v ++ r) := by simp only [List.append_assoc]
  have e3 : (v ++ (r ++ (s ++ f))) = (v ++ r) ++ (s ++ f) := by simp only [List.append_assoc]
  rw [e2, e3]
  exact List.perm_append_comm
set_option maxRecDepth 100000 in
set_option maxHeartbeats 4000000 in
theorem bX10_init (x : GX) (C : GC x cX10_init RX10 rmX10_init) (N : xn x = 2) (hin : (xh x).name = "<init>") (h qh qh1 qsl : Nat) (q : Nat → Nat) (kf : Nat → Option Nat) (Q : Nat → Nat → Nat) (hk : ∀ i, i < 7 → kf i = some (Q i 0)) (o : Int32 × (Nat → Int32) × (Nat → Int64)) (hf : beg0 o) (E : GE x none 186 8991 (fun v w => v = none ∧ ∃ (a : TA) (kf sf : Nat → Option Nat) (Q S : Nat → Nat → Nat), a.1 = h ∧ (∀ i, i < 7 → kf i = some (Q i 0)) ∧ (∀ i, i < 2 → sf i = some (S i 0)) ∧ w.Perm (tkw (xy x) a kf sf Q S (C0 o)))) :
    ∀ (d i : Nat), i + d = 2 → ∀ (f : Nat → Option Nat) (S : Nat → Nat → Nat), (∀ j, j < i → f j = some (S j 0)) → GW x (139 + 17 * i) (6275 + 783 * i) (((([wTk h (.ref (q 0)) (.ref qh) (.ref qsl) .null .null .null .null] ++ mcl (xy x) q (M0 o)) ++ wHist (xy x) qh qh1 0 kf) ++ [(qsl, .inl (xy x 4, 2, .inr (.inr (.inr (.inr f)))))]) ++ (pool (xy x) Q (fun _ => M0 o) L7 ++ pool (xy x) S (fun _ => M0 o) (List.range i))) [(0, .ref h), (1, .int (nI i))] 36 [] := by
  intro d
  induction d with
  | zero =>
    intro i hi f S hfj
    have e2 : i = 2 := by omega
    subst e2
    refine g_iload_n C (pc := 36) 1 dX10_init_36 rfl rfl ?_
    refine g_iconst C (pc := 37) dX10_init_37 ck_iconst_2 ?_
    refine g_icmp_ge C (pc := 38) 60 dX10_init_38 (by decide) (fun c_38 => ?_) (fun c_38 => absurd (by decide) c_38)
    refine g_aload_n C (pc := 60) 0 dX10_init_60 rfl rfl ?_
    refine g_iconst C (pc := 61) dX10_init_61 ck_iconst_2 ?_
    refine g_newa C (pc := 62) (aty := .boolean) (ty := .boolean) 2 2 (2, .inl (fun _ => 0)) rfl rfl lT_boolean (fun _ => rfl) (by decide) (by decide +kernel) (by decide +kernel) ⟨Nat.le_of_ble_eq_true rfl, Nat.le_of_ble_eq_true rfl⟩ dX10_init_62 (fun qfi => ?_)
    refine g_perm perm_e ?_
    refine g_putF C (pc := 64) (ws' := ((((([wTk h (.ref (q 0)) (.ref qh) (.ref qsl) (.ref qfi) .null .null .null] ++ mcl (xy x) q (M0 o)) ++ wHist (xy x) qh qh1 0 kf) ++ [(qsl, .inl (xy x 4, 2, .inr (.inr (.inr (.inr f)))))]) ++ [(qfi, .inl (xy x 2, 2, .inl (fun _ => 0)))]) ++ (pool (xy x) Q (fun _ => M0 o) L7 ++ pool (xy x) S (fun _ => M0 o) (List.range 2)))) lpX10_27 hin 0 rfl rfl rfl rfl rfl (Nat.le_of_ble_eq_true rfl) rfl dX10_init_64 ?_
    refine g_aload_n C (pc := 67) 0 dX10_init_67 rfl rfl ?_
    refine g_new C (pc := 68) lWX10_31 [.null, .null, .null, .null, .null] (fun j hj => by rcases (show j = 0 ∨ j = 1 ∨ j = 2 ∨ j = 3 ∨ j = 4 by omega) with rfl | rfl | rfl | rfl | rfl <;> rfl) ⟨Nat.le_of_ble_eq_true rfl, Nat.le_of_ble_eq_true rfl⟩ dX10_init_68 (fun qv => ?_)
    refine g_dup C (pc := 71) dX10_init_71 rfl ?_
    refine g_callJ C (pc := 72) (b := qv) (As := []) (rest := [.ref qv, .ref h]) lkX9_init lIX10_33 (cX9_init_k (xl x) (xD x) (xy x) qv) rfl ⟨⟨Nat.le_of_ble_eq_true rfl, Nat.le_of_ble_eq_true rfl⟩, ⟨rfl, rfl⟩, ⟨Nat.le_of_ble_eq_true rfl, Nat.le_of_ble_eq_true rfl⟩⟩ rfl (Nat.le_of_ble_eq_true rfl) dX10_init_72 rfl (fun zv zw hw => ?_)
    obtain ⟨rfl, v1, v2, v3, v4, v5, v6, v7, v8, rfl⟩ := hw
    refine g_perm perm_e ?_
    refine g_putF C (pc := 75) (ws' := (((((([wTk h (.ref (q 0)) (.ref qh) (.ref qsl) (.ref qfi) (.ref qv) .null .null] ++ mcl (xy x) q (M0 o)) ++ wHist (xy x) qh qh1 0 kf) ++ [(qsl, .inl (xy x 4, 2, .inr (.inr (.inr (.inr f)))))]) ++ [(qfi, .inl (xy x 2, 2, .inl (fun _ => 0)))]) ++ [(qv, .inr (8, [.ref v1, .ref v3, .ref v5, .ref v7, .ref v8])), (v1, .inr (6, [.ref v2])), (v2, .inl ((xy x) 1, 8, .inr (.inl (fun _ => 0)))), (v3, .inr (6, [.ref v4])), (v4, .inl ((xy x) 1, 8, .inr (.inl (fun _ => 0)))), (v5, .inr (6, [.ref v6])), (v6, .inl ((xy x) 1, 8, .inr (.inl (fun _ => 0)))), (v7, .inl ((xy x) 0, 512, .inl (fun _ => 0))), (v8, .inl ((xy x) 0, 512, .inl (fun _ => 0)))]) ++ (pool (xy x) Q (fun _ => M0 o) L7 ++ pool (xy x) S (fun _ => M0 o) (List.range 2)))) lpX10_34 hin 0 rfl rfl rfl rfl rfl (Nat.le_of_ble_eq_true rfl) rfl dX10_init_75 ?_
    refine g_aload_n C (pc := 78) 0 dX10_init_78 rfl rfl ?_
    refine g_new C (pc := 79) lWX10_38 [.null, .int 0, .int 0, .int 0, .int 0, .int 0, .int 0, .int 0, .int 0, .int 0] (fun j hj => by rcases (show j = 0 ∨ j = 1 ∨ j = 2 ∨ j = 3 ∨ j = 4 ∨ j = 5 ∨ j = 6 ∨ j = 7 ∨ j = 8 ∨ j = 9 by omega) with rfl | rfl | rfl | rfl | rfl | rfl | rfl | rfl | rfl | rfl <;> rfl) ⟨Nat.le_of_ble_eq_true rfl, Nat.le_of_ble_eq_true rfl⟩ dX10_init_79 (fun qr => ?_)
    refine g_dup C (pc := 82) dX10_init_82 rfl ?_
    refine g_callJ C (pc := 83) (b := qr) (As := []) (rest := [.ref qr, .ref h]) lkX5_init lIX10_40 (cX5_init_k (xl x) (xD x) (xy x) qr) rfl ⟨⟨Nat.le_of_ble_eq_true rfl, Nat.le_of_ble_eq_true rfl⟩, ⟨rfl, rfl⟩, ⟨Nat.le_of_ble_eq_true rfl, Nat.le_of_ble_eq_true rfl⟩⟩ rfl (Nat.le_of_ble_eq_true rfl) dX10_init_83 rfl (fun zv zw hw => ?_)
    obtain ⟨rfl, qp, qp1, rfl⟩ := hw
    refine g_perm perm_e ?_
    refine g_putF C (pc := 86) (ws' := ((((((([wTk h (.ref (q 0)) (.ref qh) (.ref qsl) (.ref qfi) (.ref qv) .null (.ref qr)] ++ mcl (xy x) q (M0 o)) ++ wHist (xy x) qh qh1 0 kf) ++ [(qsl, .inl (xy x 4, 2, .inr (.inr (.inr (.inr f)))))]) ++ [(qfi, .inl (xy x 2, 2, .inl (fun _ => 0)))]) ++ [(qv, .inr (8, [.ref v1, .ref v3, .ref v5, .ref v7, .ref v8])), (v1, .inr (6, [.ref v2])), (v2, .inl ((xy x) 1, 8, .inr (.inl (fun _ => 0)))), (v3, .inr (6, [.ref v4])), (v4, .inl ((xy x) 1, 8, .inr (.inl (fun _ => 0)))), (v5, .inr (6, [.ref v6])), (v6, .inl ((xy x) 1, 8, .inr (.inl (fun _ => 0)))), (v7, .inl ((xy x) 0, 512, .inl (fun _ => 0))), (v8, .inl ((xy x) 0, 512, .inl (fun _ => 0)))]) ++ [(qr, .inr (4, [.ref qp, .int 0, .int 0, .int 0, .int 0, .int 0, .int 0, .int 0, .int 0, .int 0])), (qp, .inr (3, [.int 0, .ref qp1])), (qp1, .inl ((xy x) 3, 80, .inl (fun _ => 0)))]) ++ (pool (xy x) Q (fun _ => M0 o) L7 ++ pool (xy x) S (fun _ => M0 o) (List.range 2)))) lpX10_41 hin 0 rfl rfl rfl rfl rfl (Nat.le_of_ble_eq_true rfl) rfl dX10_init_86 ?_
    refine g_aload_n C (pc := 89) 0 dX10_init_89 rfl rfl ?_
    refine g_aload_n C (pc := 90) 0 dX10_init_90 rfl rfl ?_
    refine g_get C (pc := 91) lfX10_41 0 rfl rfl dX10_init_91 ?_
    refine g_get C (pc := 94) lfX10_45 31 rfl rfl dX10_init_94 ?_
    refine g_putF C (pc := 97) (ws' := ((((((([wTk h (.ref (q 0)) (.ref qh) (.ref qsl) (.ref qfi) (.ref qv) (.ref qp) (.ref qr)] ++ mcl (xy x) q (M0 o)) ++ wHist (xy x) qh qh1 0 kf) ++ [(qsl, .inl (xy x 4, 2, .inr (.inr (.inr (.inr f)))))]) ++ [(qfi, .inl (xy x 2, 2, .inl (fun _ => 0)))]) ++ [(qv, .inr (8, [.ref v1, .ref v3, .ref v5, .ref v7, .ref v8])), (v1, .inr (6, [.ref v2])), (v2, .inl ((xy x) 1, 8, .inr (.inl (fun _ => 0)))), (v3, .inr (6, [.ref v4])), (v4, .inl ((xy x) 1, 8, .inr (.inl (fun _ => 0)))), (v5, .inr (6, [.ref v6])), (v6, .inl ((xy x) 1, 8, .inr (.inl (fun _ => 0)))), (v7, .inl ((xy x) 0, 512, .inl (fun _ => 0))), (v8, .inl ((xy x) 0, 512, .inl (fun _ => 0)))]) ++ [(qr, .inr (4, [.ref qp, .int 0, .int 0, .int 0, .int 0, .int 0, .int 0, .int 0, .int 0, .int 0])), (qp, .inr (3, [.int 0, .ref qp1])), (qp1, .inl ((xy x) 3, 80, .inl (fun _ => 0)))]) ++ (pool (xy x) Q (fun _ => M0 o) L7 ++ pool (xy x) S (fun _ => M0 o) (List.range 2)))) lpX10_49 hin 0 rfl rfl rfl rfl rfl (Nat.le_of_ble_eq_true rfl) rfl dX10_init_97 ?_
    refine g_vret C E (pc := 100) dX10_init_100 ⟨rfl, (h, qh, qh1, qsl, qfi, q, (fun i => match i with | 0 => qv | 1 => v1 | 2 => v2 | 3 => v3 | 4 => v4 | 5 => v5 | 6 => v6 | 7 => v7 | _ => v8), (fun i => match i with | 0 => qr | 1 => qp | _ => qp1)), kf, f, Q, S, rfl, hk, hfj, ?_⟩
    exact List.Perm.append_right _ perm_tk
  | succ d ih =>
    intro i hi f S hfj
    have hi2 : i < 2 := by omega
    have hin2 : gi (nI i) 2 = true := gi_nI hi2 (by decide)
    have hx0 : ix (nI i) = i := ix_nI (by omega)
    refine g_iload_n C (pc := 36) 1 dX10_init_36 rfl rfl ?_
    refine g_iconst C (pc := 37) dX10_init_37 ck_iconst_2 ?_
    refine g_icmp_ge C (pc := 38) 60 dX10_init_38 (by decide) (fun c_38 => absurd c_38 (nI_ge (a := i) (b := 2) hi2 (by decide))) (fun c_38 => ?_)
    refine g_aload_n C (pc := 41) 0 dX10_init_41 rfl rfl ?_
    refine g_get C (pc := 42) lfX10_23 0 rfl rfl dX10_init_42 ?_
    refine g_iload_n C (pc := 45) 1 dX10_init_45 rfl rfl ?_
    refine g_new C (pc := 46) lWX10_7 [.int 0, .int 0, .int 0, .int 0, .null, .null, .null] (fun j hj => by rcases (show j = 0 ∨ j = 1 ∨ j = 2 ∨ j = 3 ∨ j = 4 ∨ j = 5 ∨ j = 6 by omega) with rfl | rfl | rfl | rfl | rfl | rfl | rfl <;> rfl) ⟨show _ ≤ 186 by omega, show _ ≤ 8991 by omega⟩ dX10_init_46 (fun a => ?_)
    refine g_dup C (pc := 49) dX10_init_49 rfl ?_
    refine g_callJ C (pc := 50) (b := a) (As := []) (rest := [.ref a, .int (nI i), .ref qsl]) (wc := [newM a]) lkX3_init lIX10_9 (cM_init (xl x) (xD x) (xy x) a o hf) rfl ⟨⟨Nat.le_of_ble_eq_true rfl, Nat.le_of_ble_eq_true rfl⟩, ⟨rfl, rfl⟩, ⟨show _ ≤ 186 by omega, show _ ≤ 8991 by omega⟩⟩ rfl (Nat.le_of_ble_eq_true rfl) dX10_init_50 rfl (fun zv zw hw => ?_)
    obtain ⟨rfl, qq, rfl, rfl⟩ := hw
    rw [List.append_assoc _ _ (mcl (xy x) qq (M0 o)), List.append_assoc _ _ (mcl (xy x) qq (M0 o)), pool_snoc]
    show GW x _ _ _ _ 53 [.ref (qq 0), .int (nI i), .ref qsl]
    obtain ⟨k, fs, hk0⟩ := pool_at (y := xy x) (Q := fun j => if j = i then qq else S j) (K := fun _ => M0 o) (A := ((([wTk h (.ref (q 0)) (.ref qh) (.ref qsl) .null .null .null .null] ++ mcl (xy x) q (M0 o)) ++ wHist (xy x) qh qh1 0 kf) ++ [(qsl, .inl (xy x 4, 2, .inr (.inr (.inr (.inr f)))))]) ++ pool (xy x) Q (fun _ => M0 o) L7) (List.mem_range.mpr (Nat.lt_succ_self i))
    simp only [if_pos rfl] at hk0
    rw [List.append_assoc _ (pool (xy x) Q (fun _ => M0 o) L7)] at hk0
    refine g_aast C (pc := 53) (ws' := ((([wTk h (.ref (q 0)) (.ref qh) (.ref qsl) .null .null .null .null] ++ mcl (xy x) q (M0 o)) ++ wHist (xy x) qh qh1 0 kf) ++ [(qsl, .inl (xy x 4, 2, .inr (.inr (.inr (.inr (va_up f (ix (nI i)) (some (qq 0))))))))]) ++ (pool (xy x) Q (fun _ => M0 o) L7 ++ pool (xy x) (fun j => if j = i then qq else S j) (fun _ => M0 o) (List.range (i + 1)))) 20 k 2 rfl hk0 rfl rfl hin2 rfl dX10_init_53 ?_
    refine g_iinc C (pc := 54) (v := nI i + 1) (lo' := [(1, .int (nI i + 1)), (0, .ref h)]) 1 dX10_init_54 rfl (congrArg (HAdd.hAdd _) ck_iinc_1) N rfl rfl ?_
    refine g_goto C (pc := 57) (tgt := 36) dX10_init_57 (by decide) ?_
    refine g_lo [1, 0] rfl ?_
    rw [nI_1]
    refine g_wid (k' := 139 + 17 * (i + 1)) (n' := 6275 + 783 * (i + 1)) (by omega) (by omega) ?_
    refine ih (i + 1) (by omega) _ _ (fun j hj => ?_)
    rw [hx0]
    by_cases hji : j = i
    · simp only [va_up, if_pos hji]
    · simp only [va_up, if_neg hji]
      exact hfj j (by omega)
set_option maxRecDepth 100000 in
set_option maxHeartbeats 4000000 in
theorem cX10_init_k (l : Launch) (D : va_G) (yy : Nat → ClassId) (h : Nat) (o : Int32 × (Nat → Int32) × (Nat → Int64)) (hf : beg0 o) : GMet l yX10_init cX10_init 2 none rmX10_init 186 8991 D yy [.ref h] [wTk h .null .null .null .null .null .null .null] (fun v w => v = none ∧ ∃ (a : TA) (kf sf : Nat → Option Nat) (Q S : Nat → Nat → Nat), a.1 = h ∧ (∀ i, i < 7 → kf i = some (Q i 0)) ∧ (∀ i, i < 2 → sf i = some (S i 0)) ∧ w.Perm (tkw yy a kf sf Q S (C0 o))) :=
  g_met (by decide +kernel) (Nat.le_of_ble_eq_true rfl) (fun x hl hD hy hN C E hin => by
    subst hD; subst hy
    refine g_aload_n C (pc := 0) 0 dX10_init_0 rfl rfl ?_
    refine g_obj C (pc := 1) lOX10_1 (Nat.le_of_ble_eq_true rfl) (Nat.le_of_ble_eq_true rfl) dX10_init_1 ?_
    refine g_aload_n C (pc := 4) 0 dX10_init_4 rfl rfl ?_
    refine g_new C (pc := 5) lWX10_7 [.int 0, .int 0, .int 0, .int 0, .null, .null, .null] (fun j hj => by rcases (show j = 0 ∨ j = 1 ∨ j = 2 ∨ j = 3 ∨ j = 4 ∨ j = 5 ∨ j = 6 by omega) with rfl | rfl | rfl | rfl | rfl | rfl | rfl <;> rfl) ⟨Nat.le_of_ble_eq_true rfl, Nat.le_of_ble_eq_true rfl⟩ dX10_init_5 (fun a => ?_)
    refine g_dup C (pc := 8) dX10_init_8 rfl ?_
    refine g_callJ C (pc := 9) (b := a) (As := []) (rest := [.ref a, .ref h]) (wc := [newM a]) lkX3_init lIX10_9 (cM_init (xl x) (xD x) (xy x) a o hf) rfl ⟨⟨Nat.le_of_ble_eq_true rfl, Nat.le_of_ble_eq_true rfl⟩, ⟨rfl, rfl⟩, ⟨Nat.le_of_ble_eq_true rfl, Nat.le_of_ble_eq_true rfl⟩⟩ rfl (Nat.le_of_ble_eq_true rfl) dX10_init_9 rfl (fun zv zw hw => ?_)
    obtain ⟨rfl, q, rfl, rfl⟩ := hw
    refine g_putF C (pc := 12) (ws' := [wTk h (.ref (q 0)) .null .null .null .null .null .null] ++ mcl (xy x) q (M0 o)) lpX10_10 hin 0 rfl rfl rfl rfl rfl (Nat.le_of_ble_eq_true rfl) rfl dX10_init_12 ?_
    refine g_aload_n C (pc := 15) 0 dX10_init_15 rfl rfl ?_
    refine g_new C (pc := 16) lWX10_16 [.int 0, .null] (fun j hj => by rcases (show j = 0 ∨ j = 1 by omega) with rfl | rfl <;> rfl) ⟨Nat.le_of_ble_eq_true rfl, Nat.le_of_ble_eq_true rfl⟩ dX10_init_16 (fun qh => ?_)
    refine g_dup C (pc := 19) dX10_init_19 rfl ?_
    refine g_callJ C (pc := 20) (b := qh) (As := []) (rest := [.ref qh, .ref h]) lkX2_init lIX10_18 (cX2_init_k (xl x) (xD x) (xy x) qh o hf) rfl ⟨⟨Nat.le_of_ble_eq_true rfl, Nat.le_of_ble_eq_true rfl⟩, ⟨rfl, rfl⟩, ⟨Nat.le_of_ble_eq_true rfl, Nat.le_of_ble_eq_true rfl⟩⟩ rfl (Nat.le_of_ble_eq_true rfl) dX10_init_20 rfl (fun zv zw hw => ?_)
    obtain ⟨rfl, qh1, kf, Q, hk, rfl⟩ := hw
    rw [← List.append_assoc]
    refine g_putF C (pc := 23) (ws' := (([wTk h (.ref (q 0)) (.ref qh) .null .null .null .null .null] ++ mcl (xy x) q (M0 o)) ++ wHist (xy x) qh qh1 0 kf) ++ pool (xy x) Q (fun _ => M0 o) L7) lpX10_19 hin 0 rfl rfl rfl rfl rfl (Nat.le_of_ble_eq_true rfl) rfl dX10_init_23 ?_
    refine g_aload_n C (pc := 26) 0 dX10_init_26 rfl rfl ?_
    refine g_iconst C (pc := 27) dX10_init_27 ck_iconst_2 ?_
    refine g_newq C (pc := 28) 4 2 rfl rfl lQX10_7 (by decide) (by decide +kernel) (by decide +kernel) ⟨Nat.le_of_ble_eq_true rfl, Nat.le_of_ble_eq_true rfl⟩ dX10_init_28 (fun qsl => ?_)
    refine g_perm perm_e ?_
    refine g_putF C (pc := 31) (ws' := ((([wTk h (.ref (q 0)) (.ref qh) (.ref qsl) .null .null .null .null] ++ mcl (xy x) q (M0 o)) ++ wHist (xy x) qh qh1 0 kf) ++ [(qsl, .inl (xy x 4, 2, .inr (.inr (.inr (.inr (fun _ => none))))))]) ++ pool (xy x) Q (fun _ => M0 o) L7) lpX10_23 hin 0 rfl rfl rfl rfl rfl (Nat.le_of_ble_eq_true rfl) rfl dX10_init_31 ?_
    refine g_iconst C (pc := 34) dX10_init_34 ck_iconst_0 ?_
    refine g_istore_n C (pc := 35) (lo' := [(1, .int 0), (0, .ref h)]) dX10_init_35 rfl hN rfl rfl ?_
    refine g_lo [1, 0] rfl ?_
    have hb := bX10_init x C hN hin h qh qh1 qsl q kf Q hk o hf E 2 0 rfl (fun _ => none) (fun _ _ => 0) (fun j hj => absurd hj (Nat.not_lt_zero _))
    rw [show pool (xy x) (fun _ _ => 0) (fun _ => M0 o) (List.range 0) = [] from rfl, List.append_nil] at hb
    exact hb)

/-- the part of the object that the questions need, and the rest of it -/
def tkP (y : Nat → ClassId) (a : TA) (c : CS) : va_W :=
  [(a.1, .inr (9, [.ref (a.2.2.2.2.2.1 0), .ref a.2.1, .ref a.2.2.2.1, .ref a.2.2.2.2.1, .ref (a.2.2.2.2.2.2.1 0), .ref (a.2.2.2.2.2.2.2 1), .ref (a.2.2.2.2.2.2.2 0)]))] ++ ([(a.2.1, .inr (1, [.int c.2.1, .ref a.2.2.1]))] ++ (mcl y a.2.2.2.2.2.1 c.1 ++ ([(a.2.2.2.2.2.2.1 0, .inr (8, [.ref (a.2.2.2.2.2.2.1 1), .ref (a.2.2.2.2.2.2.1 3), .ref (a.2.2.2.2.2.2.1 5), .ref (a.2.2.2.2.2.2.1 7), .ref (a.2.2.2.2.2.2.1 8)])), (a.2.2.2.2.2.2.1 1, .inr (6, [.ref (a.2.2.2.2.2.2.1 2)])), (a.2.2.2.2.2.2.1 2, .inl (y 1, 8, .inr (.inl (c.2.2.2.2.2.2.2.2.2 0)))), (a.2.2.2.2.2.2.1 3, .inr (6, [.ref (a.2.2.2.2.2.2.1 4)])), (a.2.2.2.2.2.2.1 4, .inl (y 1, 8, .inr (.inl (c.2.2.2.2.2.2.2.2.2 1)))), (a.2.2.2.2.2.2.1 5, .inr (6, [.ref (a.2.2.2.2.2.2.1 6)])), (a.2.2.2.2.2.2.1 6, .inl (y 1, 8, .inr (.inl (c.2.2.2.2.2.2.2.2.2 2)))), (a.2.2.2.2.2.2.1 7, .inl (y 0, 512, .inl (c.2.2.2.2.2.2.2.2.1 0))), (a.2.2.2.2.2.2.1 8, .inl (y 0, 512, .inl (c.2.2.2.2.2.2.2.2.1 1)))] ++ [(a.2.2.2.2.2.2.2 0, .inr (4, [.ref (a.2.2.2.2.2.2.2 1), .int (c.2.2.2.2.2.2.2.1 0), .int (c.2.2.2.2.2.2.2.1 1), .int (c.2.2.2.2.2.2.2.1 2), .int (c.2.2.2.2.2.2.2.1 3), .int (c.2.2.2.2.2.2.2.1 4), .int (c.2.2.2.2.2.2.2.1 5), .int (c.2.2.2.2.2.2.2.1 6), .int (c.2.2.2.2.2.2.2.1 7), .int (c.2.2.2.2.2.2.2.1 8)])), (a.2.2.2.2.2.2.2 1, .inr (3, [.int c.2.2.2.2.2.1, .ref (a.2.2.2.2.2.2.2 2)])), (a.2.2.2.2.2.2.2 2, .inl (y 3, 80, .inl c.2.2.2.2.2.2.1))])))
def tkR (y : Nat → ClassId) (a : TA) (kf sf : Nat → Option Nat) (Q S : Nat → Nat → Nat) (c : CS) : va_W := ([(a.2.2.1, .inl (y 4, 7, .inr (.inr (.inr (.inr kf)))))] ++ [(a.2.2.2.1, .inl (y 4, 2, .inr (.inr (.inr (.inr sf))))), (a.2.2.2.2.1, .inl (y 2, 2, .inl c.2.2.2.2.1))]) ++ (pool y Q c.2.2.1 L7 ++ pool y S c.2.2.2.1 L2)
theorem perm_q {α : Type} {t h k m v r s p : List α} : ((t ++ (h ++ (m ++ (v ++ r)))) ++ ((k ++ s) ++ p)).Perm ((t ++ ((h ++ k) ++ (m ++ (v ++ (r ++ s))))) ++ p) := by
  simp only [List.append_assoc]
  refine List.Perm.append_left _ (List.Perm.append_left _ ?_)
  have e1 : m ++ (v ++ (r ++ (k ++ (s ++ p)))) = ((m ++ (v ++ r)) ++ k) ++ (s ++ p) := by simp only [List.append_assoc]
  have e2 : k ++ (m ++ (v ++ (r ++ (s ++ p)))) = (k ++ (m ++ (v ++ r))) ++ (s ++ p) := by simp only [List.append_assoc]
  rw [e1, e2]
  exact List.Perm.append_right _ List.perm_append_comm
theorem tk_perm (y : Nat → ClassId) (a : TA) (kf sf : Nat → Option Nat) (Q S : Nat → Nat → Nat) (c : CS) : (tkP y a c ++ tkR y a kf sf Q S c).Perm (tkw y a kf sf Q S c) := perm_q
