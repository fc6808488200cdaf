/-! ===== the history and the whole object are made ===== -/
/-- a new machine, o being what beginAt makes of a new row of seen states -/
def M0 (o : Int32 × (Nat → Int32) × (Nat → Int64)) : MS := snap 0 0 0 0 0 (fun _ => 0) (fun _ => 0) (fun _ => 0) (fun _ => 0) (fun _ => 0) 0 (fun _ => 0) (fun _ => 0) (fun _ => 0) (fun _ => 0) (fun _ => 0) o.1 o.2.1 o.2.2
abbrev newM (h : Nat) : Nat × va_E := (h, .inr (2, [.int 0, .int 0, .int 0, .int 0, .null, .null, .null]))
abbrev beg0 (o : Int32 × (Nat → Int32) × (Nat → Int64)) : Prop := fX6_beginAt (fun _ => 0) (fun _ => 0) 0 = some o
theorem cM_init (l : Launch) (D : va_G) (yy : Nat → ClassId) (h : Nat) (o : Int32 × (Nat → Int32) × (Nat → Int64)) (hf : beg0 o) : GMet l yX3_init cX3_init 1 none rmX3_init 16 776 D yy [.ref h] [newM h] (fun v w => v = none ∧ ∃ q : Nat → Nat, q 0 = h ∧ w = mcl yy q (M0 o)) :=
  (cX3_init_k l D yy h o hf).imp fun v w hw => by
    obtain ⟨e, a1, a2, a3, a4, a5, a6, a7, a8, a9, a10, a11, a12, a13, a14, a15, a16, hw⟩ := hw
    exact ⟨e, adr17 h a1 a2 a3 a4 a5 a6 a7 a8 a9 a10 a11 a12 a13 a14 a15 a16, rfl, hw⟩
theorem pool_snoc {y : Nat → ClassId} {Q : Nat → Nat → Nat} {M : MS} {i : Nat} {q : Nat → Nat} : pool y Q (fun _ => M) (List.range i) ++ mcl y q M = pool y (fun j => if j = i then q else Q j) (fun _ => M) (List.range (i + 1)) := by
  unfold pool
  rw [List.range_succ, List.flatMap_append]
  have e : (List.range i).flatMap (fun j => mcl y ((fun j => if j = i then q else Q j) j) M) = (List.range i).flatMap (fun j => mcl y (Q j) M) := by
    have := pool_congr (y := y) (Q := fun j => if j = i then q else Q j) (Q' := Q) (K := fun _ => M) (K' := fun _ => M) (l := List.range i) (fun j hj => ⟨if_neg (Nat.ne_of_lt (List.mem_range.mp hj)), rfl⟩)
    exact this
  simp only at e ⊢
  rw [e]
  simp
def rmX2_init : Room := { frames := 5, cells := 120, slots := 5488, locals := 104 }
set_option maxRecDepth 100000 in
set_option maxHeartbeats 4000000 in
theorem bX2_init (x : GX) (C : GC x cX2_init RX2 rmX2_init) (N : xn x = 2) (h a1 : Nat) (o : Int32 × (Nat → Int32) × (Nat → Int64)) (hf : beg0 o) (E : GE x none 120 5488 (fun v w => v = none ∧ ∃ (a1 : Nat) (kf : Nat → Option Nat) (Q : Nat → Nat → Nat), (∀ i, i < 7 → kf i = some (Q i 0)) ∧ w = wHist (xy x) h a1 0 kf ++ pool (xy x) Q (fun _ => M0 o) L7)) :
    ∀ (d i : Nat), i + d = 7 → ∀ (f : Nat → Option Nat) (Q : Nat → Nat → Nat), (∀ j, j < i → f j = some (Q j 0)) → GW x (1 + 17 * i) (7 + 783 * i) (wHist (xy x) h a1 0 f ++ pool (xy x) Q (fun _ => M0 o) (List.range i)) [(0, .ref h), (1, .int (nI i))] 15 [] := by
  intro d
  induction d with
  | zero =>
    intro i hi f Q hfj
    have e7 : i = 7 := by omega
    subst e7
    refine g_iload_n C (pc := 15) 1 dX2_init_15 rfl rfl ?_
    refine g_aload_n C (pc := 16) 0 dX2_init_16 rfl rfl ?_
    refine g_get C (pc := 17) lfX2_11 0 rfl rfl dX2_init_17 ?_
    refine g_alen C (pc := 20) (v := 7) 1 4 rfl rfl ck_len_7 dX2_init_20 ?_
    refine g_icmp_ge C (pc := 21) 43 dX2_init_21 (by decide) (fun c_21 => ?_) (fun c_21 => absurd (by decide) c_21)
    exact g_vret C E (pc := 43) dX2_init_43 ⟨rfl, a1, f, Q, hfj, rfl⟩
  | succ d ih =>
    intro i hi f Q hfj
    have hi7 : i < 7 := by omega
    have hin : gi (nI i) 7 = true := gi_nI hi7 (by decide)
    have hx0 : ix (nI i) = i := ix_nI (by omega)
    refine g_iload_n C (pc := 15) 1 dX2_init_15 rfl rfl ?_
    refine g_aload_n C (pc := 16) 0 dX2_init_16 rfl rfl ?_
    refine g_get C (pc := 17) lfX2_11 0 rfl rfl dX2_init_17 ?_
    refine g_alen C (pc := 20) (v := 7) 1 4 rfl rfl ck_len_7 dX2_init_20 ?_
    refine g_icmp_ge C (pc := 21) 43 dX2_init_21 (by decide) (fun c_21 => absurd c_21 (nI_ge (a := i) (b := 7) hi7 (by decide))) (fun c_21 => ?_)
    refine g_aload_n C (pc := 24) 0 dX2_init_24 rfl rfl ?_
    refine g_get C (pc := 25) lfX2_11 0 rfl rfl dX2_init_25 ?_
    refine g_iload_n C (pc := 28) 1 dX2_init_28 rfl rfl ?_
    refine g_new C (pc := 29) lWX2_9 [.int 0, .int 0, .int 0, .int 0, .null, .null, .null] (fun j hj => by rcases (show j = 0 ∨ j = 1 ∨ j = 2 ∨ j = 3 ∨ j = 4 ∨ j = 5 ∨ j = 6 by omega) with rfl | rfl | rfl | rfl | rfl | rfl | rfl <;> rfl) ⟨show _ ≤ 120 by omega, show _ ≤ 5488 by omega⟩ dX2_init_29 (fun a => ?_)
    refine g_dup C (pc := 32) dX2_init_32 rfl ?_
    refine g_callJ C (pc := 33) (b := a) (As := []) (rest := [.ref a, .int (nI i), .ref a1]) (wr := wHist (xy x) h a1 0 f ++ pool (xy x) Q (fun _ => M0 o) (List.range i)) (wc := [newM a]) lkX3_init lIX2_17 (cM_init (xl x) (xD x) (xy x) a o hf) rfl ⟨⟨Nat.le_of_ble_eq_true rfl, Nat.le_of_ble_eq_true rfl⟩, ⟨rfl, rfl⟩, ⟨show _ ≤ 120 by omega, show _ ≤ 5488 by omega⟩⟩ rfl (Nat.le_of_ble_eq_true rfl) dX2_init_33 rfl (fun zv zw hw => ?_)
    obtain ⟨rfl, q, rfl, rfl⟩ := hw
    rw [List.append_assoc, pool_snoc]
    show GW x _ _ _ _ 36 [.ref (q 0), .int (nI i), .ref a1]
    obtain ⟨k, fs, hk0⟩ := pool_at (y := xy x) (Q := fun j => if j = i then q else Q j) (K := fun _ => M0 o) (A := wHist (xy x) h a1 0 f) (List.mem_range.mpr (Nat.lt_succ_self i))
    simp only [if_pos rfl] at hk0
    refine g_aast C (pc := 36) (ws' := wHist (xy x) h a1 0 (va_up f (ix (nI i)) (some (q 0))) ++ pool (xy x) (fun j => if j = i then q else Q j) (fun _ => M0 o) (List.range (i + 1))) 1 k 2 rfl hk0 rfl rfl hin rfl dX2_init_36 ?_
    refine g_iinc C (pc := 37) (v := nI i + 1) (lo' := [(1, .int (nI i + 1)), (0, .ref h)]) 1 dX2_init_37 rfl (congrArg (HAdd.hAdd _) ck_iinc_1) N rfl rfl ?_
    refine g_goto C (pc := 40) (tgt := 15) dX2_init_40 (by decide) ?_
    refine g_lo [1, 0] rfl ?_
    rw [nI_1]
    refine g_wid (k' := 1 + 17 * (i + 1)) (n' := 7 + 783 * (i + 1)) (by omega) (by omega) ?_
    refine ih (i + 1) (by omega) _ _ (fun j hj => ?_)
    rw [hx0]
    by_cases hji : j = i
    · simp only [va_up, if_pos hji]
    · simp only [va_up, if_neg hji]
      exact hfj j (by omega)
set_option maxRecDepth 100000 in
set_option maxHeartbeats 4000000 in
theorem cX2_init_k (l : Launch) (D : va_G) (yy : Nat → ClassId) (h : Nat) (o : Int32 × (Nat → Int32) × (Nat → Int64)) (hf : beg0 o) : GMet l yX2_init cX2_init 2 none rmX2_init 120 5488 D yy [.ref h] [(h, .inr (1, [.int 0, .null]))] (fun v w => v = none ∧ ∃ (a1 : Nat) (kf : Nat → Option Nat) (Q : Nat → Nat → Nat), (∀ i, i < 7 → kf i = some (Q i 0)) ∧ w = wHist yy h a1 0 kf ++ pool yy Q (fun _ => M0 o) L7) :=
  g_met (by decide +kernel) (Nat.le_of_ble_eq_true rfl) (fun x hl hD hy hN C E hin => by
    subst hD; subst hy
    refine g_aload_n C (pc := 0) 0 dX2_init_0 rfl rfl ?_
    refine g_obj C (pc := 1) lOX2_3 (Nat.le_of_ble_eq_true rfl) (Nat.le_of_ble_eq_true rfl) dX2_init_1 ?_
    refine g_aload_n C (pc := 4) 0 dX2_init_4 rfl rfl ?_
    refine g_bipush C (pc := 5) dX2_init_5 ck_bipush_7 ?_
    refine g_newq C (pc := 7) 4 7 rfl rfl lQX2_9 (by decide) (by decide +kernel) (by decide +kernel) ⟨Nat.le_of_ble_eq_true rfl, Nat.le_of_ble_eq_true rfl⟩ dX2_init_7 (fun a1 => ?_)
    refine g_putF C (pc := 10) (ws' := wHist (xy x) h a1 0 (fun _ => none) ++ pool (xy x) (fun _ _ => 0) (fun _ => M0 o) (List.range 0)) lpX2_11 hin 0 rfl rfl rfl rfl rfl (Nat.le_of_ble_eq_true rfl) rfl dX2_init_10 ?_
    refine g_iconst C (pc := 13) dX2_init_13 ck_iconst_0 ?_
    refine g_istore_n C (pc := 14) (lo' := [(1, .int 0), (0, .ref h)]) dX2_init_14 rfl hN rfl rfl ?_
    refine g_lo [1, 0] rfl ?_
    exact bX2_init x C hN h a1 o hf E 7 0 rfl _ _ (fun j hj => absurd hj (Nat.not_lt_zero _)))
