/-! ===== the history: machines that are kept, wherever they lie ===== -/
def L7 : List Nat := [0, 1, 2, 3, 4, 5, 6]
def L2 : List Nat := [0, 1]
theorem L7_mem {i : Nat} : i ∈ L7 ↔ i < 7 := by simp [L7]; omega
theorem L2_mem {i : Nat} : i ∈ L2 ↔ i < 2 := by simp [L2]; omega
theorem L7_nd : L7.Nodup := by decide
theorem L2_nd : L2.Nodup := by decide
theorem gi_lt {i : Int32} {n : Nat} (h : gi i n = true) : ix i < n := Nat.not_le.mp fun z => gi_in h (Or.inr z)
/-- one machine copied into another: what the other is then -/
def kcopy (A M : MS) : Option MS := bd (fX3_copyFrom (A.2.1 0) (A.2.1 1) (A.2.1 2) (A.2.1 3) (A.2.1 4) (A.2.1 5) (A.2.1 6) (A.2.1 7) (A.2.1 8) (A.2.1 9) (A.2.1 10) A.2.2 (M.1 0) (M.1 1) (M.1 2) (M.1 3) (M.1 4) (M.2.1 0) (M.2.1 1) (M.2.1 2) (M.2.1 3) (M.2.1 4) (M.1 5) (M.2.1 5) (M.2.1 6) (M.2.1 7) (M.2.1 8) (M.2.1 9) (M.1 6) (M.2.1 10) M.2.2) fun o => some (snap o.1 o.2.1 o.2.2.1 o.2.2.2.1 o.2.2.2.2.1 o.2.2.2.2.2.1 o.2.2.2.2.2.2.1 o.2.2.2.2.2.2.2.1 o.2.2.2.2.2.2.2.2.1 o.2.2.2.2.2.2.2.2.2.1 o.2.2.2.2.2.2.2.2.2.2.1 o.2.2.2.2.2.2.2.2.2.2.2.1 o.2.2.2.2.2.2.2.2.2.2.2.2.1 o.2.2.2.2.2.2.2.2.2.2.2.2.2.1 o.2.2.2.2.2.2.2.2.2.2.2.2.2.2.1 o.2.2.2.2.2.2.2.2.2.2.2.2.2.2.2.1 o.2.2.2.2.2.2.2.2.2.2.2.2.2.2.2.2.1 o.2.2.2.2.2.2.2.2.2.2.2.2.2.2.2.2.2.1 o.2.2.2.2.2.2.2.2.2.2.2.2.2.2.2.2.2.2)
set_option maxRecDepth 100000 in
set_option maxHeartbeats 4000000 in
theorem cK_copy (l : Launch) (D : va_G) (yy : Nat → ClassId) (q o : Nat → Nat) (A M R : MS) (h : kcopy A M = some R) : GMet l yX3_copyFrom cX3_copyFrom 2 none rmX3_copyFrom 0 0 D yy [.ref (q 0), .ref (o 0)] (mcl yy q A ++ mcl yy o M) (fun v w => v = none ∧ w = mcl yy q R ++ mcl yy o M) := by
  obtain ⟨z, h1, h2⟩ := k_bd h
  cases h2
  exact cX3_copyFrom_k l D yy (q 0) (A.1 0) (A.1 1) (A.1 2) (A.1 3) (q 1) (A.1 4) (q 2) (A.2.1 0) (q 3) (A.2.1 1) (q 4) (A.2.1 2) (q 5) (A.2.1 3) (q 6) (A.2.1 4) (q 7) (A.1 5) (q 8) (A.2.1 5) (q 9) (A.2.1 6) (q 10) (A.2.1 7) (q 11) (A.2.1 8) (q 12) (A.2.1 9) (q 13) (A.1 6) (q 14) (A.2.1 10) (q 15) (q 16) A.2.2 (o 0) (M.1 0) (M.1 1) (M.1 2) (M.1 3) (o 1) (M.1 4) (o 2) (M.2.1 0) (o 3) (M.2.1 1) (o 4) (M.2.1 2) (o 5) (M.2.1 3) (o 6) (M.2.1 4) (o 7) (M.1 5) (o 8) (M.2.1 5) (o 9) (M.2.1 6) (o 10) (M.2.1 7) (o 11) (M.2.1 8) (o 12) (M.2.1 9) (o 13) (M.1 6) (o 14) (M.2.1 10) (o 15) (o 16) M.2.2 z h1
theorem pool_out {y : Nat → ClassId} {Q : Nat → Nat → Nat} {K : Nat → MS} {l : List Nat} {i : Nat} (hi : i ∈ l) : (pool y Q K l).Perm (mcl y (Q i) (K i) ++ pool y Q K (l.erase i)) := pool_perm (List.perm_cons_erase hi)
theorem pool_upK {y : Nat → ClassId} {Q : Nat → Nat → Nat} {K : Nat → MS} {l : List Nat} {i : Nat} {R : MS} (hn : l.Nodup) : pool y Q (upK K i R) (l.erase i) = pool y Q K (l.erase i) := pool_congr fun j hj => ⟨rfl, if_neg ((hn.mem_erase_iff).mp hj).1⟩
theorem pool_in {y : Nat → ClassId} {Q : Nat → Nat → Nat} {K : Nat → MS} {l : List Nat} {i : Nat} {R : MS} (hn : l.Nodup) (hi : i ∈ l) : (mcl y (Q i) R ++ pool y Q K (l.erase i)).Perm (pool y Q (upK K i R) l) := by
  have h := (pool_out (y := y) (Q := Q) (K := upK K i R) hi).symm
  rw [pool_upK hn] at h
  rw [show upK K i R i = R from if_pos rfl] at h
  exact h
theorem perm_a {α : Type} {H N P Mi P' : List α} (h : P.Perm (Mi ++ P')) : ((H ++ N) ++ P).Perm ((Mi ++ N) ++ (H ++ P')) := by
  refine (List.Perm.append_left _ h).trans ?_
  rw [← List.append_assoc (H ++ N) Mi P', ← List.append_assoc (Mi ++ N) H P']
  refine List.Perm.append_right _ ?_
  refine List.perm_append_comm.trans ?_
  rw [List.append_assoc]
  exact List.Perm.append_left _ List.perm_append_comm
/-! prepare -/
def fX2_prepare (h_n : Int32) (K : Nat → MS) (M : MS) : Option (Nat → MS) := gd (gi h_n 7) (bd (kcopy (K (ix h_n)) M) fun R => some (upK K (ix h_n) R))
def rmX2_prepare : Room := { frames := rmX3_copyFrom.frames + 1, cells := 0, slots := 0, locals := 8 + (2 + 11) + rmX3_copyFrom.locals }
abbrev wHist (y : Nat → ClassId) (qh qh1 : Nat) (h_n : Int32) (kf : Nat → Option Nat) : va_W := [(qh, .inr (1, [.int h_n, .ref qh1])), (qh1, .inl (y 4, 7, .inr (.inr (.inr (.inr kf)))))]
set_option maxRecDepth 100000 in
set_option maxHeartbeats 4000000 in
theorem cX2_prepare_k (l : Launch) (D : va_G) (yy : Nat → ClassId) (qh qh1 : Nat) (h_n : Int32) (kf : Nat → Option Nat) (Q : Nat → Nat → Nat) (K : Nat → MS) (qn : Nat → Nat) (M : MS) (K' : Nat → MS) (hk : ∀ i, i < 7 → kf i = some (Q i 0)) (hf : fX2_prepare h_n K M = some K') : GMet l yX2_prepare cX2_prepare 2 none rmX2_prepare 0 0 D yy [.ref qh, .ref (qn 0)] ((wHist yy qh qh1 h_n kf ++ mcl yy qn M) ++ pool yy Q K L7) (fun v w => v = none ∧ w = (wHist yy qh qh1 h_n kf ++ mcl yy qn M) ++ pool yy Q K' L7) :=
  g_met (by decide +kernel) (Nat.le_of_ble_eq_true rfl) (fun x hl hD hy hn C E _ => by
    subst hD; subst hy
    obtain ⟨hi, hf⟩ := k_gd hf
    obtain ⟨R, hR, hf⟩ := k_bd hf
    cases hf
    have h7 := gi_lt hi
    have hm := L7_mem.mpr h7
    refine g_aload_n C (pc := 0) 0 dX2_prepare_0 rfl rfl ?_
    refine g_get C (pc := 1) lfX2_11 0 rfl rfl dX2_prepare_1 ?_
    refine g_aload_n C (pc := 4) 0 dX2_prepare_4 rfl rfl ?_
    refine g_get C (pc := 5) lfX2_18 0 rfl rfl dX2_prepare_5 ?_
    refine g_aald C (pc := 8) 1 rfl hi dX2_prepare_8 ?_
    rw [hk _ h7]
    show GW x 0 0 _ _ 9 [.ref (Q (ix h_n) 0)]
    refine g_aload_n C (pc := 9) 1 dX2_prepare_9 rfl rfl ?_
    refine g_perm (perm_a (pool_out hm)) ?_
    refine g_callF C (pc := 10) (As := [.ref (qn 0)]) (rest := []) (b := Q (ix h_n) 0) 0 lkX3_copyFrom lVX2_22 (cK_copy (xl x) (xD x) (xy x) (Q (ix h_n)) qn (K (ix h_n)) M R hR) rfl ⟨⟨Nat.le_of_ble_eq_true rfl, Nat.le_of_ble_eq_true rfl⟩, ⟨rfl, rfl⟩, ⟨Nat.le_of_ble_eq_true rfl, Nat.le_of_ble_eq_true rfl⟩⟩ rfl rfl rfl (Nat.le_of_ble_eq_true rfl) dX2_prepare_10 (fun v w hw => ?_)
    obtain ⟨rfl, rfl⟩ := hw
    refine g_perm (perm_a (pool_in L7_nd hm).symm).symm ?_
    exact g_vret C E (pc := 13) dX2_prepare_13 ⟨rfl, rfl⟩)
/-! takeBack -/
def fX2_takeBack (h_n : Int32) (K : Nat → MS) (M : MS) : Option (Int32 × Int32 × MS) := if 0 < h_n then gd (gi (h_n - 1) 7) (bd (kcopy M (K (ix (h_n - 1)))) fun R => some (1, h_n - 1, R)) else some (0, h_n, M)
def rmX2_takeBack : Room := rmX2_prepare
theorem perm_b {α : Type} {H N P Mi P' : List α} (h : P.Perm (Mi ++ P')) : ((H ++ N) ++ P).Perm ((N ++ Mi) ++ (H ++ P')) := (perm_a h).trans (List.Perm.append_right _ List.perm_append_comm)
set_option maxRecDepth 100000 in
set_option maxHeartbeats 4000000 in
theorem cX2_takeBack_k (l : Launch) (D : va_G) (yy : Nat → ClassId) (qh qh1 : Nat) (h_n : Int32) (kf : Nat → Option Nat) (Q : Nat → Nat → Nat) (K : Nat → MS) (qn : Nat → Nat) (M : MS) (o : Int32 × Int32 × MS) (hk : ∀ i, i < 7 → kf i = some (Q i 0)) (hf : fX2_takeBack h_n K M = some o) : GMet l yX2_takeBack cX2_takeBack 2 (some .boolean) rmX2_takeBack 0 0 D yy [.ref qh, .ref (qn 0)] ((wHist yy qh qh1 h_n kf ++ mcl yy qn M) ++ pool yy Q K L7) (fun v w => v = some (.int o.1) ∧ w = (wHist yy qh qh1 o.2.1 kf ++ mcl yy qn o.2.2) ++ pool yy Q K L7) :=
  g_met (by decide +kernel) (Nat.le_of_ble_eq_true rfl) (fun x hl hD hy hn C E _ => by
    subst hD; subst hy
    unfold fX2_takeBack at hf
    refine g_aload_n C (pc := 0) 0 dX2_takeBack_0 rfl rfl ?_
    refine g_get C (pc := 1) lfX2_18 0 rfl rfl dX2_takeBack_1 ?_
    refine g_if_gt C (pc := 4) 9 dX2_takeBack_4 (by decide) (fun c_4 => ?_) (fun c_4 => ?_)
    · replace hf := (k_if hf).1 c_4
      obtain ⟨hi, hf⟩ := k_gd hf
      obtain ⟨R, hR, hf⟩ := k_bd hf
      cases hf
      have h7 := gi_lt hi
      have hm := L7_mem.mpr h7
      refine g_aload_n C (pc := 9) 0 dX2_takeBack_9 rfl rfl ?_
      refine g_dup C (pc := 10) dX2_takeBack_10 rfl ?_
      refine g_get C (pc := 11) lfX2_18 0 rfl rfl dX2_takeBack_11 ?_
      refine g_iconst C (pc := 14) dX2_takeBack_14 ck_iconst_1 ?_
      refine g_isub C (pc := 15) dX2_takeBack_15 ?_
      refine g_put C (pc := 16) (ws' := (wHist (xy x) qh qh1 (h_n - 1) kf ++ mcl (xy x) qn M) ++ pool (xy x) Q K L7) lpX2_18 0 rfl rfl rfl rfl (Nat.le_of_ble_eq_true rfl) rfl dX2_takeBack_16 ?_
      refine g_aload_n C (pc := 19) 1 dX2_takeBack_19 rfl rfl ?_
      refine g_aload_n C (pc := 20) 0 dX2_takeBack_20 rfl rfl ?_
      refine g_get C (pc := 21) lfX2_11 0 rfl rfl dX2_takeBack_21 ?_
      refine g_aload_n C (pc := 24) 0 dX2_takeBack_24 rfl rfl ?_
      refine g_get C (pc := 25) lfX2_18 0 rfl rfl dX2_takeBack_25 ?_
      refine g_aald C (pc := 28) 1 rfl hi dX2_takeBack_28 ?_
      rw [hk _ h7]
      show GW x 0 0 _ _ 29 [.ref (Q (ix (h_n - 1)) 0), .ref (qn 0)]
      refine g_perm (perm_b (pool_out hm)) ?_
      refine g_callF C (pc := 29) (As := [.ref (Q (ix (h_n - 1)) 0)]) (rest := []) (b := qn 0) 0 lkX3_copyFrom lVX2_22 (cK_copy (xl x) (xD x) (xy x) qn (Q (ix (h_n - 1))) M (K (ix (h_n - 1))) R hR) rfl ⟨⟨Nat.le_of_ble_eq_true rfl, Nat.le_of_ble_eq_true rfl⟩, ⟨rfl, rfl⟩, ⟨Nat.le_of_ble_eq_true rfl, Nat.le_of_ble_eq_true rfl⟩⟩ rfl rfl rfl (Nat.le_of_ble_eq_true rfl) dX2_takeBack_29 (fun v w hw => ?_)
      obtain ⟨rfl, rfl⟩ := hw
      refine g_perm (perm_b (pool_out hm)).symm ?_
      refine g_iconst C (pc := 32) dX2_takeBack_32 ck_iconst_1 ?_
      exact g_zret C E rfl (pc := 33) dX2_takeBack_33 ⟨rfl, rfl⟩
    · replace hf := (k_if hf).2 c_4
      cases hf
      refine g_iconst C (pc := 7) dX2_takeBack_7 ck_iconst_0 ?_
      exact g_zret C E rfl (pc := 8) dX2_takeBack_8 ⟨rfl, rfl⟩)
/-! the oldest moves behind -/
def rotK (K : Nat → MS) : Nat → MS := fun i => if i < 6 then K (i + 1) else K 0
def rotQ (Q : Nat → Nat → Nat) : Nat → Nat → Nat := fun i => if i < 6 then Q (i + 1) else Q 0
theorem rot_perm {y : Nat → ClassId} {Q : Nat → Nat → Nat} {K : Nat → MS} : (pool y Q K L7).Perm (pool y (rotQ Q) (rotK K) L7) := by
  have h : (mcl y (Q 0) (K 0) ++ (mcl y (Q 1) (K 1) ++ (mcl y (Q 2) (K 2) ++ (mcl y (Q 3) (K 3) ++ (mcl y (Q 4) (K 4) ++ (mcl y (Q 5) (K 5) ++ (mcl y (Q 6) (K 6) ++ []))))))).Perm ((mcl y (Q 1) (K 1) ++ (mcl y (Q 2) (K 2) ++ (mcl y (Q 3) (K 3) ++ (mcl y (Q 4) (K 4) ++ (mcl y (Q 5) (K 5) ++ (mcl y (Q 6) (K 6) ++ (mcl y (Q 0) (K 0) ++ [])))))))) := by
    have e : ∀ a b c d e f g : va_W, b ++ (c ++ (d ++ (e ++ (f ++ (g ++ (a ++ [])))))) = (b ++ (c ++ (d ++ (e ++ (f ++ (g ++ [])))))) ++ a := fun a b c d e f g => by simp [List.append_assoc]
    rw [e (mcl y (Q 0) (K 0)) (mcl y (Q 1) (K 1)) (mcl y (Q 2) (K 2)) (mcl y (Q 3) (K 3)) (mcl y (Q 4) (K 4)) (mcl y (Q 5) (K 5)) (mcl y (Q 6) (K 6))]
    exact List.perm_append_comm
  exact h
/-- the row while it moves: the first i are there -/
def rotF (kf : Nat → Option Nat) (i : Nat) : Nat → Option Nat := fun j => if j < i then kf (j + 1) else kf j
def rmX2_mob : Room := { frames := 0, cells := 0, slots := 0, locals := 0 }
theorem pool_at {y : Nat → ClassId} {Q : Nat → Nat → Nat} {K : Nat → MS} {l : List Nat} {i : Nat} {A : va_W} (hi : i ∈ l) : ∃ (k : Nat) (fs : List Value), (A ++ pool y Q K l)[k]? = some (Q i 0, .inr (2, fs)) := by
  have hm : (Q i 0, (.inr (2, [.int ((K i).1 0), .int ((K i).1 1), .int ((K i).1 2), .int ((K i).1 3), .ref (Q i 1), .ref (Q i 7), .ref (Q i 13)]) : va_E)) ∈ A ++ pool y Q K l := List.mem_append_right _ (List.mem_flatMap.mpr ⟨i, hi, List.mem_cons_self⟩)
  obtain ⟨k, hk⟩ := List.getElem?_of_mem hm
  exact ⟨k, _, hk⟩
theorem ix_nI {i : Nat} (h : i < 2 ^ 31) : ix (nI i) = i := nI_clamp h
theorem gi_nI {i n : Nat} (h : i < n) (hn : n < 2 ^ 31) : gi (nI i) n = true := by
  rw [gi, nI_toInt (by omega), Bool.and_eq_true, decide_eq_true_eq, decide_eq_true_eq]
  omega
set_option maxRecDepth 100000 in
set_option maxHeartbeats 4000000 in
theorem bX2_mob (x : GX) (C : GC x cX2_moveOldestBehind RX2 rmX2_mob) (N : xn x = 3) (qh qh1 : Nat) (h_n : Int32) (kf : Nat → Option Nat) (Q : Nat → Nat → Nat) (K : Nat → MS) (hk : ∀ i, i < 7 → kf i = some (Q i 0)) (E : GE x none 0 0 (fun v w => v = none ∧ ∃ kf' : Nat → Option Nat, (∀ i, i < 7 → kf' i = some (rotQ Q i 0)) ∧ w = wHist (xy x) qh qh1 h_n kf' ++ pool (xy x) Q K L7)) :
    ∀ (d i : Nat), i + d = 6 → ∀ f : Nat → Option Nat, (∀ j, j < 7 → f j = rotF kf i j) → GW x 0 0 (wHist (xy x) qh qh1 h_n f ++ pool (xy x) Q K L7) [(0, .ref qh), (1, .ref (Q 0 0)), (2, .int (nI i))] 9 [] := by
  intro d
  induction d with
  | zero =>
    intro i hi f hf
    have e6 : i = 6 := by omega
    subst e6
    refine g_iload_n C (pc := 9) 2 dX2_moveOldestBehind_9 rfl rfl ?_
    refine g_bipush C (pc := 10) dX2_moveOldestBehind_10 ck_bipush_6 ?_
    refine g_icmp_ge C (pc := 12) 35 dX2_moveOldestBehind_12 (by decide) (fun c_12 => ?_) (fun c_12 => absurd (by decide) c_12)
    refine g_aload_n C (pc := 35) 0 dX2_moveOldestBehind_35 rfl rfl ?_
    refine g_get C (pc := 36) lfX2_11 0 rfl rfl dX2_moveOldestBehind_36 ?_
    refine g_bipush C (pc := 39) dX2_moveOldestBehind_39 ck_bipush_6 ?_
    refine g_aload_n C (pc := 41) 1 dX2_moveOldestBehind_41 rfl rfl ?_
    obtain ⟨k, fs, hk0⟩ := pool_at (y := xy x) (Q := Q) (K := K) (A := wHist (xy x) qh qh1 h_n f) (L7_mem.mpr (show 0 < 7 by decide))
    refine g_aast C (pc := 42) (ws' := wHist (xy x) qh qh1 h_n (va_up f (ix 6) (some (Q 0 0))) ++ pool (xy x) Q K L7) 1 k 2 rfl hk0 rfl rfl (by decide) rfl dX2_moveOldestBehind_42 ?_
    refine g_vret C E (pc := 43) dX2_moveOldestBehind_43 ⟨rfl, _, fun j hj => ?_, rfl⟩
    have h6 : ix 6 = 6 := by decide
    rw [h6]
    by_cases hj6 : j = 6
    · subst hj6
      simp [va_up, rotQ]
    · have hlt : j < 6 := by omega
      simp only [va_up, rotQ, if_neg hj6, if_pos hlt]
      rw [hf j hj, rotF, if_pos hlt]
      exact hk (j + 1) (by omega)
  | succ d ih =>
    intro i hi f hf
    have hi6 : i < 6 := by omega
    have hin : gi (nI i) 7 = true := gi_nI (by omega) (by decide)
    have hin1 : gi (nI i + 1) 7 = true := by rw [nI_1]; exact gi_nI (by omega) (by decide)
    have hx : ix (nI i + 1) = i + 1 := by rw [nI_1]; exact ix_nI (by omega)
    have hx0 : ix (nI i) = i := ix_nI (by omega)
    refine g_iload_n C (pc := 9) 2 dX2_moveOldestBehind_9 rfl rfl ?_
    refine g_bipush C (pc := 10) dX2_moveOldestBehind_10 ck_bipush_6 ?_
    refine g_icmp_ge C (pc := 12) 35 dX2_moveOldestBehind_12 (by decide) (fun c_12 => absurd c_12 (nI_ge (a := i) (b := 6) hi6 (by decide))) (fun c_12 => ?_)
    refine g_aload_n C (pc := 15) 0 dX2_moveOldestBehind_15 rfl rfl ?_
    refine g_get C (pc := 16) lfX2_11 0 rfl rfl dX2_moveOldestBehind_16 ?_
    refine g_iload_n C (pc := 19) 2 dX2_moveOldestBehind_19 rfl rfl ?_
    refine g_aload_n C (pc := 20) 0 dX2_moveOldestBehind_20 rfl rfl ?_
    refine g_get C (pc := 21) lfX2_11 0 rfl rfl dX2_moveOldestBehind_21 ?_
    refine g_iload_n C (pc := 24) 2 dX2_moveOldestBehind_24 rfl rfl ?_
    refine g_iconst C (pc := 25) dX2_moveOldestBehind_25 ck_iconst_1 ?_
    refine g_iadd C (pc := 26) dX2_moveOldestBehind_26 ?_
    refine g_aald C (pc := 27) 1 rfl hin1 dX2_moveOldestBehind_27 ?_
    rw [hx, hf (i + 1) (by omega), rotF, if_neg (by omega), hk (i + 1) (by omega)]
    show GW x 0 0 _ _ 28 [.ref (Q (i + 1) 0), .int (nI i), .ref qh1]
    obtain ⟨k, fs, hk0⟩ := pool_at (y := xy x) (Q := Q) (K := K) (A := wHist (xy x) qh qh1 h_n f) (L7_mem.mpr (show i + 1 < 7 by omega))
    refine g_aast C (pc := 28) (ws' := wHist (xy x) qh qh1 h_n (va_up f (ix (nI i)) (some (Q (i + 1) 0))) ++ pool (xy x) Q K L7) 1 k 2 rfl hk0 rfl rfl hin rfl dX2_moveOldestBehind_28 ?_
    refine g_iinc C (pc := 29) (v := nI i + 1) (lo' := [(2, .int (nI i + 1)), (0, .ref qh), (1, .ref (Q 0 0))]) 2 dX2_moveOldestBehind_29 rfl (congrArg (HAdd.hAdd _) ck_iinc_1) N rfl rfl ?_
    refine g_goto C (pc := 32) (tgt := 9) dX2_moveOldestBehind_32 (by decide) ?_
    refine g_lo [1, 2, 0] rfl ?_
    rw [nI_1]
    refine ih (i + 1) (by omega) _ (fun j hj => ?_)
    rw [hx0]
    by_cases hji : j = i
    · subst hji
      simp only [va_up, if_pos rfl, rotF, if_pos (show j < j + 1 by omega)]
      exact (hk (j + 1) (by omega)).symm
    · simp only [va_up, if_neg hji]
      rw [hf j hj, rotF, rotF]
      by_cases h1 : j < i
      · rw [if_pos h1, if_pos (by omega)]
      · rw [if_neg h1, if_neg (by omega)]
set_option maxRecDepth 100000 in
set_option maxHeartbeats 4000000 in
theorem cX2_mob_k (l : Launch) (D : va_G) (yy : Nat → ClassId) (qh qh1 : Nat) (h_n : Int32) (kf : Nat → Option Nat) (Q : Nat → Nat → Nat) (K : Nat → MS) (hk : ∀ i, i < 7 → kf i = some (Q i 0)) : GMet l yX2_moveOldestBehind cX2_moveOldestBehind 3 none rmX2_mob 0 0 D yy [.ref qh] (wHist yy qh qh1 h_n kf ++ pool yy Q K L7) (fun v w => v = none ∧ ∃ kf' : Nat → Option Nat, (∀ i, i < 7 → kf' i = some (rotQ Q i 0)) ∧ w = wHist yy qh qh1 h_n kf' ++ pool yy Q K L7) :=
  g_met (by decide +kernel) (Nat.le_of_ble_eq_true rfl) (fun x hl hD hy hn C E _ => by
    subst hD; subst hy
    refine g_aload_n C (pc := 0) 0 dX2_moveOldestBehind_0 rfl rfl ?_
    refine g_get C (pc := 1) lfX2_11 0 rfl rfl dX2_moveOldestBehind_1 ?_
    refine g_iconst C (pc := 4) dX2_moveOldestBehind_4 ck_iconst_0 ?_
    refine g_aald C (pc := 5) 1 rfl (by decide) dX2_moveOldestBehind_5 ?_
    rw [show ix 0 = 0 by decide, hk 0 (by decide)]
    show GW x 0 0 _ _ 6 [.ref (Q 0 0)]
    refine g_astore_n C (pc := 6) (lo' := [(1, .ref (Q 0 0)), (0, .ref qh)]) dX2_moveOldestBehind_6 rfl hn rfl rfl ?_
    refine g_iconst C (pc := 7) dX2_moveOldestBehind_7 ck_iconst_0 ?_
    refine g_istore_n C (pc := 8) (lo' := [(2, .int 0), (1, .ref (Q 0 0)), (0, .ref qh)]) dX2_moveOldestBehind_8 rfl hn rfl rfl ?_
    refine g_lo [2, 1, 0] rfl ?_
    exact bX2_mob x C hn qh qh1 h_n kf Q K hk E 6 0 rfl kf (fun j hj => by rw [rotF, if_neg (Nat.not_lt_zero _)]))
/-! confirm -/
def fX2_confirm (h_n : Int32) (K : Nat → MS) (p0 : Int32) : Option (Int32 × Int32 × (Nat → MS)) := if 0 ≤ p0 then if (6 : Int32) ≤ h_n then some (p0, h_n, rotK K) else some (p0, h_n + 1, K) else some (p0, h_n, K)
def rmX2_confirm : Room := { frames := 1, cells := 0, slots := 0, locals := 22 }
set_option maxRecDepth 100000 in
set_option maxHeartbeats 4000000 in
theorem cX2_confirm_k (l : Launch) (D : va_G) (yy : Nat → ClassId) (qh qh1 : Nat) (h_n : Int32) (kf : Nat → Option Nat) (Q : Nat → Nat → Nat) (K : Nat → MS) (p0 : Int32) (o : Int32 × Int32 × (Nat → MS)) (hk : ∀ i, i < 7 → kf i = some (Q i 0)) (hf : fX2_confirm h_n K p0 = some o) : GMet l yX2_confirm cX2_confirm 2 (some .int) rmX2_confirm 0 0 D yy [.ref qh, .int p0] (wHist yy qh qh1 h_n kf ++ pool yy Q K L7) (fun v w => v = some (.int o.1) ∧ ∃ (Q' : Nat → Nat → Nat) (kf' : Nat → Option Nat), (∀ i, i < 7 → kf' i = some (Q' i 0)) ∧ w.Perm (wHist yy qh qh1 o.2.1 kf' ++ pool yy Q' o.2.2 L7)) :=
  g_met (by decide +kernel) (Nat.le_of_ble_eq_true rfl) (fun x hl hD hy hn C E _ => by
    subst hD; subst hy
    unfold fX2_confirm at hf
    refine g_iload_n C (pc := 0) 1 dX2_confirm_0 rfl rfl ?_
    refine g_if_ge C (pc := 1) 6 dX2_confirm_1 (by decide) (fun c_1 => ?_) (fun c_1 => ?_)
    · replace hf := (k_if hf).1 c_1
      refine g_aload_n C (pc := 6) 0 dX2_confirm_6 rfl rfl ?_
      refine g_get C (pc := 7) lfX2_18 0 rfl rfl dX2_confirm_7 ?_
      refine g_bipush C (pc := 10) dX2_confirm_10 ck_bipush_6 ?_
      refine g_icmp_ge C (pc := 12) 28 dX2_confirm_12 (by decide) (fun c_12 => ?_) (fun c_12 => ?_)
      · replace hf := (k_if hf).1 c_12
        cases hf
        refine g_aload_n C (pc := 28) 0 dX2_confirm_28 rfl rfl ?_
        refine g_perm (ws' := (wHist (xy x) qh qh1 h_n kf ++ pool (xy x) Q K L7) ++ []) (by rw [List.append_nil]) ?_
        refine g_callF C (pc := 29) (As := []) (rest := []) (b := qh) 0 lkX2_moveOldestBehind lVX2_26 (cX2_mob_k (xl x) (xD x) (xy x) qh qh1 h_n kf Q K hk) rfl ⟨⟨Nat.le_of_ble_eq_true rfl, Nat.le_of_ble_eq_true rfl⟩, ⟨rfl, rfl⟩, ⟨Nat.le_of_ble_eq_true rfl, Nat.le_of_ble_eq_true rfl⟩⟩ rfl rfl rfl (Nat.le_of_ble_eq_true rfl) dX2_confirm_29 (fun v w hw => ?_)
        obtain ⟨rfl, kf', hk', rfl⟩ := hw
        refine g_perm (ws' := wHist (xy x) qh qh1 h_n kf' ++ pool (xy x) Q K L7) (by rw [List.append_nil]) ?_
        show GW x 0 0 _ _ 32 []
        refine g_iload_n C (pc := 32) 1 dX2_confirm_32 rfl rfl ?_
        exact g_iret C E (pc := 33) dX2_confirm_33 ⟨rfl, rotQ Q, kf', hk', List.Perm.append_left _ rot_perm⟩
      · replace hf := (k_if hf).2 c_12
        cases hf
        refine g_aload_n C (pc := 15) 0 dX2_confirm_15 rfl rfl ?_
        refine g_dup C (pc := 16) dX2_confirm_16 rfl ?_
        refine g_get C (pc := 17) lfX2_18 0 rfl rfl dX2_confirm_17 ?_
        refine g_iconst C (pc := 20) dX2_confirm_20 ck_iconst_1 ?_
        refine g_iadd C (pc := 21) dX2_confirm_21 ?_
        refine g_put C (pc := 22) (ws' := wHist (xy x) qh qh1 (h_n + 1) kf ++ pool (xy x) Q K L7) lpX2_18 0 rfl rfl rfl rfl (Nat.le_of_ble_eq_true rfl) rfl dX2_confirm_22 ?_
        refine g_goto C (pc := 25) (tgt := 32) dX2_confirm_25 (by decide) ?_
        refine g_iload_n C (pc := 32) 1 dX2_confirm_32 rfl rfl ?_
        exact g_iret C E (pc := 33) dX2_confirm_33 ⟨rfl, Q, kf, hk, List.Perm.refl _⟩
    · replace hf := (k_if hf).2 c_1
      cases hf
      refine g_iload_n C (pc := 4) 1 dX2_confirm_4 rfl rfl ?_
      exact g_iret C E (pc := 5) dX2_confirm_5 ⟨rfl, Q, kf, hk, List.Perm.refl _⟩)
