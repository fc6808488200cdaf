/-! ===== tools: steps of a pure text; tables; what the text's calls give ===== -/
theorem bs1 {α β : Type} {x : Option α} {k : α → Option β} {y : α} {o : β} (h : x = some y) (hk : k y = some o) : bd x k = some o := by rw [h]; exact hk
theorem if_t {α : Type} {c : Prop} [Decidable c] {a b : Option α} {o : α} (hc : c) (h : a = some o) : (if c then a else b) = some o := by rw [if_pos hc]; exact h
theorem if_f {α : Type} {c : Prop} [Decidable c] {a b : Option α} {o : α} (hc : ¬ c) (h : b = some o) : (if c then a else b) = some o := by rw [if_neg hc]; exact h
theorem gd1 {α : Type} {b : Bool} {k : Option α} {o : α} (hb : b = true) (h : k = some o) : gd b k = some o := by rw [hb, gd_tr]; exact h
theorem aq_v {α : Type} {x : Option α} {a v : α} (h : x = some a) (e : x = some v) : a = v := Option.some.inj (h.symm.trans e)
theorem lc_t {a v : Int64} (h : a = v) : lg_cmp a v = 0 := (lcmp_eq a v).mpr h
def tb (h s cs z r : List Int32) : RW := fun j => if j < 7 then h.getD j 0 else if j < 47 then s.getD (j - 7) 0 else if j < 247 then cs.getD (j - 47) 0 else if j < 759 then z.getD (j - 247) 0 else r.getD (j - 759) 0
/-- two rows agree where they are in use -/
def chkT (T t : RW) (ns nc n : Nat) : Bool := Nat.ble ns 8 && Nat.ble nc 40 && Nat.ble n 512 && decide (t 2 = nI ns) && decide (t 3 = nI nc) && decide (t 4 = nI n) && (List.range 7).all (fun j => decide (T j = t j)) && (List.range (5 * ns)).all (fun j => decide (T (7 + j) = t (7 + j))) && (List.range (5 * nc)).all (fun j => decide (T (47 + j) = t (47 + j))) && (List.range n).all (fun j => decide (T (247 + j) = t (247 + j))) && (List.range n).all (fun j => decide (j = 0) || decide (T (759 + j) = t (759 + j)))
theorem RM.used {B : Nat} {t T : RW} {M : MS} {ns nc n : Nat} (h : RM B t M) (hc : chkT T t ns nc n = true) : RM B T M := by
  obtain ⟨ns', nc', n', R, z, r, ⟨a1, a2, a3, a4, a5, a6⟩, ⟨b1, b2, b3, b4, b5⟩, ⟨c1, c2, c3, c4, c5, c6, c7⟩, d, e, f, g, hm⟩ := h
  simp only [chkT, Bool.and_eq_true, List.all_eq_true, List.mem_range, decide_eq_true_eq, Bool.or_eq_true] at hc
  obtain ⟨⟨⟨⟨⟨⟨⟨⟨⟨⟨h1, h2⟩, h3⟩, h4⟩, h5⟩, h6⟩, k1⟩, k2⟩, k3⟩, k4⟩, k5⟩ := hc
  have h1 := Nat.le_of_ble_eq_true h1
  have h2 := Nat.le_of_ble_eq_true h2
  have h3 := Nat.le_of_ble_eq_true h3
  have e1 : ns' = ns := nI_inj (by omega) (by omega) (by rw [← a4, ← c3, h4])
  have e2 : nc' = nc := nI_inj (by omega) (by omega) (by rw [← a5, ← c4, h5])
  have e3 : n' = n := nI_inj (by omega) (by omega) (by rw [← a6, ← c5, h6])
  subst e1; subst e2; subst e3
  refine ⟨ns', nc', n', R, z, r, ⟨a1, a2, a3, a4, a5, a6⟩, ⟨b1, b2, b3, b4, b5⟩, ⟨?_, ?_, ?_, ?_, ?_, ?_, ?_⟩, fun i hi => ?_, fun c hcc => ?_, fun j hj => ?_, g, hm⟩
  · rw [k1 0 (by decide), c1]
  · rw [k1 1 (by decide), c2]
  · rw [k1 2 (by decide), c3]
  · rw [k1 3 (by decide), c4]
  · rw [k1 4 (by decide), c5]
  · rw [k1 5 (by decide), c6]
  · rw [k1 6 (by decide), c7]
  · obtain ⟨⟨q0, q1, q2, q3, q4⟩, q5, q6⟩ := d i hi
    have v : ∀ j, j < 5 → T (7 + 5 * i + j) = t (7 + 5 * i + j) := fun j hj => by
      have := k2 (5 * i + j) (by omega)
      rw [← Nat.add_assoc] at this
      exact this
    have v0 := v 0 (by decide)
    rw [Nat.add_zero] at v0
    exact ⟨⟨by rw [v0, q0], by rw [v 1 (by decide), q1], by rw [v 2 (by decide), q2], by rw [v 3 (by decide), q3], by rw [v 4 (by decide), q4]⟩, q5, q6⟩
  · obtain ⟨⟨q0, q1, q2, q3, q4⟩, q5⟩ := e c hcc
    have v : ∀ j, j < 5 → T (47 + 5 * c + j) = t (47 + 5 * c + j) := fun j hj => by
      have := k3 (5 * c + j) (by omega)
      rw [← Nat.add_assoc] at this
      exact this
    have v0 := v 0 (by decide)
    rw [Nat.add_zero] at v0
    exact ⟨⟨by rw [v0, q0], by rw [v 1 (by decide), q1], by rw [v 2 (by decide), q2], by rw [v 3 (by decide), q3], by rw [v 4 (by decide), q4]⟩, q5⟩
  · obtain ⟨q0, q1, q2, q3, q4⟩ := f j hj
    refine ⟨q0, q1, q2, by rw [k4 j hj, q3], fun hj1 => ?_⟩
    rcases k5 j hj with q | q
    · omega
    · rw [q, q4 hj1]
/-- whether a reference's recording call answers v and comes to the table T -/
def chkO {α : Type} (F : Option (Int32 × Int32 × RW × α)) (v : Int32) (T : RW) (ns nc n : Nat) : Bool := match F with
  | none => false
  | some r => decide (r.1 = v) && chkT T r.2.2.1 ns nc n
/-- whether it answers v -/
def chkV {α : Type} (F : Option (Int32 × α)) (v : Int32) : Bool := match F with
  | none => false
  | some r => decide (r.1 = v)
theorem ro_ok {B B' ns nc n : Nat} {A : AS} {t' T : RW} {o : Int32 × CS} {v : Int32} {α : Type} {z : α} {F : Option (Int32 × Int32 × RW × α)} (e : F = some (o.1, 0, t', z)) (ck : chkO F v T ns nc n = true) (hv : 0 ≤ v) (r : RO B B' A t' o) : o.1 = v ∧ IC B' (T, push A.2.1 A.1, A.2.2) o.2 := by
  rw [e] at ck
  simp only [chkO, Bool.and_eq_true, decide_eq_true_eq] at ck
  rcases r with ⟨q1, -, -⟩ | ⟨q1, q2, q3⟩
  · rw [ck.1] at q1
    rw [lt_toInt] at q1; rw [le_toInt] at hv; omega
  · exact ⟨ck.1, q2.used ck.2, q3⟩
theorem ro_no {B B' : Nat} {A : AS} {t' : RW} {o : Int32 × CS} {v : Int32} {α : Type} {z : α} {F : Option (Int32 × Int32 × RW × α)} (e : F = some (o.1, 0, t', z)) (ck : chkV F v = true) (hv : v < 0) (r : RO B B' A t' o) : o.1 = v ∧ IC B A o.2 := by
  rw [e] at ck
  simp only [chkV, decide_eq_true_eq] at ck
  rcases r with ⟨q1, q2, q3⟩ | ⟨q1, -⟩
  · exact ⟨ck, q3⟩
  · rw [ck] at q1
    rw [lt_toInt] at hv; rw [le_toInt] at q1; omega
theorem chkV_of {α : Type} {F : Option (Int32 × α)} {v : Int32} {r : α} (h : F = some (v, r)) : chkV F v = true := by rw [h]; exact decide_eq_true rfl
/-! a new object -/
def T0 : RW := tb [0, 0, 0, 0, 1, 0, 0] [] [] [0] []
def A0 : AS := (T0, [], fun _ => none, [])
theorem new_IC : ∃ c, newC = some c ∧ IC 0 A0 c := by
  obtain ⟨o1, w1, b1, -, -⟩ := beginAt_eq (fun _ => 0) (fun _ => 0) (s := 0) (by decide)
  obtain ⟨t', f', s', m', r', o', w', g1, g2, g3, g4⟩ := begin_RM (B := 0) (t := fun _ => 0) (s := 0) (ns := 0) (nc := 0) (w := 0) (s_g := fun _ => 0) (s_h := fun _ => 0) (s_x := fun _ => 0) (s_y := fun _ => 0) (s_k := fun _ => 0) (c_c := fun _ => 0) (c_f := fun _ => 0) (c_s := fun _ => 0) (c_m := fun _ => 0) (c_r := fun _ => 0) (e_o := fun _ => 0) (we := fun _ => 0) (by decide) (Or.inl rfl) (by decide) (by decide) rfl rfl rfl rfl (fun i hi => absurd hi (Nat.not_lt_zero _)) (fun c hc => absurd hc (Nat.not_lt_zero _))
  have hb : fX3_beginAnew (nI 0) (nI 0) (fun _ => 0) (fun _ => 0) (fun _ => 0) (fun _ => 0) (fun _ => 0) (fun _ => 0) (fun _ => 0) = some (0, 0, (fun _ => 0), (fun _ => 0), (fun _ => 0), (fun _ => 0), 1, o1, w1) := by
    unfold fX3_beginAnew
    have k : iter (gX3_beginAnew_23 (nI 0) (nI 0) (fun _ => 0) (1, o1, w1)) FU ((0 : Int32), (fun _ => (0 : Int32)), (fun _ => (0 : Int32)), (fun _ => (0 : Int32)), (fun _ => (0 : Int32))) = some ((0 : Int32), (fun _ => (0 : Int32)), (fun _ => (0 : Int32)), (fun _ => (0 : Int32)), (fun _ => (0 : Int32))) := iter_e (by
      unfold gX3_beginAnew_23
      dsimp only
      rw [if_pos (show nI 0 ≤ (0 : Int32) by decide)]) (by decide)
    rw [b1, bd_some, k, bd_some]
  rw [hb] at g2
  have g2 := Option.some.inj g2
  simp only [Prod.mk.injEq] at g2
  obtain ⟨-, -, rfl, rfl, rfl, rfl, -, rfl, rfl⟩ := g2
  have hT : (match fX11_begins (fun _ => 0) with | none => false | some t => chkT T0 t 0 0 1) = true := by decide +kernel
  rw [g1] at hT
  unfold newC
  rw [show fX6_beginAt (fun _ => 0) (fun _ => 0) 0 = some (1, o1, w1) from b1, bd_some]
  exact ⟨_, rfl, g4.used hT, ⟨Nat.zero_le _, rfl, fun i t hi => by simp [A0] at hi⟩, fun q _ => ⟨fun _ => rfl, fun u hu => by cases hu⟩, 0, Nat.zero_le _, rfl, rfl, fun j hj => absurd hj (Nat.not_lt_zero _)⟩
/-! the text -/
theorem C_put {B : Nat} {A : AS} {c : CS} (h : IC B A c) (p0 : Int64) : ∃ (o : Int32 × CS) (tl : Int32) (tp : Nat → Int32), oC_put c p0 = some o ∧ fX11_put (pad A.2.2.2) (nI A.2.2.2.length) p0 = some (o.1, tl, tp) ∧ ∀ pd' : List Int32, tl = nI pd'.length → pd'.length ≤ 80 → (∀ j, j < pd'.length → tp j = pad pd' j) → IC B (A.1, A.2.1, A.2.2.1, pd') o.2 := by
  obtain ⟨hM, hH, hS, hP⟩ := h
  obtain ⟨ans, pn, ps, tl, tp, e1, e2, e3⟩ := op_put hP p0
  unfold oC_put
  rw [e1, bd_some]
  refine ⟨_, tl, tp, rfl, e2, fun pd' h1 h2 h3 => ⟨hM, hH, hS, ?_⟩⟩
  obtain ⟨l, k1, k2, k3, k4⟩ := e3
  have el : l = pd'.length := nI_inj (by omega) (by omega) (by rw [← k3, h1])
  exact ⟨l, k1, k2, by rw [el], fun j hj => (k4 j hj).trans (h3 j (by omega))⟩
def chkP (F : Option (Int32 × Int32 × (Nat → Int32))) (v : Int32) (pd : List Int32) : Bool := match F with
  | none => false
  | some r => decide (r.1 = v) && decide (r.2.1 = nI pd.length) && Nat.ble pd.length 80 && (List.range pd.length).all (fun j => decide (r.2.2 j = pad pd j))
theorem C_put_ok {B : Nat} {A : AS} {c : CS} (h : IC B A c) {p0 : Int64} {v : Int32} {pd' : List Int32} (ck : chkP (fX11_put (pad A.2.2.2) (nI A.2.2.2.length) p0) v pd' = true) : ∃ o : Int32 × CS, oC_put c p0 = some o ∧ o.1 = v ∧ IC B (A.1, A.2.1, A.2.2.1, pd') o.2 := by
  obtain ⟨o, tl, tp, e1, e2, e3⟩ := C_put h p0
  rw [e2] at ck
  simp only [chkP, Bool.and_eq_true, List.all_eq_true, List.mem_range, decide_eq_true_eq] at ck
  obtain ⟨⟨⟨k1, k2⟩, k3⟩, k4⟩ := ck
  exact ⟨o, e1, k1, e3 pd' k2 (Nat.le_of_ble_eq_true k3) k4⟩
theorem C_put_bad {B : Nat} {A : AS} {c : CS} (h : IC B A c) {p0 : Int64} (hp : fX4_countSigns p0 = some 0) : ∃ o : Int32 × CS, oC_put c p0 = some o ∧ o.1 = -2 ∧ IC B A o.2 := by
  obtain ⟨hM, hH, hS, hP⟩ := h
  unfold oC_put fX10_put
  rw [hp, bd_some, if_pos (show (0 : Int32) = 0 from rfl), bd_some]
  exact ⟨_, rfl, rfl, hM, hH, hS, hP⟩
theorem C_wipe {B : Nat} {A : AS} {c : CS} (h : IC B A c) : ∃ o : Int32 × CS, oC_wipe c = some o ∧ o.1 = nI A.2.2.2.length ∧ IC B (A.1, A.2.1, A.2.2.1, []) o.2 := by
  obtain ⟨hM, hH, hS, hP⟩ := h
  have hpl : nI A.2.2.2.length = c.2.2.2.2.2.1 := by
    obtain ⟨l, -, h2, h3, -⟩ := hP
    rw [h2, h3]
  unfold oC_wipe fX10_wipe
  rw [bd_some]
  exact ⟨_, rfl, hpl.symm, hM, hH, hS, 0, Nat.zero_le _, rfl, rfl, fun j hj => absurd hj (Nat.not_lt_zero _)⟩
def aq_fault (pd : List Int32) : Option Int32 := bd (fX11_fault (pad pd) (nI pd.length) 0 0 0 0 0 0 0 0 0) fun o => some o.1
theorem C_fault {B : Nat} {A : AS} {c : CS} (h : IC B A c) : ∃ o : Int32 × CS, oC_fault c = some o ∧ aq_fault A.2.2.2 = some o.1 ∧ IC B A o.2 := by
  obtain ⟨hM, hH, hS, hP⟩ := h
  obtain ⟨ans, r, r', e1, e2⟩ := op_fault hP (c.2.2.2.2.2.2.2.1 1) (c.2.2.2.2.2.2.2.1 2) (c.2.2.2.2.2.2.2.1 3) (c.2.2.2.2.2.2.2.1 4) (c.2.2.2.2.2.2.2.1 5) (c.2.2.2.2.2.2.2.1 6) (c.2.2.2.2.2.2.2.1 7) (c.2.2.2.2.2.2.2.1 8) 0 0 0 0 0 0 0 0 0
  unfold oC_fault aq_fault
  rw [e1, bd_some, e2, bd_some]
  exact ⟨_, rfl, rfl, hM, hH, hS, hP⟩
theorem C_carry_bad {B : Nat} {A : AS} {c : CS} (h : IC B A c) {v : Int32} (hv : aq_fault A.2.2.2 = some v) (h6 : ¬ v = -6) : ∃ o : Int32 × CS, oC_carryOut c = some o ∧ o.1 = -3 ∧ IC B A o.2 := by
  obtain ⟨hM, hH, hS, hP⟩ := h
  obtain ⟨ans, r, r', e1, e2⟩ := op_fault hP (c.2.2.2.2.2.2.2.1 1) (c.2.2.2.2.2.2.2.1 2) (c.2.2.2.2.2.2.2.1 3) (c.2.2.2.2.2.2.2.1 4) (c.2.2.2.2.2.2.2.1 5) (c.2.2.2.2.2.2.2.1 6) (c.2.2.2.2.2.2.2.1 7) (c.2.2.2.2.2.2.2.1 8) 0 0 0 0 0 0 0 0 0
  unfold aq_fault at hv
  rw [e2, bd_some] at hv
  have ha : ans = v := Option.some.inj hv
  subst ha
  unfold fX10_fault at e1
  obtain ⟨y, ey, e1⟩ := k_bd e1
  cases e1
  unfold oC_carryOut fX10_carryOut
  rw [ey, bd_some, if_neg h6, bd_some]
  exact ⟨_, rfl, rfl, hM.sn, hH, hS, hP⟩
/-- what carryOut comes to, by the reference's row: its answer and the row -/
def cq (t : RW) (pd : List Int32) : Option (Int32 × Int32 × RW × Unit) := bd (fX11_fault (pad pd) (nI pd.length) 0 0 0 0 0 0 0 0 0) fun y => if y.1 = -6 then bd (iter (gX11_carryOut_30 (pad pd) (nI pd.length)) FU ((0 : Int32), (1 : Int32), (0 : Int32), (0 : Int32), y.2.2.1, y.2.2.2.1, y.2.2.2.2.1, y.2.2.2.2.2.1, y.2.2.2.2.2.2.1, y.2.2.2.2.2.2.2.1, y.2.2.2.2.2.2.2.2.1, y.2.2.2.2.2.2.2.2.2.1, y.2.2.2.2.2.2.2.2.2.2, t, zR, zR)) fun b => some (b.1, 0, b.2.2.2.2.2.2.2.2.2.2.2.2.2.1, ()) else none
theorem C_carry {B ns nc n : Nat} {A : AS} {c : CS} (hB : B + 100 < 4000000) (h : IC B A c) {v : Int32} {T : RW} (ck : chkO (cq A.1 A.2.2.2) v T ns nc n = true) : ∃ o : Int32 × CS, oC_carryOut c = some o ∧ o.1 = v ∧ IC (B + 100) (T, push A.2.1 A.1, A.2.2.1, []) o.2 := by
  obtain ⟨hM, hH, hS, hP⟩ := h
  obtain ⟨l, hl, k1, k2, hj⟩ := hP
  have X : TX l c.2.2.2.2.2.2.1 (pad A.2.2.2) := ⟨hl, hj⟩
  obtain ⟨ans, ⟨ra, o1, o2, o3, o4, o5, o6, o7, o8⟩, ⟨rb, n1, n2, n3, n4, n5, n6, n7, n8, n9⟩, e1, e2⟩ := fault_c X (c.2.2.2.2.2.2.2.1 1, c.2.2.2.2.2.2.2.1 2, c.2.2.2.2.2.2.2.1 3, c.2.2.2.2.2.2.2.1 4, c.2.2.2.2.2.2.2.1 5, c.2.2.2.2.2.2.2.1 6, c.2.2.2.2.2.2.2.1 7, c.2.2.2.2.2.2.2.1 8) (0, 0, 0, 0, 0, 0, 0, 0, 0)
  dsimp only at e1 e2
  unfold cq at ck
  rw [k2, e2, bd_some] at ck
  dsimp only at ck
  by_cases h6 : ans = -6
  · rw [if_pos h6] at ck
    obtain ⟨K1, q1, q2, q4⟩ := hprep hH hM.sn
    obtain ⟨b, b', g1, g2, i, ru, ro, sn, g, hh, x, y, k, cn, cc, cf, cs, cm, cr, en, eo, we, wl', at0, o, gg, at', r1, r2, r3, r4, r5, r6, r7, r8, r9, t', al', hi, rfl, rfl, hR⟩ := carry_loop (al := zR) (was := zR) (sv := 0) (wl := c.2.2.2.2.2.2.2.2.2 1) X hB hM.sn (o1, o2, o3, o4, o5, o6, o7, o8) (n1, n2, n3, n4, n5, n6, n7, n8, n9)
    dsimp only at g1 g2
    rw [g2, bd_some] at ck
    simp only [chkO, Bool.and_eq_true, decide_eq_true_eq] at ck
    obtain ⟨h', K2, q5, q6⟩ := q4 (nI i) (by rw [le_toInt, tI0, nI_toInt (by omega)]; omega)
    unfold oC_carryOut fX10_carryOut
    rw [k1, e1, bd_some]
    dsimp only
    rw [if_pos h6, q1, bd_some]
    unfold fX5_begin
    rw [bd_some, g1, bd_some]
    unfold jX10_carryOut_64
    dsimp only
    rw [q5, bd_some, bd_some]
    exact ⟨_, rfl, ck.1, (hR.up (by omega)).used ck.2, q6.up (by omega), hS.up (by omega), 0, Nat.zero_le _, rfl, rfl, fun j hj => absurd hj (Nat.not_lt_zero _)⟩
  · rw [if_neg h6] at ck
    simp [chkO] at ck
