/-! THE CLAIM OUT OF ONE WALK OF THE LAW'S BODY. Your part is whole_start (and what it stands on); all else here is the same for every law, but numbers. -/
def R_law : String := "TruthKernelLaw"
def lw_P (b : Addr) (xs : List Int32) (args : Array Value) (s : State) : Prop := args = #[.ref b] ∧ s.IntsAt b xs ∧ xs.length ≤ 260 ∧ (Jvm.Cond.and given_1 narrow_1).before args s = true
def lw_Q (_ : Array Value) (s : State) (o : Outcome) (t : State) : Prop := o = .returned (some (.int 1)) ∧ Framed s o t [] 600000 7302249
def lw_Z (below : List Frame) (a : Array Value) (s : State) : State → Prop := fun t => ∃ o, t.status = .running ∧ Ended t below o ∧ lw_Q a s o t
/-- the law's own end, with 1 on the stack, nothing written that was there before, its room as the claim has it -/
theorem lw_ret {p : Program} {l : Launch} {e : Env} {s : State} {m : MethodId} {below : List Frame} {meth : Method} {c : Code} {b : Nat} (hx : p.tables.exec = Jvm.exec) (hb : c.code = code) (hr : meth.sig.returnType = ret) (hlocks : meth.locks = false) {pc : Nat} {H : Heap} {ls : Array Slot} (hdg : decode code pc = .ok (.ireturn, 1)) : W p l e room_1 s m #[Value.ref b] below meth c H [] 600000 7302249 (lw_Z below #[Value.ref b] s) (F0 m pc ls [.int 1]) := by
  intro T hT X
  obtain ⟨fs, hret, hrun, hended, hW, hframe⟩ := X.leave (v := some (.int 1)) (hlocks := hlocks) (fun h => by rw [hr] at h; cases h)
  have hmeth' : T.vm.method? m = some meth := X.method'
  refine ⟨T.setFrames fs, ?_, .returned (some (.int 1)), hrun, hended, rfl, ⟨_, rfl⟩, hW, hframe⟩
  jvm_step X.here [X.here.top, hx, hb, hdg, hmeth', hr, ret, narrow_b1]
  (try refine ⟨rfl, ?_⟩); (try refine ⟨rfl, ?_⟩)
  first | (intro acts; rw [hret _ acts rfl rfl rfl]) | rw [hret _ _ rfl rfl rfl]
  exact Steps.refl _
/-- what holds at the law's entry: the machine, the code, the tables' words (any of lw_tbl by 'hts w (by decide +kernel)'), the script of L ints xs at the cell b, what the Statement gives of the start (any of its parts by flat_of_before) -/
def lw_At (p : Program) (s : State) (m : MethodId) (meth : Method) (c : Code) (b L : Nat) (xs : Nat → Int32) : Prop :=
  p.tables.exec = Jvm.exec ∧ c.code = code ∧ meth.sig.returnType = ret ∧ c.maxLocals = 10 ∧ s.vm.findClass R_law = some m.cls ∧ (∀ w ∈ lw_tbl, w.before #[Value.ref b] s = true) ∧ va_X b L xs s s.heap ∧ b < s.heap.size ∧ meth.locks = false ∧ (Jvm.Cond.and given_1 narrow_1).before #[Value.ref b] s = true
theorem WLb {w : Cond} {s : State} {b : Nat} (hts : ∀ w ∈ lw_tbl, w.before #[Value.ref b] s = true) (h : w ∈ WL) : w.before #[Value.ref b] s = true := hts w (WL_tbl h)
/-- the class of an array of numbers -/
theorem arr_known {s : State} {args : Array Value} {ty : FieldType} (hp : ∀ Cn, ty ≠ .object Cn) (h : (Cond.arrayClass ty).before args s = true) : ∃ cA : ClassId, ArrOfT s cA ty ∧ va_RA s cA ty := by
  obtain ⟨cA, kA, comp, h1, h2, h3⟩ := Cond.arrayClass_spec h
  refine ⟨cA, fun n z => ⟨fun k h => (by cases h), kA, h2, comp, h3⟩, ?_⟩
  cases ty with
  | object Cn => exact absurd rfl (hp Cn)
  | _ => exact h1
theorem arr_knownO {s : State} {Cn : String} (h : va_AO Cn s) : ∃ cA : ClassId, ArrOfT s cA (.object Cn) ∧ va_RA s cA (.object Cn) := by
  obtain ⟨comp, c, k, h1, h2, h3, h4, h5⟩ := Cond.arrayOver_spec h
  exact ⟨c, fun n z => ⟨fun k h => (by cases h), k, h3, comp, h4⟩, k, comp, h3, h4, h1, h5⟩
theorem mem_nest1 : Cond.methodLinkNest RX7 23 yX10_isState HOST ∈ lw_tbl := List.mem_of_getElem? (i := 165) (by decide +kernel)
theorem mem_nest2 : Cond.methodLinkNest RX3 138 yX10_asNumber HOST ∈ lw_tbl := List.mem_of_getElem? (i := 519) (by decide +kernel)
theorem mem_over : Cond.arrayOver (.object "TruthKernel$Machine") ∈ lw_tbl := List.mem_of_getElem? (i := 211) (by decide +kernel)
theorem law_known {s : State} {b : Nat} (hts : ∀ w ∈ lw_tbl, w.before #[Value.ref b] s = true) : ∃ (D : va_G) (yy : Nat → ClassId), gK D yy s := by
  have K : ∀ {Cn : String} {T : u_T} {N : Nat}, (∀ w ∈ u_ws Cn T N, w ∈ WL) → Cond.instantiable Cn N ∈ WL → ∃ (cC : ClassId) (iS : Nat → Nat), u_Kn s Cn T N cC iS := fun hu hi => u_known hts (fun w h => WL_tbl (hu w h)) (WLb hts hi)
  obtain ⟨c0, i0, k0⟩ := K uws_X0 lWX3_18.2.2.2.2.1
  obtain ⟨c2, i2, k2⟩ := K uws_X2 lWX10_16.2.2.2.2.1
  obtain ⟨c3, i3, k3⟩ := K uws_X3 lWX10_7.2.2.2.2.1
  obtain ⟨c4, i4, k4⟩ := K uws_X4 lWX5_9.2.2.2.2.1
  obtain ⟨c5, i5, k5⟩ := K uws_X5 lWX10_38.2.2.2.2.1
  obtain ⟨c6, i6, k6⟩ := K uws_X6 lWX3_25.2.2.2.2.1
  obtain ⟨c7, i7, k7⟩ := K uws_X7 lWX9_9.2.2.2.2.1
  obtain ⟨c8, i8, k8⟩ := K uws_X8 lWX3_9.2.2.2.2.1
  obtain ⟨c9, i9, k9⟩ := K uws_X9 lWX10_31.2.2.2.2.1
  obtain ⟨c10, i10, k10⟩ := K uws_X10 lWL_14.2.2.2.2.1
  obtain ⟨a0, q0⟩ := arr_known (ty := .int) (fun _ h => by cases h) (WLb hts lT_int)
  obtain ⟨a1, q1⟩ := arr_known (ty := .long) (fun _ h => by cases h) (WLb hts lT_long)
  obtain ⟨a2, q2⟩ := arr_known (ty := .boolean) (fun _ h => by cases h) (WLb hts lT_boolean)
  obtain ⟨a3, q3⟩ := arr_known (ty := .char) (fun _ h => by cases h) (WLb hts lT_char)
  have hO : va_AO "TruthKernel$Machine" s := va_AO.of (hts _ mem_over)
  obtain ⟨a4, q4⟩ := arr_knownO hO
  refine ⟨(fun k => match k with | 0 => c0 | 1 => c2 | 2 => c3 | 3 => c4 | 4 => c5 | 5 => c6 | 6 => c7 | 7 => c8 | 8 => c9 | _ => c10, fun k => match k with | 0 => i0 | 1 => i2 | 2 => i3 | 3 => i4 | 4 => i5 | 5 => i6 | 6 => i7 | 7 => i8 | 8 => i9 | _ => i10), (fun k => match k with | 0 => a0 | 1 => a1 | 2 => a2 | 3 => a3 | _ => a4), ⟨fun k q hq => ?_, fun k q hq => ?_⟩, ?_, ?_, hO⟩
  · match k, hq with
    | 0, hq => cases hq; exact k0
    | 1, hq => cases hq; exact k2
    | 2, hq => cases hq; exact k3
    | 3, hq => cases hq; exact k4
    | 4, hq => cases hq; exact k5
    | 5, hq => cases hq; exact k6
    | 6, hq => cases hq; exact k7
    | 7, hq => cases hq; exact k8
    | 8, hq => cases hq; exact k9
    | 9, hq => cases hq; exact k10
    | k + 10, hq => simp [vwCl] at hq
  · match k, hq with
    | 0, hq => cases hq; exact q0
    | 1, hq => cases hq; exact q1
    | 2, hq => cases hq; exact q2
    | 3, hq => cases hq; exact q3
    | 4, hq => cases hq; exact q4
    | k + 5, hq => simp [gTy] at hq
  · exact va_Nw.of rfl (hts _ mem_nest1)
  · exact va_Nw.of rfl (hts _ mem_nest2)
set_option maxRecDepth 100000 in
set_option maxHeartbeats 4000000 in
theorem whole_start {p : Program} {e : Env} {s : State} {m : MethodId} {below : List Frame} {meth : Method} {c : Code} (l : Launch) (hflags : l.flags = flags0) {b L : Nat} {sv : Nat → Int32} (hL : L ≤ 260) (C0' : lw_At p s m meth c b L sv) : W p l e room_1 s m #[Value.ref b] below meth c s.heap [] 0 0 (lw_Z below #[Value.ref b] s) (entryFrame m ([Value.ref b] : List Value).toArray 10) := by
  obtain ⟨hx, hb, hr, hml, hown, hts, hX, hbl, hlocks, hgv⟩ := C0'
  obtain ⟨D, yy, hK⟩ := law_known hts
  have key : ∀ x : GX, x = (p, l, e, room_1, s, m, #[Value.ref b], below, meth, c, D, yy, (fun q : Nat => s.heap.size ≤ q), 10, lw_Z below #[Value.ref b] s) → GW x 0 0 [] [(0, .ref b)] 0 [] := by
    intro x hxe
    have C : GC x cL_law RL room_1 := by subst hxe; exact ⟨hx, hb, hml, hown, fun w h => hts w (WL_tbl h), hK, fun q h => h, hlocks, rfl⟩
    have N : xn x = 10 := by subst hxe; rfl
    have hX' : va_X b L sv (xs x) (xs x).heap := by subst hxe; exact hX
    have hbl' : b < (xs x).heap.size := by subst hxe; exact hbl
    have hbA : ¬ xA x b := by subst hxe; exact Nat.not_le.mpr hbl
    have hend : ∀ (ws : va_W) (lo : List (Nat × Value)) (pc : Nat), decode cL_law pc = .ok (.ireturn, 1) → GW x 6359 305996 ws lo pc [.int 1] := fun ws lo pc hdg => by
      subst hxe
      intro H locs ls hP hD hS hl
      refine va_forget (fun q hq => hS.2.2 q hq) ?_
      refine W.widen (k := 600000) (n := 7302249) (Nat.le_of_ble_eq_true rfl) (Nat.le_of_ble_eq_true rfl) ?_
      exact lw_ret hx hb hr hlocks hdg
    exact eL_law x C N b L sv 1 hX' hbl' hbA hend (law_true hL sv)
  have g := key _ rfl s.heap [] _ (fun k q h => by simp at h) ⟨fun i j p q h => by simp at h, fun k q h => by simp at h⟩ va_S.rf (lv_entry ([.ref b]) (n := 10) (Nat.le_of_ble_eq_true rfl))
  rw [lg_entry_eq]
  exact g
