theorem WLb {w : Cond} {s : State} {b : Nat} (hts : ∀ w ∈ lw_tbl, w.before #[Value.ref b] s = true) (h : w ∈ WL) : w.before #[Value.ref b] s = true := hts w (WL_tbl h)
/-- the class of an array of numbers -/
theorem arr_known {s : State} {args : Array Value} {ty : FieldType} (hp : ∀ Cn, ty ≠ .object Cn) (h : (Cond.arrayClass ty).before args s = true) : ∃ cA : ClassId, ArrOfT s cA ty ∧ va_RA s cA ty := by
  obtain ⟨cA, kA, comp, h1, h2, h3⟩ := Cond.arrayClass_spec h
  refine ⟨cA, fun n z => ⟨fun k h => (by cases h), kA, h2, comp, h3⟩, ?_⟩
  cases ty with
  | object Cn => exact absurd rfl (hp Cn)
  | _ => exact h1
theorem arr_knownO {s : State} {Cn : String} (h : va_AO Cn s) : ∃ cA : ClassId, ArrOfT s cA (.object Cn) ∧ va_RA s cA (.object Cn) := by
  obtain ⟨comp, c, k, h1, h2, h3, h4, h5⟩ := Cond.arrayOver_spec h
  exact ⟨c, fun n z => ⟨fun k h => (by cases h), k, h3, comp, h4⟩, k, comp, h3, h4, h1, h5⟩
theorem mem_nest1 : Cond.methodLinkNest RX7 23 yX10_isState HOST ∈ lw_tbl := List.mem_of_getElem? (i := 201) (by decide +kernel)
theorem mem_nest2 : Cond.methodLinkNest RX3 138 yX10_asNumber HOST ∈ lw_tbl := List.mem_of_getElem? (i := 555) (by decide +kernel)
theorem mem_over : Cond.arrayOver (.object "TruthKernel$Machine") ∈ lw_tbl := List.mem_of_getElem? (i := 247) (by decide +kernel)
theorem law_known {s : State} {b : Nat} (hts : ∀ w ∈ lw_tbl, w.before #[Value.ref b] s = true) : ∃ (D : va_G) (yy : Nat → ClassId), gK D yy s := by
  have K : ∀ {Cn : String} {T : u_T} {N : Nat}, (∀ w ∈ u_ws Cn T N, w ∈ WL) → Cond.instantiable Cn N ∈ WL → ∃ (cC : ClassId) (iS : Nat → Nat), u_Kn s Cn T N cC iS := fun hu hi => u_known hts (fun w h => WL_tbl (hu w h)) (WLb hts hi)
  obtain ⟨c0, i0, k0⟩ := K uws_X0 lWX3_18.2.2.2.2.1
  obtain ⟨c2, i2, k2⟩ := K uws_X2 lWX10_16.2.2.2.2.1
  obtain ⟨c3, i3, k3⟩ := K uws_X3 lWX10_7.2.2.2.2.1
  obtain ⟨c4, i4, k4⟩ := K uws_X4 lWX5_9.2.2.2.2.1
  obtain ⟨c5, i5, k5⟩ := K uws_X5 lWX10_38.2.2.2.2.1
  obtain ⟨c6, i6, k6⟩ := K uws_X6 lWX3_25.2.2.2.2.1
  obtain ⟨c7, i7, k7⟩ := K uws_X7 lWX9_9.2.2.2.2.1
  obtain ⟨c8, i8, k8⟩ := K uws_X8 lWX3_9.2.2.2.2.1
  obtain ⟨c9, i9, k9⟩ := K uws_X9 lWX10_31.2.2.2.2.1
  obtain ⟨c10, i10, k10⟩ := K uws_X10 lWL_7.2.2.2.2.1
  obtain ⟨c11, i11, k11⟩ := K uws_X11 lWL_10.2.2.2.2.1
  obtain ⟨a0, q0⟩ := arr_known (ty := .int) (fun _ h => by cases h) (WLb hts lT_int)
  obtain ⟨a1, q1⟩ := arr_known (ty := .long) (fun _ h => by cases h) (WLb hts lT_long)
  obtain ⟨a2, q2⟩ := arr_known (ty := .boolean) (fun _ h => by cases h) (WLb hts lT_boolean)
  obtain ⟨a3, q3⟩ := arr_known (ty := .char) (fun _ h => by cases h) (WLb hts lT_char)
  have hO : va_AO "TruthKernel$Machine" s := va_AO.of (hts _ mem_over)
  obtain ⟨a4, q4⟩ := arr_knownO hO
  refine ⟨(fun k => match k with | 0 => c0 | 1 => c2 | 2 => c3 | 3 => c4 | 4 => c5 | 5 => c6 | 6 => c7 | 7 => c8 | 8 => c9 | 9 => c10 | _ => c11, fun k => match k with | 0 => i0 | 1 => i2 | 2 => i3 | 3 => i4 | 4 => i5 | 5 => i6 | 6 => i7 | 7 => i8 | 8 => i9 | 9 => i10 | _ => i11), (fun k => match k with | 0 => a0 | 1 => a1 | 2 => a2 | 3 => a3 | _ => a4), ⟨fun k q hq => ?_, fun k q hq => ?_⟩, ?_, ?_, hO⟩
  · match k, hq with
    | 0, hq => cases hq; exact k0
    | 1, hq => cases hq; exact k2
    | 2, hq => cases hq; exact k3
    | 3, hq => cases hq; exact k4
    | 4, hq => cases hq; exact k5
    | 5, hq => cases hq; exact k6
    | 6, hq => cases hq; exact k7
    | 7, hq => cases hq; exact k8
    | 8, hq => cases hq; exact k9
    | 9, hq => cases hq; exact k10
    | 10, hq => cases hq; exact k11
    | k + 11, hq => simp [vwCl] at hq
  · match k, hq with
    | 0, hq => cases hq; exact q0
    | 1, hq => cases hq; exact q1
    | 2, hq => cases hq; exact q2
    | 3, hq => cases hq; exact q3
    | 4, hq => cases hq; exact q4
    | k + 5, hq => simp [gTy] at hq
  · exact va_Nw.of rfl (hts _ mem_nest1)
  · exact va_Nw.of rfl (hts _ mem_nest2)
abbrev newT (h : Nat) : Nat × va_E := wTk h .null .null .null .null .null .null .null
abbrev newR (h : Nat) : Nat × va_E := (h, .inr (10, [.null, .null, .int 0, .null, .null, .null, .int 0, .int 0, .null, .null, .null, .int 0, .int 0, .int 0, .int 0, .int 0, .int 0, .int 0, .int 0, .int 0, .int 0]))
/-- a new reference -/
def D0 (o : Nat → Int32) : MD := (fun _ => 0, fun i => match i with | 0 => o | _ => fun _ => 0)
set_option maxRecDepth 100000 in
set_option maxHeartbeats 4000000 in
theorem whole_start {p : Program} {e : Env} {s : State} {m : MethodId} {below : List Frame} {meth : Method} {c : Code} (l : Launch) (hflags : l.flags = flags0) {b L : Nat} {sv : Nat → Int32} (hL : L ≤ 3072) (C0' : lw_At p s m meth c b L sv) : W p l e room_1 s m #[Value.ref b] below meth c s.heap [] 0 0 (lw_Z below #[Value.ref b] s) (entryFrame m ([Value.ref b] : List Value).toArray 4) := by
  obtain ⟨hx, hb, hr, hml, hown, hts, hX, hbl, hlocks, hgv⟩ := C0'
  obtain ⟨D, yy, hK⟩ := law_known hts
  have key : ∀ x : GX, x = (p, l, e, room_1, s, m, #[Value.ref b], below, meth, c, D, yy, (fun q : Nat => s.heap.size ≤ q), 4, lw_Z below #[Value.ref b] s) → GW x 0 0 [] [(0, .ref b)] 0 [] := by
    intro x hxe
    have C : GC x cL_law RL room_1 := by subst hxe; exact ⟨hx, hb, hml, hown, fun w h => hts w (WL_tbl h), hK, fun q h => h, hlocks, rfl⟩
    have N : xn x = 4 := by subst hxe; rfl
    have hX' : va_X b L sv (xs x) (xs x).heap := by subst hxe; exact hX
    have hbl' : b < (xs x).heap.size := by subst hxe; exact hbl
    have hbA : ¬ xA x b := by subst hxe; exact Nat.not_le.mpr hbl
    have hend : ∀ (ws : va_W) (lo : List (Nat × Value)), GW x 196 22076 ws lo 912 [] := fun ws lo => by
      subst hxe
      intro H locs ls hP hD hS hl
      refine lv_iconst (v := 1) hx hb dL_law_912 ck_iconst_1 ?_
      refine va_forget (fun q hq => hS.2.2 q hq) ?_
      refine W.widen (k := 600000) (n := 7302250) (Nat.le_of_ble_eq_true rfl) (Nat.le_of_ble_eq_true rfl) ?_
      exact lw_ret hx hb hr hlocks dL_law_913
    obtain ⟨o, r, h0, h1, hI⟩ := S_new
    refine g_new C (pc := 0) lWL_7 [.null, .null, .null, .null, .null, .null, .null] (fun j hj => by rcases (show j = 0 ∨ j = 1 ∨ j = 2 ∨ j = 3 ∨ j = 4 ∨ j = 5 ∨ j = 6 by omega) with rfl | rfl | rfl | rfl | rfl | rfl | rfl <;> rfl) ⟨Nat.le_of_ble_eq_true rfl, Nat.le_of_ble_eq_true rfl⟩ dL_law_0 (fun qk => ?_)
    refine g_dup C (pc := 3) dL_law_3 rfl ?_
    refine g_callJ C (pc := 4) (b := qk) (As := []) (rest := [.ref qk]) (wr := []) (wc := [newT qk]) lkX10_init lIL_9 (cX10_init_k (xl x) (xD x) (xy x) qk o h0) rfl ⟨⟨Nat.le_of_ble_eq_true rfl, Nat.le_of_ble_eq_true rfl⟩, ⟨rfl, rfl⟩, ⟨Nat.le_of_ble_eq_true rfl, Nat.le_of_ble_eq_true rfl⟩⟩ rfl (Nat.le_of_ble_eq_true rfl) dL_law_4 rfl (fun zv zw hw => ?_)
    obtain ⟨rfl, a, kf, sf, Q, S, rfl, hk, hs, hw⟩ := hw
    refine g_perm (ws' := tkw (xy x) a kf sf Q S (C0 o)) hw ?_
    show GW x 187 8998 _ _ 7 [.ref a.1]
    refine g_astore_n C (pc := 7) (lo' := [(1, .ref a.1), (0, .ref b)]) dL_law_7 rfl N rfl rfl ?_
    refine g_new C (pc := 8) lWL_10 [.null, .null, .int 0, .null, .null, .null, .int 0, .int 0, .null, .null, .null, .int 0, .int 0, .int 0, .int 0, .int 0, .int 0, .int 0, .int 0, .int 0, .int 0] (fun j hj => by rcases (show j = 0 ∨ j = 1 ∨ j = 2 ∨ j = 3 ∨ j = 4 ∨ j = 5 ∨ j = 6 ∨ j = 7 ∨ j = 8 ∨ j = 9 ∨ j = 10 ∨ j = 11 ∨ j = 12 ∨ j = 13 ∨ j = 14 ∨ j = 15 ∨ j = 16 ∨ j = 17 ∨ j = 18 ∨ j = 19 ∨ j = 20 by omega) with rfl | rfl | rfl | rfl | rfl | rfl | rfl | rfl | rfl | rfl | rfl | rfl | rfl | rfl | rfl | rfl | rfl | rfl | rfl | rfl | rfl <;> rfl) ⟨Nat.le_of_ble_eq_true rfl, Nat.le_of_ble_eq_true rfl⟩ dL_law_8 (fun qt => ?_)
    refine g_dup C (pc := 11) dL_law_11 rfl ?_
    refine g_callJ C (pc := 12) (b := qt) (As := []) (rest := [.ref qt]) (wr := tkw (xy x) a kf sf Q S (C0 o)) (wc := [newR qt]) lkX11_init lIL_12 (cX11_init_k (xl x) (xD x) (xy x) qt r h1) rfl ⟨⟨Nat.le_of_ble_eq_true rfl, Nat.le_of_ble_eq_true rfl⟩, ⟨rfl, rfl⟩, ⟨Nat.le_of_ble_eq_true rfl, Nat.le_of_ble_eq_true rfl⟩⟩ rfl (Nat.le_of_ble_eq_true rfl) dL_law_12 rfl (fun zv zw hw => ?_)
    obtain ⟨rfl, a1, a2, a3, a4, a5, a6, a7, a8, rfl⟩ := hw
    show GW x 196 22076 (tkw (xy x) a kf sf Q S (C0 o) ++ mdw (xy x) (fun i => match i with | 0 => qt | 1 => a1 | 2 => a2 | 3 => a3 | 4 => a4 | 5 => a5 | 6 => a6 | 7 => a7 | _ => a8) (D0 r)) _ 15 [.ref qt]
    refine g_astore_n C (pc := 15) (lo' := [(2, .ref qt), (1, .ref a.1), (0, .ref b)]) dL_law_15 rfl N rfl rfl ?_
    refine g_iconst C (pc := 16) dL_law_16 ck_iconst_0 ?_
    refine g_istore_n C (pc := 17) (lo' := [(3, .int 0), (2, .ref qt), (1, .ref a.1), (0, .ref b)]) dL_law_17 rfl N rfl rfl ?_
    refine g_lo [3, 2, 1, 0] rfl ?_
    exact law_loop x C N b L sv hX' hbl' hbA hL hend a sf S _ hs (L + 1) 0 (by omega) (by omega) kf Q (C0 o) (D0 r) hk hI
  have g := key _ rfl s.heap [] _ (fun k q h => by simp at h) ⟨fun i j p q h => by simp at h, fun k q h => by simp at h⟩ va_S.rf (lv_entry ([.ref b]) (n := 4) (Nat.le_of_ble_eq_true rfl))
  rw [lg_entry_eq]
  exact g
