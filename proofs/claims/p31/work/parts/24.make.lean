/-! ===== making ===== -/
def gLO (own : String) (idx : Nat) : Prop := Cond.methodLink own idx objectInit ∈ WL ∧ Cond.instanceMethod objectInit ∈ WL ∧ Cond.code objectInit ⟨#[0xb1]⟩ 1 none ∈ WL
def gLN (own : String) (idx ci : Nat) (Cn : String) (T : u_T) (N : Nat) (tf : Nat → FieldType) : Prop := (∀ w ∈ u_ws Cn T N, w ∈ WL) ∧ vwCl[ci]? = some (Cn, T, N) ∧ (∀ k, k < N → parseFieldDescriptor (T k).2.2.1 = some (tf k)) ∧ Cond.classLink own idx Cn ∈ WL ∧ Cond.instantiable Cn N ∈ WL ∧ Cond.initialized Cn ∈ WL
section GMK
variable {x : GX} {cc : ByteArray} {own : String} {rm rm2 : Room} {k n : Nat} {ws ws' wc wr E : va_W} {lo : List (Nat × Value)} {pc : Nat} {st rest As : List Value} {y : MethodName} {bytes : ByteArray} {maxL nn mc ms idx b : Nat} {P : Option Value → va_W → Prop}
theorem g_obj (C : GC x cc own rm) {a : Nat} (L : gLO own idx) (hfr : 1 ≤ rm.frames) (hlo : (st.map fun v => v.category).sum + 12 ≤ rm.locals) (hdg : decode cc pc = .ok (.invokespecial idx, 3)) (kk : GW x k n ws lo (pc + 3) st) : GW x k n ws lo pc (.ref a :: st) := fun H locs ls hP hD hS hl => by
  refine W.objInit C.1 C.2.1 C.2.2.2.1 (C.2.2.2.2.1 _ L.1) (C.2.2.2.2.1 _ L.2.1) (C.2.2.2.2.1 _ L.2.2) rfl (by rw [C.2.2.1]; exact hl.1) rfl hdg (by rw [C.2.2.2.2.2.2.2.2]; exact hfr) (by rw [C.2.2.2.2.2.2.2.2]; simpa [F0, JFrame.monitorRoom] using hlo) ?_
  exact W.eq (g2 := F0 (xm x) (pc + 3) ls st) rfl (kk H locs ls hP hD hS hl)
theorem g_new (C : GC x cc own rm) {ci : Nat} {Cn : String} {T : u_T} {N : Nat} {tf : Nat → FieldType} (L : gLN own idx ci Cn T N tf) (fs : List Value) (hfs : ∀ j, j < N → defaultValue (tf j) = vp_V fs j) (hcap : k + 1 ≤ rm.cells ∧ n + N ≤ rm.slots) (hdg : decode cc pc = .ok (.new idx, 3)) (kk : ∀ q : Nat, GW x (k + 1) (n + N) (ws ++ [(q, .inr (ci, fs))]) lo (pc + 3) (.ref q :: st)) : GW x k n ws lo pc st := fun H locs ls hP hD hS hl => by
  refine va_new C.1 C.2.1 C.2.2.2.2.1 L.1 tf L.2.2.1 C.2.2.2.1 (C.2.2.2.2.1 _ L.2.2.2.1) (C.2.2.2.2.1 _ L.2.2.2.2.1) (C.2.2.2.2.1 _ L.2.2.2.2.2) C.2.2.2.2.2.1.1 hP hD hS C.2.2.2.2.2.2.1 L.2.1 hfs (by rw [C.2.2.2.2.2.2.2.2]; exact hcap.1) (by rw [C.2.2.2.2.2.2.2.2]; exact hcap.2) hdg (fun q H1 hP1 hD1 hS1 => kk q H1 locs ls hP1 hD1 hS1 hl)
theorem gK_arr {D : va_G} {yy : Nat → ClassId} {U : State} (h : gK D yy U) {t : Nat} {cA cB : ClassId} {ty : FieldType} (ht : (gTy yy)[t]? = some (cA, ty)) (hn : U.vm.findClass ("[" ++ ty.toString) = some cB) : cB = cA := by
  have h1 := (h.1.2 t _ ht).2
  cases ty with
  | object Cn =>
    obtain ⟨kA, comp, q1, q2, q3, q4⟩ := h1
    exact Option.some.inj (hn.symm.trans q4)
  | _ => exact Option.some.inj (hn.symm.trans h1)
theorem g_newa (C : GC x cc own rm) {aty : ArrayType} {i : Int32} {cA : ClassId} {ty : FieldType} (t N : Nat) (a0 : vp_A) (hty : newarray.typeOf aty = ty) (ht : (gTy (xy x))[t]? = some (cA, ty)) (hw : Cond.arrayClass ty ∈ WL) (ha : ∀ cA : ClassId, vp_cell cA a0 = arrV cA N (fun _ => defaultValue ty)) (hn : ¬ i < 0) (hN : i.toNatClampNeg = N) (hbytes : N * componentBytes ty ≤ 536870912) (hcap : k + 1 ≤ rm.cells ∧ n + N ≤ rm.slots) (hdg : decode cc pc = .ok (.newarray aty, 2)) (kk : ∀ q : Nat, GW x (k + 1) (n + N) (ws ++ [(q, .inl (cA, a0))]) lo (pc + 2) (.ref q :: st)) : GW x k n ws lo pc (.int i :: st) := fun H locs ls hP hD hS hl => by
  refine va_newa C.1 C.2.1 (by rw [hty]; exact C.2.2.2.2.1 _ hw) hty C.2.2.2.2.2.1.1 hP hD hS C.2.2.2.2.2.2.1 ha hn hN hbytes (by rw [C.2.2.2.2.2.2.2.2]; exact hcap.1) (by rw [C.2.2.2.2.2.2.2.2]; exact hcap.2) hdg (fun q cB H1 hK1 hP1 hD1 hS1 => ?_)
  have h1 := (hK1.2 (gTy (xy x)).length (cB, ty) (by rw [List.getElem?_append_right (Nat.le_refl _), Nat.sub_self]; rfl)).2
  have e : cB = cA := gK_arr C.2.2.2.2.2.1 ht (by
    cases ty with
    | object Cn => obtain ⟨kA, comp, q1, q2, q3, q4⟩ := h1; exact q4
    | _ => exact h1)
  subst e
  exact kk q H1 locs ls hP1 hD1 hS1 hl
theorem g_newq (C : GC x cc own rm) {i : Int32} {Cn : String} {cA : ClassId} (t N : Nat) (ht : (gTy (xy x))[t]? = some (cA, .object Cn)) (hCn : Cn = "TruthKernel$Machine") (hcl : Cond.classLink own idx Cn ∈ WL) (hn : ¬ i < 0) (hN : i.toNatClampNeg = N) (hbytes : N * 4 ≤ 536870912) (hcap : k + 1 ≤ rm.cells ∧ n + N ≤ rm.slots) (hdg : decode cc pc = .ok (.anewarray idx, 3)) (kk : ∀ q : Nat, GW x (k + 1) (n + N) (ws ++ [(q, .inl (cA, N, .inr (.inr (.inr (.inr (fun _ => none))))))]) lo (pc + 3) (.ref q :: st)) : GW x k n ws lo pc (.int i :: st) := fun H locs ls hP hD hS hl => by
  refine va_newq C.1 C.2.1 C.2.2.2.1 (C.2.2.2.2.1 _ hcl) (by rw [hCn]; exact C.2.2.2.2.2.1.2.2.2) C.2.2.2.2.2.1.1 hP hD hS C.2.2.2.2.2.2.1 hn hN hbytes (by rw [C.2.2.2.2.2.2.2.2]; exact hcap.1) (by rw [C.2.2.2.2.2.2.2.2]; exact hcap.2) hdg (fun q cB H1 hK1 hP1 hD1 hS1 => ?_)
  have h1 := (hK1.2 (gTy (xy x)).length (cB, .object Cn) (by rw [List.getElem?_append_right (Nat.le_refl _), Nat.sub_self]; rfl)).2
  obtain ⟨kA, comp, q1, q2, q3, q4⟩ := h1
  have e : cB = cA := gK_arr C.2.2.2.2.2.1 ht q4
  subst e
  exact kk q H1 locs ls hP1 hD1 hS1 hl
/-- a constructor's call, over the last part of the world -/
theorem g_callJ (C : GC x cc own rm) (K : gLk y bytes maxL none nn) (L : gLI own idx y) (hM : GMet (xl x) y bytes maxL none rm2 mc ms (xD x) (xy x) (.ref b :: As) wc P) (hn : As.length = nn) (hR : gRm rm rm2 maxL mc ms k n) (hst : st = As.reverse ++ .ref b :: rest) (hcat : (rest.map fun v => v.category).sum ≤ 8) (hdg : decode cc pc = .ok (.invokespecial idx, 3)) (hE : wr ++ wc = E) (kk : ∀ v w, P v w → GW x (k + mc) (n + ms) (wr ++ w) lo (pc + 3) (v.toList ++ rest)) : GW x k n E lo pc st := by
  subst hE
  exact g_perm List.perm_append_comm (g_callI C K L hM hn hR hst hcat hdg (fun v w hw => g_perm List.perm_append_comm (kk v w hw)))
end GMK
theorem lWL_14 : gLN RL 14 9 RX10 TX10 7 tyX10 := ⟨uws_X10, rfl, tyX10_ok, WL_at 35 (by decide +kernel) (by decide +kernel), WL_at 36 (by decide +kernel) (by decide +kernel), WL_at 22 (by decide +kernel) (by decide +kernel)⟩
theorem lOX0_3 : gLO RX0 3 := ⟨WL_at 88 (by decide +kernel) (by decide +kernel), WL_at 41 (by decide +kernel) (by decide +kernel), WL_at 42 (by decide +kernel) (by decide +kernel)⟩
theorem lOX10_1 : gLO RX10 1 := ⟨WL_at 40 (by decide +kernel) (by decide +kernel), WL_at 41 (by decide +kernel) (by decide +kernel), WL_at 42 (by decide +kernel) (by decide +kernel)⟩
theorem lWX10_7 : gLN RX10 7 2 RX3 TX3 7 tyX3 := ⟨uws_X3, rfl, tyX3_ok, WL_at 43 (by decide +kernel) (by decide +kernel), WL_at 44 (by decide +kernel) (by decide +kernel), WL_at 23 (by decide +kernel) (by decide +kernel)⟩
theorem lWX10_16 : gLN RX10 16 1 RX2 TX2 2 tyX2 := ⟨uws_X2, rfl, tyX2_ok, WL_at 204 (by decide +kernel) (by decide +kernel), WL_at 205 (by decide +kernel) (by decide +kernel), WL_at 28 (by decide +kernel) (by decide +kernel)⟩
theorem lQX10_7 : Cond.classLink RX10 7 "TruthKernel$Machine" ∈ WL := WL_at 43 (by decide +kernel) (by decide +kernel)
theorem lWX10_31 : gLN RX10 31 8 RX9 TX9 5 tyX9 := ⟨uws_X9, rfl, tyX9_ok, WL_at 221 (by decide +kernel) (by decide +kernel), WL_at 222 (by decide +kernel) (by decide +kernel), WL_at 29 (by decide +kernel) (by decide +kernel)⟩
theorem lWX10_38 : gLN RX10 38 4 RX5 TX5 10 tyX5 := ⟨uws_X5, rfl, tyX5_ok, WL_at 249 (by decide +kernel) (by decide +kernel), WL_at 250 (by decide +kernel) (by decide +kernel), WL_at 30 (by decide +kernel) (by decide +kernel)⟩
theorem lOX2_3 : gLO RX2 3 := ⟨WL_at 209 (by decide +kernel) (by decide +kernel), WL_at 41 (by decide +kernel) (by decide +kernel), WL_at 42 (by decide +kernel) (by decide +kernel)⟩
theorem lQX2_9 : Cond.classLink RX2 9 "TruthKernel$Machine" ∈ WL := WL_at 210 (by decide +kernel) (by decide +kernel)
theorem lWX2_9 : gLN RX2 9 2 RX3 TX3 7 tyX3 := ⟨uws_X3, rfl, tyX3_ok, WL_at 210 (by decide +kernel) (by decide +kernel), WL_at 44 (by decide +kernel) (by decide +kernel), WL_at 23 (by decide +kernel) (by decide +kernel)⟩
theorem lOX3_3 : gLO RX3 3 := ⟨WL_at 48 (by decide +kernel) (by decide +kernel), WL_at 41 (by decide +kernel) (by decide +kernel), WL_at 42 (by decide +kernel) (by decide +kernel)⟩
theorem lWX3_9 : gLN RX3 9 7 RX8 TX8 6 tyX8 := ⟨uws_X8, rfl, tyX8_ok, WL_at 49 (by decide +kernel) (by decide +kernel), WL_at 50 (by decide +kernel) (by decide +kernel), WL_at 24 (by decide +kernel) (by decide +kernel)⟩
theorem lWX3_18 : gLN RX3 18 0 RX0 TX0 6 tyX0 := ⟨uws_X0, rfl, tyX0_ok, WL_at 83 (by decide +kernel) (by decide +kernel), WL_at 84 (by decide +kernel) (by decide +kernel), WL_at 25 (by decide +kernel) (by decide +kernel)⟩
theorem lWX3_25 : gLN RX3 25 5 RX6 TX6 3 tyX6 := ⟨uws_X6, rfl, tyX6_ok, WL_at 119 (by decide +kernel) (by decide +kernel), WL_at 120 (by decide +kernel) (by decide +kernel), WL_at 26 (by decide +kernel) (by decide +kernel)⟩
theorem lOX4_3 : gLO RX4 3 := ⟨WL_at 260 (by decide +kernel) (by decide +kernel), WL_at 41 (by decide +kernel) (by decide +kernel), WL_at 42 (by decide +kernel) (by decide +kernel)⟩
theorem lOX5_3 : gLO RX5 3 := ⟨WL_at 254 (by decide +kernel) (by decide +kernel), WL_at 41 (by decide +kernel) (by decide +kernel), WL_at 42 (by decide +kernel) (by decide +kernel)⟩
theorem lWX5_9 : gLN RX5 9 3 RX4 TX4 2 tyX4 := ⟨uws_X4, rfl, tyX4_ok, WL_at 255 (by decide +kernel) (by decide +kernel), WL_at 256 (by decide +kernel) (by decide +kernel), WL_at 31 (by decide +kernel) (by decide +kernel)⟩
theorem lOX6_3 : gLO RX6 3 := ⟨WL_at 124 (by decide +kernel) (by decide +kernel), WL_at 41 (by decide +kernel) (by decide +kernel), WL_at 42 (by decide +kernel) (by decide +kernel)⟩
theorem lWX6_15 : gLN RX6 15 6 RX7 TX7 1 tyX7 := ⟨uws_X7, rfl, tyX7_ok, WL_at 125 (by decide +kernel) (by decide +kernel), WL_at 126 (by decide +kernel) (by decide +kernel), WL_at 27 (by decide +kernel) (by decide +kernel)⟩
theorem lOX7_3 : gLO RX7 3 := ⟨WL_at 130 (by decide +kernel) (by decide +kernel), WL_at 41 (by decide +kernel) (by decide +kernel), WL_at 42 (by decide +kernel) (by decide +kernel)⟩
theorem lOX8_3 : gLO RX8 3 := ⟨WL_at 54 (by decide +kernel) (by decide +kernel), WL_at 41 (by decide +kernel) (by decide +kernel), WL_at 42 (by decide +kernel) (by decide +kernel)⟩
theorem lOX9_3 : gLO RX9 3 := ⟨WL_at 226 (by decide +kernel) (by decide +kernel), WL_at 41 (by decide +kernel) (by decide +kernel), WL_at 42 (by decide +kernel) (by decide +kernel)⟩
theorem lWX9_9 : gLN RX9 9 6 RX7 TX7 1 tyX7 := ⟨uws_X7, rfl, tyX7_ok, WL_at 227 (by decide +kernel) (by decide +kernel), WL_at 126 (by decide +kernel) (by decide +kernel), WL_at 27 (by decide +kernel) (by decide +kernel)⟩
theorem lT_int : Cond.arrayClass .int ∈ WL := WL_at 82 (by decide +kernel) (by decide +kernel)
theorem lT_long : Cond.arrayClass .long ∈ WL := WL_at 135 (by decide +kernel) (by decide +kernel)
theorem lT_boolean : Cond.arrayClass .boolean ∈ WL := WL_at 248 (by decide +kernel) (by decide +kernel)
theorem lT_char : Cond.arrayClass .char ∈ WL := WL_at 270 (by decide +kernel) (by decide +kernel)
