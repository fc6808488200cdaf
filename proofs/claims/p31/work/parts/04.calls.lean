/-! ===== contracts, calls, answers, loops, over lists of cells ===== -/
def gQ0 (D : va_G) (A : Nat → Prop) (P : Option Value → va_W → Prop) : Array Value → State → Outcome → State → Prop := fun _ st oc t => (∃ (v : Option Value) (w : va_W), oc = .returned v ∧ P v w ∧ va_P D vwCl w t.heap ∧ va_D A w) ∧ va_F A st t
def GMet (l : Launch) (y : MethodName) (cc : ByteArray) (maxL : Nat) (ret : Option FieldType) (rm : Room) (mc ms : Nat) (D : va_G) (yy : Nat → ClassId) (av : List Value) (ws : va_W) (P : Option Value → va_W → Prop) : Prop :=
  ∀ sz : Nat, Met l y (.code y cc maxL ret :: WL) rm (va_Pc av (fun U => U.heap.size = sz ∧ va_P D vwCl ws U.heap ∧ gK D yy U ∧ va_D (fun _ => True) ws)) (gQ0 D (va_A ws sz) P) mc ms (va_A ws sz)
/-- what a body knows of its answer -/
def GE (x : GX) (ret : Option FieldType) (mc ms : Nat) (P : Option Value → va_W → Prop) : Prop := (xh x).sig.returnType = ret ∧ xQ x = MQ (xb x) (gQ0 (xD x) (xA x) P) (xa x) (xs x) mc ms (xA x)
theorem GW.q {x : GX} {k n : Nat} {ws : va_W} {lo : List (Nat × Value)} {pc : Nat} {st : List Value} {Q : State → Prop} (h : xQ x = Q) (g : ∀ (H : Heap) (locs : List Loc) (ls : Array Slot), va_P (xD x) vwCl ws H → va_D (xA x) ws → va_S (xA x) (xs x).heap H locs → lv_has ls (xn x) lo → W (xp x) (xl x) (xe x) (xR x) (xs x) (xm x) (xa x) (xb x) (xh x) (xc x) H locs k n Q (F0 (xm x) pc ls st)) : GW x k n ws lo pc st := fun H locs ls hP hD hS hl => by rw [h]; exact g H locs ls hP hD hS hl
section GRET
variable {x : GX} {cc : ByteArray} {own : String} {rm : Room} {k n : Nat} {ws : va_W} {lo : List (Nat × Value)} {pc : Nat} {P : Option Value → va_W → Prop}
theorem gq_of {x : GX} {P : Option Value → va_W → Prop} {v : Option Value} {ws : va_W} {H : Heap} {locs : List Loc} {t : State} (hp : P v ws) (hP : va_P (xD x) vwCl ws H) (hD : va_D (xA x) ws) (hS : va_S (xA x) (xs x).heap H locs) (ht : t.heap = H) : gQ0 (xD x) (xA x) P (xa x) (xs x) (.returned v) t := ⟨⟨v, ws, rfl, hp, by rw [ht]; exact hP, hD⟩, hS.F ht⟩
theorem g_iret {v : Int32} (C : GC x cc own rm) (E : GE x (some .int) k n P) (hdg : decode cc pc = .ok (.ireturn, 1)) (hp : P (some (.int v)) ws) : GW x k n ws lo pc [.int v] := GW.q E.2 fun H locs ls hP hD hS _ => W.iret C.1 C.2.1 E.1 (fun t ht _ => gq_of hp hP hD hS ht) hS.2.2 hdg (hlocks := C.2.2.2.2.2.2.2.1)
theorem g_zret {v : Int32} (C : GC x cc own rm) (E : GE x (some .boolean) k n P) (hv : narrow .boolean (.int v) = .int v) (hdg : decode cc pc = .ok (.ireturn, 1)) (hp : P (some (.int v)) ws) : GW x k n ws lo pc [.int v] := GW.q E.2 fun H locs ls hP hD hS _ => W.zret C.1 C.2.1 E.1 hv (fun t ht _ => gq_of hp hP hD hS ht) hS.2.2 hdg (hlocks := C.2.2.2.2.2.2.2.1)
theorem g_lret {v : Int64} (C : GC x cc own rm) (E : GE x (some .long) k n P) (hdg : decode cc pc = .ok (.lreturn, 1)) (hp : P (some (.long v)) ws) : GW x k n ws lo pc [.long v] := GW.q E.2 fun H locs ls hP hD hS _ => W.lret C.1 C.2.1 E.1 (fun t ht _ => gq_of hp hP hD hS ht) hS.2.2 hdg (hlocks := C.2.2.2.2.2.2.2.1)
theorem g_vret (C : GC x cc own rm) (E : GE x none k n P) (hdg : decode cc pc = .ok (.return_, 1)) (hp : P none ws) : GW x k n ws lo pc [] := GW.q E.2 fun H locs ls hP hD hS _ => W.vret C.1 C.2.1 E.1 (fun t ht _ => gq_of hp hP hD hS ht) hS.2.2 hdg (hlocks := C.2.2.2.2.2.2.2.1)
theorem g_wid {k' n' : Nat} {st : List Value} (h1 : k ≤ k') (h2 : n ≤ n') (kk : GW x k' n' ws lo pc st) : GW x k n ws lo pc st := fun H locs ls hP hD hS hl => W.widen h1 h2 (kk H locs ls hP hD hS hl)
end GRET
/-- a 0 or a 1 -/
def isB (v : Int32) : Bool := v == 0 || v == 1
theorem isB_nar {v : Int32} (h : isB v = true) : narrow .boolean (.int v) = .int v := by
  rcases Bool.or_eq_true _ _ ▸ h with h | h <;> (rw [eq_of_beq h]; rfl)
/-- a contract out of its body -/
theorem g_met {l : Launch} {y : MethodName} {cc : ByteArray} {maxL : Nat} {ret : Option FieldType} {rm : Room} {mc ms : Nat} {D : va_G} {yy : Nat → ClassId} {av : List Value} {ws : va_W} {P : Option Value → va_W → Prop} (hy : plainName y.cls = true) (hlen : (lg_sl av).length ≤ maxL)
    (body : ∀ x : GX, xl x = l → xD x = D → xy x = yy → xn x = maxL → GC x cc y.cls rm → GE x ret mc ms P → ((xh x).name = y.name) → GW x 0 0 ws (lv_args 0 av) 0 []) : GMet l y cc maxL ret rm mc ms D yy av ws P := by
  intro sz
  refine Met.ofW (cc := cc) (maxL := maxL) (ret := ret) hy rfl ?_
  intro p e s m args below meth c s₁ B hml hv
  obtain ⟨rfl, hsz, hP, hK, hD0⟩ := hv
  have hts := atoms_spec (ws := .code y cc maxL ret :: WL) B.pre
  have hown : s.vm.findClass y.cls = some m.cls := findClass_of_methodNamed B.named
  have hin : meth.name = y.name := (name_of_methodNamed B.named B.method).1
  subst hsz
  have hD := hD0.self (sz := s.heap.size)
  have hl := lv_entry av (n := maxL) hlen
  rw [lg_entry_eq]
  exact body (p, l, e, rm, s, m, av.toArray, below, meth, c, D, yy, va_A ws s.heap.size, maxL, MQ below (gQ0 D (va_A ws s.heap.size) P) av.toArray s mc ms (va_A ws s.heap.size)) rfl rfl rfl rfl ⟨B.exec, B.bytes, hml, hown, fun w h => hts w (List.mem_cons_of_mem _ h), hK, fun q h => Or.inr h, B.notSynchronized, rfl⟩ ⟨B.returns, rfl⟩ hin s.heap [] _ hP hD va_S.rf hl
/-! the link of a call -/
def gLk (y : MethodName) (bytes : ByteArray) (maxL : Nat) (ret : Option FieldType) (nn : Nat) : Prop := Cond.code y bytes maxL ret ∈ WL ∧ Cond.initialized y.cls ∈ WL ∧ (y.cls ≠ "java/lang/invoke/MethodHandle" ∧ y.cls ≠ "java/lang/invoke/VarHandle" ∧ (parseMethodDescriptor y.desc).map (fun d => d.parameters.length) = some nn)
theorem gLk.good {y : MethodName} {bytes : ByteArray} {maxL : Nat} {ret : Option FieldType} {nn : Nat} (h : gLk y bytes maxL ret nn) : GoodIn WL (.code y bytes maxL ret :: WL) := fun w hw => by
  rcases List.mem_cons.mp hw with e | e
  · subst e; exact ⟨h.1, good_of_word (WL_good h.1)⟩
  · exact ⟨e, good_of_word (WL_good e)⟩
def gLV (own : String) (idx : Nat) (y : MethodName) : Prop := Cond.methodLink own idx y ∈ WL ∧ Cond.instanceMethod y ∈ WL ∧ Cond.selects y.cls y y ∈ WL
def gLS (own : String) (idx : Nat) (y : MethodName) : Prop := Cond.methodLink own idx y ∈ WL ∧ Cond.static y ∈ WL
def gLI (own : String) (idx : Nat) (y : MethodName) : Prop := Cond.methodLink own idx y ∈ WL ∧ Cond.instanceMethod y ∈ WL ∧ y.name = "<init>"
/-- the room that a callee wants of its caller's -/
def gRm (rm rm2 : Room) (maxL mc ms k n : Nat) : Prop := (rm2.frames + 1 ≤ rm.frames ∧ 8 + (maxL + 11) + rm2.locals ≤ rm.locals) ∧ (rm2.cells = mc ∧ rm2.slots = ms) ∧ (k + mc ≤ rm.cells ∧ n + ms ≤ rm.slots)
theorem va_P.mem {D : va_G} {cl : List vw_C} {ws : va_W} {H : Heap} : va_P D cl ws H ↔ ∀ q ∈ ws, va_at D cl q H := ⟨fun h q hq => by obtain ⟨i, hi⟩ := List.getElem?_of_mem hq; exact h i q hi, fun h k q hk => h q (List.mem_of_getElem? hk)⟩
theorem gpre {D : va_G} {yy : Nat → ClassId} {av : List Value} {ws : va_W} {sz : Nat} : FrameBlind (va_Pc av (fun U => U.heap.size = sz ∧ va_P D vwCl ws U.heap ∧ gK D yy U ∧ va_D (fun _ => True) ws)) := fun a U g mk q => by
  obtain ⟨q0, q1, qP, qK, qD⟩ := q
  exact ⟨q0, q1, qP, qK.call g mk a, qD⟩
section GCALL
variable {x : GX} {cc : ByteArray} {own : String} {rm rm2 : Room} {k n : Nat} {ws ws' wc : va_W} {lo : List (Nat × Value)} {pc : Nat} {st : List Value} {y : MethodName} {bytes : ByteArray} {maxL nn mc ms idx : Nat} {ret : Option FieldType} {P : Option Value → va_W → Prop} {As rest : List Value} {b : Nat}
/-- behind any call: the callee's world, and all else as it was -/
theorem g_ran {H : Heap} {locs : List Loc} {ls : Array Slot} {a : Array Value} (hr : va_Run (xp x) (xl x) (xe x) (xR x) (xs x) (xm x) (xa x) (xb x) (xh x) (xc x) H locs k n mc ms (F0 (xm x) pc ls st) rest (gQ0 (xD x) (va_A wc H.size) P a) (va_A wc H.size)) (hS : va_S (xA x) (xs x).heap H locs) (hF : ∀ q, va_A wc H.size q → xA x q)
    (kk : ∀ (v : Option Value) (w : va_W) (H1 : Heap) (locs1 : List Loc), P v w → va_P (xD x) vwCl w H1 → va_D (va_A wc H.size) w → (∀ q : Nat, q < H.size → ¬ va_A wc H.size q → H1[q]? = H[q]?) → va_S (xA x) (xs x).heap H1 locs1 → W (xp x) (xl x) (xe x) (xR x) (xs x) (xm x) (xa x) (xb x) (xh x) (xc x) H1 locs1 (k + mc) (n + ms) (xQ x) (F0 (xm x) (pc + 3) ls (v.toList ++ rest))) :
    W (xp x) (xl x) (xe x) (xR x) (xs x) (xm x) (xa x) (xb x) (xh x) (xc x) H locs k n (xQ x) (F0 (xm x) pc ls st) := by
  intro T hT X
  obtain ⟨v0, st₀, t, T', L, h0, X', hL, e1, e2, ⟨⟨v, w, hv, hp, hP1, hD1⟩, hz, hk⟩, st2⟩ := hr T hT X
  cases hv
  rw [h0] at hz hk
  obtain ⟨t2, a1, b1⟩ := kk v0 w T'.heap (locs ++ L) hp (by rw [e1]; exact hP1) hD1 (fun q h1 h2 => by rw [e1]; exact hk q h1 h2)
    ⟨Nat.le_trans hS.1 (by rw [e1]; exact hz), fun q h1 h2 => by rw [e1, hk q (Nat.lt_of_lt_of_le h1 hS.1) (fun z => h2 (hF q z))]; exact hS.2.1 q h1 h2, fun q hq => by
      rcases List.mem_append.mp hq with h | h
      · exact hS.2.2 q h
      · exact hF _ (hL q h)⟩ T' rfl X'
  exact ⟨t2, st2 t2 a1, b1⟩
theorem g_fix (C : GC x cc own rm) : CallFix (xp x) (xm x) (xc x) cc (xn x) (xs x) (xa x) WL own := ⟨C.1, C.2.1, C.2.2.1, C.2.2.2.1, C.2.2.2.2.1⟩
theorem g_cb (C : GC x cc own rm) (K : gLk y bytes maxL ret nn) (hl : Cond.methodLink own idx y ∈ WL) (hR : gRm rm rm2 maxL mc ms k n) : CallB (xR x) (xs x) (xa x) own idx y bytes maxL ret (.code y bytes maxL ret :: WL) rm2 mc ms nn := by
  rw [C.2.2.2.2.2.2.2.2]
  exact callB_of nn C.2.2.2.2.1 K.good rfl hR.2.1.1 hR.2.1.2 (C.2.2.2.2.1 _ K.2.1) (C.2.2.2.2.1 _ hl) K.2.2 hR.1
theorem g_in (C : GC x cc own rm) {H : Heap} {av : List Value} (hP : va_P (xD x) vwCl wc H) (hD : va_D (fun _ => True) wc) : ∀ U : State, U.heap = H → (xs x).WarmedH U.vm → va_Pc av (fun U => U.heap.size = H.size ∧ va_P (xD x) vwCl wc U.heap ∧ gK (xD x) (xy x) U ∧ va_D (fun _ => True) wc) av.toArray U := fun U hU hW => ⟨rfl, by rw [hU], by rw [hU]; exact hP, C.2.2.2.2.2.1.warm hW, hD⟩
theorem va_D.tr {A : Nat → Prop} {ws : va_W} (h : va_D A ws) : va_D (fun _ => True) ws := h.weaken (fun _ _ _ _ => trivial)
theorem fm_of_map {is : List Nat} {ws ws' : va_W} (h : is.map (fun i => ws[i]?) = ws'.map some) : is.filterMap (fun i => ws[i]?) = ws' := by
  induction is generalizing ws' with
  | nil => cases ws' with
    | nil => rfl
    | cons a l => simp at h
  | cons i is ih => cases ws' with
    | nil => simp at h
    | cons a l =>
      simp only [List.map_cons, List.cons.injEq] at h
      rw [List.filterMap_cons, h.1]
      exact congrArg (a :: ·) (ih h.2)
/-- the three cuts: of nothing, of all, by places -/
theorem g_cut0 {H H1 : Heap} {w : va_W} (hP : va_P (xD x) vwCl ws H) (hk : ∀ q : Nat, q < H.size → ¬ va_A [] H.size q → H1[q]? = H[q]?) : va_P (xD x) vwCl ws H1 := fun i q h => (hP i q h).kept (hk q.1 (hP i q h).lt (fun z => by
    rcases z with ⟨j, e, z⟩ | z
    · simp at z
    · exact absurd (hP i q h).lt (by omega)))
/-- a static call that touches no cell -/
theorem g_callS0 (C : GC x cc own rm) {v1 : Option Value} {st' : List Value} (K : gLk y bytes maxL ret nn) (L : gLS own idx y) (hM : GMet (xl x) y bytes maxL ret rm2 0 0 (xD x) (xy x) As [] (fun v w => v = v1 ∧ w = [])) (hn : As.length = nn) (hR : gRm rm rm2 maxL 0 0 k n) (hst : st = As.reverse ++ rest) (hcat : (rest.map fun v => v.category).sum ≤ 8) (hst' : v1.toList ++ rest = st') (hdg : decode cc pc = .ok (.invokestatic idx, 3)) (kk : GW x k n ws lo (pc + 3) st') : GW x k n ws lo pc st := fun H locs ls hP hD hS hl => by
  subst hst; subst hst'
  refine g_ran (va_runS (nL := xn x) (As := As) (rest := rest) (g_fix C) (hM H.size) ⟨g_cb C K L.1 hR, C.2.2.2.2.1 _ L.2⟩ ⟨gpre, g_in C (fun i q h => by simp at h) ⟨fun i j p q h => by simp at h, fun i q h => by simp at h⟩⟩ rfl hn hl.1 rfl (lv_room hcat) hdg (by rw [C.2.2.2.2.2.2.2.2]; exact hR.2.2)) hS (fun q h => ?_) (fun v w H1 locs1 hp hP1 hD1 hk hS1 => ?_)
  · rcases h with ⟨j, e, z⟩ | h
    · simp at z
    · exact C.2.2.2.2.2.2.1 q (Nat.le_trans hS.1 h)
  · obtain ⟨rfl, rfl⟩ := hp
    exact kk H1 locs1 ls (g_cut0 (w := []) hP hk) hD hS1 hl
/-- .. of a nest mate -/
theorem g_callS0N (C : GC x cc own rm) {host : String} {v1 : Option Value} {st' : List Value} (K : gLk y bytes maxL ret nn) (hs : Cond.static y ∈ WL) (hnest : va_Nw (.methodLinkNest own idx y host) (xs x)) (hM : GMet (xl x) y bytes maxL ret rm2 0 0 (xD x) (xy x) As [] (fun v w => v = v1 ∧ w = [])) (hn : As.length = nn) (hR : gRm rm rm2 maxL 0 0 k n) (hst : st = As.reverse ++ rest) (hcat : (rest.map fun v => v.category).sum ≤ 8) (hst' : v1.toList ++ rest = st') (hdg : decode cc pc = .ok (.invokestatic idx, 3)) (kk : GW x k n ws lo (pc + 3) st') : GW x k n ws lo pc st := fun H locs ls hP hD hS hl => by
  subst hst; subst hst'
  refine g_ran (va_runSN (nL := xn x) (As := As) (rest := rest) (g_fix C) (hM H.size) ⟨by rw [C.2.2.2.2.2.2.2.2]; exact va_cnB nn C.2.2.2.2.1 K.good rfl hR.2.1.1 hR.2.1.2 hnest (C.2.2.2.2.1 _ K.2.1) K.2.2 hR.1, C.2.2.2.2.1 _ hs, trivial⟩ ⟨gpre, g_in C (fun i q h => by simp at h) ⟨fun i j p q h => by simp at h, fun i q h => by simp at h⟩⟩ rfl hn hl.1 rfl (lv_room hcat) hdg (by rw [C.2.2.2.2.2.2.2.2]; exact hR.2.2)) hS (fun q h => ?_) (fun v w H1 locs1 hp hP1 hD1 hk hS1 => ?_)
  · rcases h with ⟨j, e, z⟩ | h
    · simp at z
    · exact C.2.2.2.2.2.2.1 q (Nat.le_trans hS.1 h)
  · obtain ⟨rfl, rfl⟩ := hp
    exact kk H1 locs1 ls (g_cut0 (w := []) hP hk) hD hS1 hl
/-- a call over the whole world -/
theorem g_callA (C : GC x cc own rm) {w1 : va_W} {v1 : Option Value} {st' : List Value} {ci : Nat} {fs : List Value} {T : u_T} {N : Nat} (q : Nat) (K : gLk y bytes maxL ret nn) (L : gLV own idx y) (hM : GMet (xl x) y bytes maxL ret rm2 0 0 (xD x) (xy x) (.ref b :: As) ws (fun v w => v = v1 ∧ w = w1)) (hn : As.length = nn) (hR : gRm rm rm2 maxL 0 0 k n) (hb : ws[q]? = some (b, .inr (ci, fs))) (hc : vwCl[ci]? = some (y.cls, T, N)) (hst : st = As.reverse ++ .ref b :: rest) (hcat : (rest.map fun v => v.category).sum ≤ 8) (hst' : v1.toList ++ rest = st') (hdg : decode cc pc = .ok (.invokevirtual idx, 3)) (kk : GW x k n w1 lo (pc + 3) st') : GW x k n ws lo pc st := fun H locs ls hP hD hS hl => by
  subst hst; subst hst'
  have hF : ∀ q, va_A ws H.size q → xA x q := fun q h => by
    rcases h with ⟨j, e, z⟩ | h
    · exact hD.2 j _ z
    · exact C.2.2.2.2.2.2.1 q (Nat.le_trans hS.1 h)
  refine g_ran (va_runV (nL := xn x) (As := As) (rest := rest) (g_fix C) (hM H.size) ⟨g_cb C K L.1 hR, C.2.2.2.2.1 _ L.2.1, C.2.2.2.2.1 _ L.2.2⟩ ⟨gpre, va_recv C.2.2.2.2.2.1.1 hP hc hb, g_in C hP hD.tr⟩ rfl hn hl.1 rfl (lv_room hcat) hdg (by rw [C.2.2.2.2.2.2.2.2]; exact hR.2.2)) hS hF (fun v w H1 locs1 hp hP1 hD1 hk hS1 => ?_)
  obtain ⟨rfl, rfl⟩ := hp
  exact kk H1 locs1 ls hP1 (hD1.weaken (fun _ q _ h => hF q.1 h)) hS1 hl
/-- a call over a part of the world, by places -/
theorem g_callV (C : GC x cc own rm) {w1 wr : va_W} {v1 : Option Value} {st' : List Value} {ci : Nat} {fs : List Value} {T : u_T} {N : Nat} (q : Nat) (isC isR pm : List Nat) (K : gLk y bytes maxL ret nn) (L : gLV own idx y) (hM : GMet (xl x) y bytes maxL ret rm2 0 0 (xD x) (xy x) (.ref b :: As) wc (fun v w => v = v1 ∧ w = w1)) (hn : As.length = nn) (hR : gRm rm rm2 maxL 0 0 k n) (hC : isC.map (fun i => ws[i]?) = wc.map some) (hr : isR.map (fun i => ws[i]?) = wr.map some) (hnd : (va_nd isC && va_nd isR && va_nd pm && isR.all (fun i => !isC.contains i)) = true) (hpm : pm.map (fun i => (wr ++ w1)[i]?) = ws'.map some) (hb : wc[q]? = some (b, .inr (ci, fs))) (hc : vwCl[ci]? = some (y.cls, T, N)) (hst : st = As.reverse ++ .ref b :: rest) (hcat : (rest.map fun v => v.category).sum ≤ 8) (hst' : v1.toList ++ rest = st') (hdg : decode cc pc = .ok (.invokevirtual idx, 3)) (kk : GW x k n ws' lo (pc + 3) st') : GW x k n ws lo pc st := fun H locs ls hP hD hS hl => by
  subst hst; subst hst'
  simp only [Bool.and_eq_true, List.all_eq_true] at hnd
  obtain ⟨⟨⟨n1, n2⟩, n3⟩, n4⟩ := hnd
  have hPc : va_P (xD x) vwCl wc H := hP.sub isC (fm_of_map hC)
  have hDc := hD.sub isC n1 hC
  have hF := va_free hD hS C.2.2.2.2.2.2.1 isC hC
  refine g_ran (va_runV (nL := xn x) (As := As) (rest := rest) (g_fix C) (hM H.size) ⟨g_cb C K L.1 hR, C.2.2.2.2.1 _ L.2.1, C.2.2.2.2.1 _ L.2.2⟩ ⟨gpre, va_recv C.2.2.2.2.2.1.1 hPc hc hb, g_in C hPc hDc.tr⟩ rfl hn hl.1 rfl (lv_room hcat) hdg (by rw [C.2.2.2.2.2.2.2.2]; exact hR.2.2)) hS hF (fun v w H1 locs1 hp hP1 hD1 hk hS1 => ?_)
  obtain ⟨rfl, rfl⟩ := hp
  obtain ⟨hP2, hD2⟩ := va_join hP hD isC isR hC hr n2 (fun i hi hi2 => by have := n4 i hi; simp at this; exact this hi2) hk hF hP1 hD1
  exact kk H1 locs1 ls (hP2.sub pm (fm_of_map hpm)) (hD2.sub pm n3 hpm) hS1 hl
end GCALL
/-! ===== the pure side ===== -/
def gd {α : Type} (b : Bool) (k : Option α) : Option α := if b = true then k else none
theorem k_gd {α : Type} {b : Bool} {k : Option α} {o : α} (h : gd b k = some o) : b = true ∧ k = some o := by
  unfold gd at h
  by_cases hb : b = true
  · rw [if_pos hb] at h; exact ⟨hb, h⟩
  · rw [if_neg hb] at h; cases h
theorem gd_t {α : Type} {b : Bool} {k : Option α} (h : b = true) : gd b k = k := if_pos h
theorem k_if {α : Type} {c : Prop} [Decidable c] {a b : Option α} {o : α} (h : (if c then a else b) = some o) : (c → a = some o) ∧ (¬ c → b = some o) := ⟨fun hc => by rw [if_pos hc] at h; exact h, fun hc => by rw [if_neg hc] at h; exact h⟩
def bd {α β : Type} (x : Option α) (k : α → Option β) : Option β := x.bind k
theorem k_bd {α β : Type} {x : Option α} {k : α → Option β} {o : β} (h : bd x k = some o) : ∃ y, x = some y ∧ k y = some o := by
  cases x with
  | none => cases h
  | some y => exact ⟨y, rfl, h⟩
theorem bd_s {α β : Type} {x : Option α} {k : α → Option β} {y : α} (h : x = some y) : bd x k = k y := by rw [h]; rfl
theorem k_some {α : Type} {a b : α} (h : some a = some b) : a = b := Option.some.inj h
def iter {α β : Type} (g : α → Option (α ⊕ β)) : Nat → α → Option β
  | 0, _ => none
  | n + 1, a => bd (g a) (fun r => Sum.elim (fun a' => iter g n a') (fun b => some b) r)
theorem g_loop {α β : Type} {g : α → Option (α ⊕ β)} {x : GX} {k n : Nat} (WS : α → va_W) (LO : α → List (Nat × Value)) (pc : Nat) (KX : β → Prop)
    (step : ∀ (a : α) (r : α ⊕ β), g a = some r → (∀ a', r = .inl a' → GW x k n (WS a') (LO a') pc []) → (∀ b, r = .inr b → KX b) → GW x k n (WS a) (LO a) pc []) :
    ∀ (f : Nat) (a : α) (b : β), iter g f a = some b → KX b → GW x k n (WS a) (LO a) pc [] := by
  intro f
  induction f with
  | zero => intro a b h; cases h
  | succ f ih =>
    intro a b h hb
    obtain ⟨r, hr, h⟩ := k_bd h
    refine step a r hr (fun a' e => ?_) (fun b' e => ?_)
    · subst e; exact ih a' b h hb
    · subst e; cases h; exact hb
/-- far above what any loop takes -/
def FU : Nat := 100000
