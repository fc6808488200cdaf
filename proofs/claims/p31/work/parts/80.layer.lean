/-! ===== the law's layer: calls over one object and a tail, calls that make, loops over any kept addresses ===== -/
theorem va_D.appr {A : Nat → Prop} {a b : va_W} (hD : va_D A (a ++ b)) : va_D A b := by
  rw [va_D.iff] at hD ⊢
  rw [List.map_append, List.nodup_append] at hD
  exact ⟨hD.1.2.1, fun q hq => hD.2 q (List.mem_append_right _ hq)⟩
abbrev HK (kf : Nat → Option Nat) (Q : Nat → Nat → Nat) : Prop := ∀ i, i < 7 → kf i = some (Q i 0)
abbrev HS (sf : Nat → Option Nat) (S : Nat → Nat → Nat) : Prop := ∀ i, i < 2 → sf i = some (S i 0)
def PO (yy : Nat → ClassId) (ta : TA) (sf : Nat → Option Nat) (S : Nat → Nat → Nat) (v1 : Value) (c' : CS) : Option Value → va_W → Prop := fun v w => ∃ (Q' : Nat → Nat → Nat) (kf' : Nat → Option Nat), (∀ i, i < 7 → kf' i = some (Q' i 0)) ∧ v = some v1 ∧ w = tkw yy ta kf' sf Q' S c'
/-- a new object, as a value -/
def newC : Option CS := bd (fX6_beginAt (fun _ => 0) (fun _ => 0) 0) fun o => some (C0 o)
section GLAW
variable {x : GX} {cc : ByteArray} {own : String} {rm rm2 : Room} {k n : Nat} {ws wc wr R : va_W} {lo : List (Nat × Value)} {pc : Nat} {st As rest st' : List Value} {b L : Nat} {sv : Nat → Int32} {y : MethodName} {bytes : ByteArray} {maxL nn mc ms idx : Nat} {ret : Option FieldType} {P : Option Value → va_W → Prop}
theorem g_ldc (C : GC x cc own rm) {i : Nat} {v : Int32} (hw : Cond.constant own i v ∈ WL) (hdg : decode cc pc = .ok (.ldc i, 2)) (kk : GW x k n ws lo (pc + 2) (.int v :: st)) : GW x k n ws lo pc st := fun H locs ls hP hD hS hl => lv_ldc C.1 C.2.1 C.2.2.2.1 (C.2.2.2.2.1 _ hw) hdg (kk H locs ls hP hD hS hl)
theorem g_sld (C : GC x cc own rm) (hX : va_X b L sv (xs x) (xs x).heap) (hbl : b < (xs x).heap.size) (hbA : ¬ xA x b) {i : Int32} (hin : vp_in i L) (hdg : decode cc pc = .ok (.iaload, 1)) (kk : GW x k n ws lo (pc + 1) (.int (sv (ix i)) :: st)) : GW x k n ws lo pc (.int i :: .ref b :: st) := fun H locs ls hP hD hS hl => va_sld C.1 C.2.1 hX hbl hbA hS hin hdg (kk H locs ls hP hD hS hl)
theorem g_slen (C : GC x cc own rm) (hX : va_X b L sv (xs x) (xs x).heap) (hbl : b < (xs x).heap.size) (hbA : ¬ xA x b) (hdg : decode cc pc = .ok (.arraylength, 1)) (kk : GW x k n ws lo (pc + 1) (.int (Int32.ofNat L) :: st)) : GW x k n ws lo pc (.ref b :: st) := fun H locs ls hP hD hS hl => va_slen C.1 C.2.1 hX hbl hbA hS hdg (kk H locs ls hP hD hS hl)
theorem g_aload (C : GC x cc own rm) {i : Nat} {v : Nat} (j : Nat) (hdg : decode cc pc = .ok (.aload i, 2)) (hl : lo[j]? = some (i, .ref v)) (kk : GW x k n ws lo (pc + 2) (.ref v :: st)) : GW x k n ws lo pc st := fun H locs ls hP hD hS h => lv_aload C.1 C.2.1 hdg (lv_at h j hl) (kk H locs ls hP hD hS h)
theorem g_astore (C : GC x cc own rm) {i : Nat} {v : Nat} {lo' : List (Nat × Value)} (hdg : decode cc pc = .ok (.astore i, 2)) {M : Nat} (N : xn x = M) (hn : Nat.ble (i + 1) M = true) (hl : (i, Value.ref v) :: lo.filter (fun q => !(q.1 == i) && !(q.1 + 1 == i && q.2.category == 2)) = lo') (kk : GW x k n ws lo' (pc + 2) st) : GW x k n ws lo pc (.ref v :: st) := fun H locs ls hP hD hS h => lv_astore C.1 C.2.1 hdg h (N ▸ Nat.le_of_ble_eq_true hn) hl (fun ls' h' => kk H locs ls' hP hD hS h')
theorem g_nil (kk : GW x k n (ws ++ []) lo pc st) : GW x k n ws lo pc st := by rw [List.append_nil] at kk; exact kk
theorem g_app0 {c : Nat × va_E} (kk : GW x k n (ws ++ [c]) lo pc st) : GW x k n ((ws ++ []) ++ [c]) lo pc st := by rw [List.append_nil]; exact kk
theorem g_drop (kk : GW x k n wr lo pc st) : GW x k n (wc ++ wr) lo pc st := fun H locs ls hP hD hS hl => kk H locs ls hP.appr hD.appr hS hl
/-- a static call over the first part of the world, whatever it answers -/
theorem g_callFS (C : GC x cc own rm) (K : gLk y bytes maxL ret nn) (Lk : gLS own idx y) (hM : GMet (xl x) y bytes maxL ret rm2 mc ms (xD x) (xy x) As wc P) (hn : As.length = nn) (hR : gRm rm rm2 maxL mc ms k n) (hst : st = As.reverse ++ rest) (hcat : (rest.map fun v => v.category).sum ≤ 8) (hdg : decode cc pc = .ok (.invokestatic idx, 3)) (kk : ∀ v w, P v w → GW x (k + mc) (n + ms) (w ++ wr) lo (pc + 3) (v.toList ++ rest)) : GW x k n (wc ++ wr) lo pc st := fun H locs ls hP hD hS hl => by
  subst hst
  have hF := g_fr C hD hS
  refine g_ran (va_runS (nL := xn x) (As := As) (rest := rest) (g_fix C) (hM H.size) ⟨g_cb C K Lk.1 hR, C.2.2.2.2.1 _ Lk.2⟩ ⟨gpre, g_in C hP.appl hD.appl.tr⟩ rfl hn hl.1 rfl (lv_room hcat) hdg (by rw [C.2.2.2.2.2.2.2.2]; exact hR.2.2)) hS hF (fun v w H1 locs1 hp hP1 hD1 hk hS1 => ?_)
  obtain ⟨hP2, hD2⟩ := va_joinA hP hD hk hF hP1 hD1
  exact kk v w hp H1 locs1 ls hP2 hD2 hS1 hl
/-- a method of the object -/
theorem g_callO (C : GC x cc own rm) {ta : TA} {kf sf : Nat → Option Nat} {Q S : Nat → Nat → Nat} {c c' : CS} {v1 : Value} (K : gLk y bytes maxL ret nn) (Lk : gLV own idx y) (hM : GMet (xl x) y bytes maxL ret rm2 0 0 (xD x) (xy x) (.ref ta.1 :: As) (tkw (xy x) ta kf sf Q S c) (fun v w => ∃ (Q' : Nat → Nat → Nat) (kf' : Nat → Option Nat), (∀ i, i < 7 → kf' i = some (Q' i 0)) ∧ v = some v1 ∧ w = tkw (xy x) ta kf' sf Q' S c')) (hn : As.length = nn) (hR : gRm rm rm2 maxL 0 0 k n) (hc : y.cls = RX10) (hst : st = As.reverse ++ .ref ta.1 :: rest) (hcat : (rest.map fun v => v.category).sum ≤ 8) (hst' : v1 :: rest = st') (hdg : decode cc pc = .ok (.invokevirtual idx, 3)) (kk : ∀ (kf' : Nat → Option Nat) (Q' : Nat → Nat → Nat), HK kf' Q' → GW x k n (tkw (xy x) ta kf' sf Q' S c' ++ R) lo (pc + 3) st') : GW x k n (tkw (xy x) ta kf sf Q S c ++ R) lo pc st :=
  g_callF C 0 K Lk hM hn hR rfl (show vwCl[9]? = some (y.cls, TX10, 7) by rw [hc]; rfl) hst hcat hdg (fun v w hw => by
    obtain ⟨Q', kf', hk', rfl, rfl⟩ := hw
    subst hst'
    exact kk kf' Q' hk')
/-- a method of the law over the object -/
theorem g_callOS (C : GC x cc own rm) {ta : TA} {kf sf : Nat → Option Nat} {Q S : Nat → Nat → Nat} {c c' : CS} {v1 : Value} (K : gLk y bytes maxL ret nn) (Lk : gLS own idx y) (hM : GMet (xl x) y bytes maxL ret rm2 0 0 (xD x) (xy x) As (tkw (xy x) ta kf sf Q S c) (PO (xy x) ta sf S v1 c')) (hn : As.length = nn) (hR : gRm rm rm2 maxL 0 0 k n) (hst : st = As.reverse ++ rest) (hcat : (rest.map fun v => v.category).sum ≤ 8) (hst' : v1 :: rest = st') (hdg : decode cc pc = .ok (.invokestatic idx, 3)) (kk : ∀ (kf' : Nat → Option Nat) (Q' : Nat → Nat → Nat), HK kf' Q' → GW x k n (tkw (xy x) ta kf' sf Q' S c' ++ R) lo (pc + 3) st') : GW x k n (tkw (xy x) ta kf sf Q S c ++ R) lo pc st :=
  g_callFS C K Lk hM hn hR hst hcat hdg (fun v w hw => by
    obtain ⟨Q', kf', hk', rfl, rfl⟩ := hw
    subst hst'
    exact kk kf' Q' hk')
/-- a method of the law that makes what it works on, and leaves it -/
theorem g_callN (C : GC x cc own rm) {v1 : Value} (K : gLk y bytes maxL ret nn) (Lk : gLS own idx y) (hM : GMet (xl x) y bytes maxL ret rm2 mc ms (xD x) (xy x) As [] (fun v _ => v = some v1)) (hn : As.length = nn) (hR : gRm rm rm2 maxL mc ms k n) (hst : st = As.reverse ++ rest) (hcat : (rest.map fun v => v.category).sum ≤ 8) (hst' : v1 :: rest = st') (hdg : decode cc pc = .ok (.invokestatic idx, 3)) (kk : GW x (k + mc) (n + ms) ws lo (pc + 3) st') : GW x k n ws lo pc st :=
  g_callFS (wc := []) (wr := ws) C K Lk hM hn hR hst hcat hdg (fun v w hw => by
    subst hw
    subst hst'
    exact g_drop kk)
/-- a loop over an object, wherever what it keeps lies -/
theorem g_loopT {α β : Type} {g : α → Option (α ⊕ β)} (WS : α → (Nat → Option Nat) → (Nat → Nat → Nat) → va_W) (LO : α → List (Nat × Value)) (pc : Nat) (KX : β → Prop)
    (step : ∀ (a : α) (r : α ⊕ β), g a = some r → (∀ a', r = .inl a' → ∀ (kf : Nat → Option Nat) (Q : Nat → Nat → Nat), HK kf Q → GW x k n (WS a' kf Q) (LO a') pc []) → (∀ b, r = .inr b → KX b) → ∀ (kf : Nat → Option Nat) (Q : Nat → Nat → Nat), HK kf Q → GW x k n (WS a kf Q) (LO a) pc []) :
    ∀ (f : Nat) (a : α) (b : β), iter g f a = some b → KX b → ∀ (kf : Nat → Option Nat) (Q : Nat → Nat → Nat), HK kf Q → GW x k n (WS a kf Q) (LO a) pc [] := by
  intro f
  induction f with
  | zero => intro a b h; cases h
  | succ f ih =>
    intro a b h hb
    obtain ⟨r, hr, h⟩ := k_bd h
    refine step a r hr (fun a' e => ?_) (fun b' e => ?_)
    · subst e; exact ih a' b h hb
    · subst e; cases h; exact hb
end GLAW
abbrev newT (h : Nat) : Nat × va_E := wTk h .null .null .null .null .null .null .null
/-! drawn reads the script -/
def ZX (b L : Nat) (sv : Nat → Int32) (sz : Nat) (U : State) : Prop := va_X b L sv U U.heap ∧ b < sz
def GMetZ (l : Launch) (y : MethodName) (cc : ByteArray) (maxL : Nat) (ret : Option FieldType) (rm : Room) (D : va_G) (yy : Nat → ClassId) (av : List Value) (b L : Nat) (sv : Nat → Int32) (P : Option Value → va_W → Prop) : Prop :=
  ∀ sz : Nat, Met l y (.code y cc maxL ret :: WL) rm (va_Pc av (fun U => (U.heap.size = sz ∧ va_P D vwCl [] U.heap ∧ gK D yy U ∧ va_D (fun _ => True) []) ∧ ZX b L sv sz U)) (gQ0 D (va_A [] sz) P) 0 0 (va_A [] sz)
theorem g_metZ {l : Launch} {y : MethodName} {cc : ByteArray} {maxL : Nat} {ret : Option FieldType} {rm : Room} {D : va_G} {yy : Nat → ClassId} {av : List Value} {b L : Nat} {sv : Nat → Int32} {P : Option Value → va_W → Prop} (hy : plainName y.cls = true) (hlen : (lg_sl av).length ≤ maxL)
    (body : ∀ x : GX, xl x = l → xD x = D → xy x = yy → xn x = maxL → GC x cc y.cls rm → GE x ret 0 0 P → va_X b L sv (xs x) (xs x).heap → b < (xs x).heap.size → ¬ xA x b → GW x 0 0 [] (lv_args 0 av) 0 []) : GMetZ l y cc maxL ret rm D yy av b L sv P := by
  intro sz
  refine Met.ofW (cc := cc) (maxL := maxL) (ret := ret) hy rfl ?_
  intro p e s m args below meth c s₁ B hml hv
  obtain ⟨rfl, ⟨hsz, hP, hK, hD0⟩, hX, hb⟩ := hv
  have hts := atoms_spec (ws := .code y cc maxL ret :: WL) B.pre
  have hown : s.vm.findClass y.cls = some m.cls := findClass_of_methodNamed B.named
  subst hsz
  have hD := hD0.self (sz := s.heap.size)
  have hl := lv_entry av (n := maxL) hlen
  rw [lg_entry_eq]
  exact body (p, l, e, rm, s, m, av.toArray, below, meth, c, D, yy, va_A [] s.heap.size, maxL, MQ below (gQ0 D (va_A [] s.heap.size) P) av.toArray s 0 0 (va_A [] s.heap.size)) rfl rfl rfl rfl ⟨B.exec, B.bytes, hml, hown, fun w h => hts w (List.mem_cons_of_mem _ h), hK, fun q h => Or.inr h, B.notSynchronized, rfl⟩ ⟨B.returns, rfl⟩ hX hb (fun z => by
    rcases z with ⟨j, e, z⟩ | z
    · simp at z
    · exact absurd hb (Nat.not_lt.mpr z)) s.heap [] _ hP hD va_S.rf hl
theorem gpreZ {D : va_G} {yy : Nat → ClassId} {av : List Value} {b L : Nat} {sv : Nat → Int32} {sz : Nat} : FrameBlind (va_Pc av (fun U => (U.heap.size = sz ∧ va_P D vwCl [] U.heap ∧ gK D yy U ∧ va_D (fun _ => True) []) ∧ ZX b L sv sz U)) := fun a U g mk q => by
  obtain ⟨q0, ⟨q1, qP, qK, qD⟩, qX, qb⟩ := q
  exact ⟨q0, ⟨q1, qP, qK.call g mk a, qD⟩, va_X.moved (u := U) (U := U.calling g mk a) (Vm.Alike.refl U.vm) qX, qb⟩
theorem g_callZ {x : GX} {cc : ByteArray} {own : String} {rm rm2 : Room} {k n : Nat} {ws : va_W} {lo : List (Nat × Value)} {pc : Nat} {st As rest st' : List Value} {b L : Nat} {sv : Nat → Int32} {y : MethodName} {bytes : ByteArray} {maxL nn idx : Nat} {ret : Option FieldType} (C : GC x cc own rm) (hX : va_X b L sv (xs x) (xs x).heap) (hbl : b < (xs x).heap.size) (hbA : ¬ xA x b) {v1 : Value} (K : gLk y bytes maxL ret nn) (Lk : gLS own idx y) (hM : GMetZ (xl x) y bytes maxL ret rm2 (xD x) (xy x) As b L sv (fun v w => v = some v1 ∧ w = [])) (hn : As.length = nn) (hR : gRm rm rm2 maxL 0 0 k n) (hst : st = As.reverse ++ rest) (hcat : (rest.map fun v => v.category).sum ≤ 8) (hst' : v1 :: rest = st') (hdg : decode cc pc = .ok (.invokestatic idx, 3)) (kk : GW x k n ws lo (pc + 3) st') : GW x k n ws lo pc st := fun H locs ls hP hD hS hl => by
  subst hst; subst hst'
  have hX1 : va_X b L sv (xs x) H := hX.kept (hS.2.1 b hbl hbA)
  have hP0 : va_P (xD x) vwCl [] H := fun i q h => by simp at h
  have hD0 : va_D (fun _ => True) ([] : va_W) := ⟨fun i j p q h => by simp at h, fun i q h => by simp at h⟩
  refine g_ran (va_runS (nL := xn x) (As := As) (rest := rest) (g_fix C) (hM H.size) ⟨g_cb C K Lk.1 hR, C.2.2.2.2.1 _ Lk.2⟩ ⟨gpreZ, fun U hU hW => ⟨rfl, ⟨by rw [hU], by rw [hU]; exact hP0, C.2.2.2.2.2.1.warm hW, hD0⟩, va_X.moved hW.alike (by rw [hU]; exact hX1), Nat.lt_of_lt_of_le hbl hS.1⟩⟩ rfl hn hl.1 rfl (lv_room hcat) hdg (by rw [C.2.2.2.2.2.2.2.2]; exact hR.2.2)) hS (fun q h => ?_) (fun v w H1 locs1 hp hP1 hD1 hk hS1 => ?_)
  · rcases h with ⟨j, e, z⟩ | h
    · simp at z
    · exact C.2.2.2.2.2.2.1 q (Nat.le_trans hS.1 h)
  · obtain ⟨rfl, rfl⟩ := hp
    exact kk H1 locs1 ls (g_cut0 (w := []) hP hk) hD hS1 hl
section GWAS
variable {x : GX} {cc : ByteArray} {own : String} {rm : Room} {k n : Nat} {A : va_W} {lo : List (Nat × Value)} {pc : Nat} {st : List Value}
theorem g_laldT (C : GC x cc own rm) {a N : Nat} {f : Nat → Int64} {i : Int32} (hi : gi i N = true) (hdg : decode cc pc = .ok (.laload, 1)) (kk : GW x k n (A ++ [(a, .inl (xy x 1, N, .inr (.inl f)))]) lo (pc + 1) (.long (f (ix i)) :: st)) : GW x k n (A ++ [(a, .inl (xy x 1, N, .inr (.inl f)))]) lo pc (.int i :: .ref a :: st) :=
  g_perm List.perm_append_comm (g_lald C 0 rfl hi hdg (g_perm List.perm_append_comm kk))
theorem g_lastT (C : GC x cc own rm) {a N : Nat} {f : Nat → Int64} {i : Int32} {v : Int64} (hi : gi i N = true) (hdg : decode cc pc = .ok (.lastore, 1)) (kk : GW x k n (A ++ [(a, .inl (xy x 1, N, .inr (.inl (vp_updL f (ix i) v))))]) lo (pc + 1) st) : GW x k n (A ++ [(a, .inl (xy x 1, N, .inr (.inl f)))]) lo pc (.long v :: .int i :: .ref a :: st) :=
  g_perm List.perm_append_comm (g_last C (ws' := [(a, .inl (xy x 1, N, .inr (.inl (vp_updL f (ix i) v))))] ++ A) 0 rfl hi rfl hdg (g_perm List.perm_append_comm kk))
end GWAS
