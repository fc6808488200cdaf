/-! ===== more of the layer ===== -/
def nzi (y : Int32) : Bool := !(y == 0)
def nzl (y : Int64) : Bool := !(y == 0)
theorem nzi_of {y : Int32} (h : nzi y = true) : ¬ y = 0 := fun e => by subst e; exact absurd h (by decide)
theorem nzl_of {y : Int64} (h : nzl y = true) : ¬ y = 0 := fun e => by subst e; exact absurd h (by decide)
theorem k_eliml {α β γ : Type} {f : α → Option γ} {g : β → Option γ} {a : α} {o : γ} (h : Sum.elim f g (.inl a) = some o) : f a = some o := h
theorem k_elimr {α β γ : Type} {f : α → Option γ} {g : β → Option γ} {b : β} {o : γ} (h : Sum.elim f g (.inr b) = some o) : g b = some o := h
/-- whether a copy stays in its rows -/
def gcp (sp dp n : Int32) (n0 n1 : Nat) : Bool := decide (0 ≤ sp.toInt) && decide (0 ≤ dp.toInt) && decide (0 ≤ n.toInt) && decide (ix sp + ix n ≤ n0) && decide (ix dp + ix n ≤ n1)
theorem gcp_of {sp dp n : Int32} {n0 n1 : Nat} (h : gcp sp dp n n0 n1 = true) : ¬ sp < 0 ∧ ¬ dp < 0 ∧ ¬ n < 0 ∧ ix sp + ix n ≤ n0 ∧ ix dp + ix n ≤ n1 := by
  simp only [gcp, Bool.and_eq_true, decide_eq_true_eq] at h
  obtain ⟨⟨⟨⟨h1, h2⟩, h3⟩, h4⟩, h5⟩ := h
  have k : ∀ z : Int32, 0 ≤ z.toInt → ¬ z < 0 := fun z hz q => by
    have := Int32.lt_iff_toInt_lt.mp q
    simp at this
    omega
  exact ⟨k _ h1, k _ h2, k _ h3, h4, h5⟩
def gLA (own : String) (idx : Nat) : Prop := Cond.methodLink own idx arraycopyName ∈ WL ∧ Cond.native arraycopyName ∈ WL ∧ Cond.static arraycopyName ∈ WL ∧ Cond.initialized "java/lang/System" ∈ WL
section GCPY
variable {x : GX} {cc : ByteArray} {own : String} {rm : Room} {k n : Nat} {ws ws' : va_W} {lo : List (Nat × Value)} {pc : Nat} {st : List Value}
theorem g_cpyi (C : GC x cc own rm) {idx : Nat} {a0 a n0 n1 : Nat} {f g : Nat → Int32} {sp dp nn : Int32} (q0 q1 : Nat) (L : gLA own idx) (h0 : ws[q0]? = some (a0, .inl (xy x 0, n0, .inl f))) (h1 : ws[q1]? = some (a, .inl (xy x 0, n1, .inl g))) (hg : gcp sp dp nn n0 n1 = true) (hws : ws.set q1 (a, .inl (xy x 0, n1, .inl (va_cpy f g (ix sp) (ix dp) (ix nn)))) = ws') (hfr : 1 ≤ rm.frames) (hlo : (st.map fun v => v.category).sum + (nativeFrameWords "java/lang/System" "arraycopy" 5 + 11) ≤ rm.locals) (hdg : decode cc pc = .ok (.invokestatic idx, 3)) (kk : GW x k n ws' lo (pc + 3) st) : GW x k n ws lo pc (.int nn :: .int dp :: .ref a :: .int sp :: .ref a0 :: st) := fun H locs ls hP hD hS h => by
  obtain ⟨g1, g2, g3, g4, g5⟩ := gcp_of hg
  refine va_copyi C.1 C.2.1 (C.2.2.1.trans h.1.symm) C.2.2.2.1 (C.2.2.2.2.1 _ L.1) (C.2.2.2.2.1 _ L.2.1) (C.2.2.2.2.1 _ L.2.2.1) (C.2.2.2.2.1 _ L.2.2.2) C.2.2.2.2.2.1.1 hP hD hS q0 q1 0 0 h0 h1 rfl rfl rfl g1 g2 g3 g4 g5 (fun i hi => rfl) (by rw [C.2.2.2.2.2.2.2.2]; exact hfr) (by rw [C.2.2.2.2.2.2.2.2]; exact hlo) hdg (fun H1 locs1 hP1 hD1 hS1 => kk H1 locs1 ls (hws ▸ hP1) (hws ▸ hD1) hS1 h)
theorem g_cpyl (C : GC x cc own rm) {idx : Nat} {a0 a n0 n1 : Nat} {f g : Nat → Int64} {sp dp nn : Int32} (q0 q1 : Nat) (L : gLA own idx) (h0 : ws[q0]? = some (a0, .inl (xy x 1, n0, .inr (.inl f)))) (h1 : ws[q1]? = some (a, .inl (xy x 1, n1, .inr (.inl g)))) (hg : gcp sp dp nn n0 n1 = true) (hws : ws.set q1 (a, .inl (xy x 1, n1, .inr (.inl (va_cpy f g (ix sp) (ix dp) (ix nn))))) = ws') (hfr : 1 ≤ rm.frames) (hlo : (st.map fun v => v.category).sum + (nativeFrameWords "java/lang/System" "arraycopy" 5 + 11) ≤ rm.locals) (hdg : decode cc pc = .ok (.invokestatic idx, 3)) (kk : GW x k n ws' lo (pc + 3) st) : GW x k n ws lo pc (.int nn :: .int dp :: .ref a :: .int sp :: .ref a0 :: st) := fun H locs ls hP hD hS h => by
  obtain ⟨g1, g2, g3, g4, g5⟩ := gcp_of hg
  refine va_copyl C.1 C.2.1 (C.2.2.1.trans h.1.symm) C.2.2.2.1 (C.2.2.2.2.1 _ L.1) (C.2.2.2.2.1 _ L.2.1) (C.2.2.2.2.1 _ L.2.2.1) (C.2.2.2.2.1 _ L.2.2.2) C.2.2.2.2.2.1.1 hP hD hS q0 q1 1 1 h0 h1 rfl rfl rfl g1 g2 g3 g4 g5 (fun i hi => rfl) (by rw [C.2.2.2.2.2.2.2.2]; exact hfr) (by rw [C.2.2.2.2.2.2.2.2]; exact hlo) hdg (fun H1 locs1 hP1 hD1 hS1 => kk H1 locs1 ls (hws ▸ hP1) (hws ▸ hD1) hS1 h)
end GCPY
theorem lAX0_31 : gLA RX0 31 := ⟨WL_at 357 (by decide +kernel) (by decide +kernel), WL_at 359 (by decide +kernel) (by decide +kernel), WL_at 358 (by decide +kernel) (by decide +kernel), WL_at 33 (by decide +kernel) (by decide +kernel)⟩
theorem lAX6_26 : gLA RX6 26 := ⟨WL_at 364 (by decide +kernel) (by decide +kernel), WL_at 359 (by decide +kernel) (by decide +kernel), WL_at 358 (by decide +kernel) (by decide +kernel), WL_at 33 (by decide +kernel) (by decide +kernel)⟩
theorem lAX7_17 : gLA RX7 17 := ⟨WL_at 369 (by decide +kernel) (by decide +kernel), WL_at 359 (by decide +kernel) (by decide +kernel), WL_at 358 (by decide +kernel) (by decide +kernel), WL_at 33 (by decide +kernel) (by decide +kernel)⟩
theorem ck_len_8 : Int32.ofNat 8 = (8 : Int32) := by decide +kernel
theorem ck_len_7 : Int32.ofNat 7 = (7 : Int32) := by decide +kernel
