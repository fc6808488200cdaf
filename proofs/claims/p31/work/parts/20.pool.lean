/-! ===== worlds in any order; machines that are kept ===== -/
theorem va_D.iff {A : Nat → Prop} {ws : va_W} : va_D A ws ↔ (ws.map (fun q => q.1)).Nodup ∧ ∀ q ∈ ws, A q.1 := by
  constructor
  · intro h
    refine ⟨?_, fun q hq => by obtain ⟨i, hi⟩ := List.getElem?_of_mem hq; exact h.2 i q hi⟩
    show List.Pairwise _ _
    rw [List.pairwise_iff_getElem]
    intro i j hi hj hij e
    rw [List.getElem_map, List.getElem_map] at e
    rw [List.length_map] at hi hj
    have := h.1 i j ws[i] ws[j] (List.getElem?_eq_getElem hi) (List.getElem?_eq_getElem hj) e
    omega
  · rintro ⟨h1, h2⟩
    refine ⟨fun i j p q hi hj e => ?_, fun k q hk => h2 q (List.mem_of_getElem? hk)⟩
    have h1 : List.Pairwise (fun a b => a ≠ b) (ws.map (fun q => q.1)) := h1
    rw [List.pairwise_iff_getElem] at h1
    obtain ⟨hi1, hi2⟩ := List.getElem?_eq_some_iff.mp hi
    obtain ⟨hj1, hj2⟩ := List.getElem?_eq_some_iff.mp hj
    rcases Nat.lt_trichotomy i j with h | h | h
    · exact absurd (by rw [List.getElem_map, List.getElem_map, hi2, hj2]; exact e) (h1 i j (by rw [List.length_map]; exact hi1) (by rw [List.length_map]; exact hj1) h)
    · exact h
    · exact absurd (by rw [List.getElem_map, List.getElem_map, hi2, hj2]; exact e.symm) (h1 j i (by rw [List.length_map]; exact hj1) (by rw [List.length_map]; exact hi1) h)
theorem va_P.perm {D : va_G} {cl : List vw_C} {ws ws' : va_W} {H : Heap} (h : ws.Perm ws') (hP : va_P D cl ws H) : va_P D cl ws' H := va_P.mem.mpr fun q hq => va_P.mem.mp hP q (h.mem_iff.mpr hq)
theorem va_D.perm {A : Nat → Prop} {ws ws' : va_W} (h : ws.Perm ws') (hD : va_D A ws) : va_D A ws' := by
  rw [va_D.iff] at hD ⊢
  exact ⟨((h.map _).nodup_iff).mp hD.1, fun q hq => hD.2 q (h.mem_iff.mpr hq)⟩
theorem va_D.appl {A : Nat → Prop} {a b : va_W} (hD : va_D A (a ++ b)) : va_D A a := by
  rw [va_D.iff] at hD ⊢
  rw [List.map_append, List.nodup_append] at hD
  exact ⟨hD.1.1, fun q hq => hD.2 q (List.mem_append_left _ hq)⟩
theorem va_P.appl {D : va_G} {cl : List vw_C} {a b : va_W} {H : Heap} (hP : va_P D cl (a ++ b) H) : va_P D cl a H := va_P.mem.mpr fun q hq => va_P.mem.mp hP q (List.mem_append_left _ hq)
theorem va_P.appr {D : va_G} {cl : List vw_C} {a b : va_W} {H : Heap} (hP : va_P D cl (a ++ b) H) : va_P D cl b H := va_P.mem.mpr fun q hq => va_P.mem.mp hP q (List.mem_append_right _ hq)
/-- behind a call over the first part of a world -/
theorem va_joinA {A0 : Nat → Prop} {D : va_G} {cl : List vw_C} {wc wr w1 : va_W} {H H1 : Heap} (hP : va_P D cl (wc ++ wr) H) (hD : va_D A0 (wc ++ wr)) (hk : ∀ q : Nat, q < H.size → ¬ va_A wc H.size q → H1[q]? = H[q]?) (hF : ∀ q, va_A wc H.size q → A0 q) (hP1 : va_P D cl w1 H1) (hD1 : va_D (va_A wc H.size) w1) : va_P D cl (w1 ++ wr) H1 ∧ va_D A0 (w1 ++ wr) := by
  have hD' := va_D.iff.mp hD
  rw [List.map_append, List.nodup_append] at hD'
  have hD1' := va_D.iff.mp hD1
  have ap : ∀ q ∈ wr, q.1 < H.size ∧ ¬ va_A wc H.size q.1 := fun q hq => by
    have hlt := (va_P.mem.mp hP q (List.mem_append_right _ hq)).lt
    refine ⟨hlt, fun z => ?_⟩
    rcases z with ⟨k, e, z⟩ | z
    · exact hD'.1.2.2 q.1 (List.mem_map.mpr ⟨(q.1, e), List.mem_of_getElem? z, rfl⟩) q.1 (List.mem_map.mpr ⟨q, hq, rfl⟩) rfl
    · omega
  refine ⟨va_P.mem.mpr fun q hq => ?_, va_D.iff.mpr ⟨?_, fun q hq => ?_⟩⟩
  · rcases List.mem_append.mp hq with h | h
    · exact va_P.mem.mp hP1 q h
    · exact (va_P.mem.mp hP q (List.mem_append_right _ h)).kept (hk q.1 (ap q h).1 (ap q h).2)
  · rw [List.map_append, List.nodup_append]
    refine ⟨hD1'.1, hD'.1.2.1, fun a ha b hb e => ?_⟩
    obtain ⟨p, hp, rfl⟩ := List.mem_map.mp ha
    obtain ⟨q, hq, rfl⟩ := List.mem_map.mp hb
    exact (ap q hq).2 (e ▸ hD1'.2 p hp)
  · rcases List.mem_append.mp hq with h | h
    · exact hF _ (hD1'.2 q h)
    · exact hD'.2 q (List.mem_append_right _ h)
/-- to take cells out of a list, by their places in what is left -/
def takes {α : Type} : List Nat → List α → List α × List α
  | [], l => ([], l)
  | i :: is, l => match l[i]? with
    | none => ([], l)
    | some a => (a :: (takes is (l.eraseIdx i)).1, (takes is (l.eraseIdx i)).2)
theorem er_perm {α : Type} : ∀ (l : List α) (i : Nat) (a : α), l[i]? = some a → (a :: l.eraseIdx i).Perm l
  | [], i, a, h => by simp at h
  | b :: l, 0, a, h => by
    rw [List.getElem?_cons_zero] at h
    cases h
    exact List.Perm.refl _
  | b :: l, i + 1, a, h => by
    rw [List.getElem?_cons_succ] at h
    exact (List.Perm.swap b a _).trans (List.Perm.cons b (er_perm l i a h))
theorem takes_perm {α : Type} : ∀ (is : List Nat) (l : List α), l.Perm ((takes is l).1 ++ (takes is l).2)
  | [], l => List.Perm.refl _
  | i :: is, l => by
    unfold takes
    cases h : l[i]? with
    | none => exact List.Perm.refl _
    | some a =>
      exact (er_perm l i a h).symm.trans (List.Perm.cons a (takes_perm is (l.eraseIdx i)))
theorem takes_of {α : Type} {is : List Nat} {l a b : List α} (h : takes is l = (a, b)) : l.Perm (a ++ b) := by
  have := takes_perm is l
  rw [h] at this
  exact this
section GP
variable {x : GX} {cc : ByteArray} {own : String} {rm rm2 : Room} {k n : Nat} {ws ws' wc wr : va_W} {lo : List (Nat × Value)} {pc : Nat} {st : List Value} {y : MethodName} {bytes : ByteArray} {maxL nn mc ms idx : Nat} {ret : Option FieldType} {P : Option Value → va_W → Prop} {As rest : List Value} {b : Nat}
theorem g_perm (h : ws.Perm ws') (kk : GW x k n ws' lo pc st) : GW x k n ws lo pc st := fun H locs ls hP hD hS hl => kk H locs ls (hP.perm h) (hD.perm h) hS hl
theorem g_fr (C : GC x cc own rm) {H : Heap} {locs : List Loc} (hD : va_D (xA x) (wc ++ wr)) (hS : va_S (xA x) (xs x).heap H locs) : ∀ q, va_A wc H.size q → xA x q := fun q h => by
  rcases h with ⟨j, e, z⟩ | h
  · exact (va_D.iff.mp hD).2 (q, e) (List.mem_append_left _ (List.mem_of_getElem? z))
  · exact C.2.2.2.2.2.2.1 q (Nat.le_trans hS.1 h)
/-- a call over the first part of the world, whatever it answers -/
theorem g_callF (C : GC x cc own rm) {ci : Nat} {fs : List Value} {T : u_T} {N : Nat} (q : Nat) (K : gLk y bytes maxL ret nn) (L : gLV own idx y) (hM : GMet (xl x) y bytes maxL ret rm2 mc ms (xD x) (xy x) (.ref b :: As) wc P) (hn : As.length = nn) (hR : gRm rm rm2 maxL mc ms k n) (hb : wc[q]? = some (b, .inr (ci, fs))) (hc : vwCl[ci]? = some (y.cls, T, N)) (hst : st = As.reverse ++ .ref b :: rest) (hcat : (rest.map fun v => v.category).sum ≤ 8) (hdg : decode cc pc = .ok (.invokevirtual idx, 3)) (kk : ∀ v w, P v w → GW x (k + mc) (n + ms) (w ++ wr) lo (pc + 3) (v.toList ++ rest)) : GW x k n (wc ++ wr) lo pc st := fun H locs ls hP hD hS hl => by
  subst hst
  have hF := g_fr C hD hS
  refine g_ran (va_runV (nL := xn x) (As := As) (rest := rest) (g_fix C) (hM H.size) ⟨g_cb C K L.1 hR, C.2.2.2.2.1 _ L.2.1, C.2.2.2.2.1 _ L.2.2⟩ ⟨gpre, va_recv C.2.2.2.2.2.1.1 hP.appl hc hb, g_in C hP.appl hD.appl.tr⟩ rfl hn hl.1 rfl (lv_room hcat) hdg (by rw [C.2.2.2.2.2.2.2.2]; exact hR.2.2)) hS hF (fun v w H1 locs1 hp hP1 hD1 hk hS1 => ?_)
  obtain ⟨hP2, hD2⟩ := va_joinA hP hD hk hF hP1 hD1
  exact kk v w hp H1 locs1 ls hP2 hD2 hS1 hl
/-- .. of a constructor -/
theorem g_callI (C : GC x cc own rm) (K : gLk y bytes maxL none nn) (L : gLI own idx y) (hM : GMet (xl x) y bytes maxL none rm2 mc ms (xD x) (xy x) (.ref b :: As) wc P) (hn : As.length = nn) (hR : gRm rm rm2 maxL mc ms k n) (hst : st = As.reverse ++ .ref b :: rest) (hcat : (rest.map fun v => v.category).sum ≤ 8) (hdg : decode cc pc = .ok (.invokespecial idx, 3)) (kk : ∀ v w, P v w → GW x (k + mc) (n + ms) (w ++ wr) lo (pc + 3) (v.toList ++ rest)) : GW x k n (wc ++ wr) lo pc st := fun H locs ls hP hD hS hl => by
  subst hst
  have hF := g_fr C hD hS
  refine g_ran (va_runI (nL := xn x) (As := As) (rest := rest) (g_fix C) (hM H.size) ⟨g_cb C K L.1 hR, L.2.2, C.2.2.2.2.1 _ L.2.1⟩ ⟨gpre, g_in C hP.appl hD.appl.tr⟩ rfl hn hl.1 rfl (lv_room hcat) hdg (by rw [C.2.2.2.2.2.2.2.2]; exact hR.2.2)) hS hF (fun v w H1 locs1 hp hP1 hD1 hk hS1 => ?_)
  obtain ⟨hP2, hD2⟩ := va_joinA hP hD hk hF hP1 hD1
  exact kk v w hp H1 locs1 ls hP2 hD2 hS1 hl
end GP
/-! a machine as one value: seven numbers, eleven rows, the words of what is seen -/
abbrev MS : Type := (Nat → Int32) × (Nat → Nat → Int32) × (Nat → Int64)
def mcl (y : Nat → ClassId) (q : Nat → Nat) (M : MS) : va_W := [(q 0, .inr (2, [.int (M.1 0), .int (M.1 1), .int (M.1 2), .int (M.1 3), .ref (q 1), .ref (q 7), .ref (q 13)])), (q 1, .inr (7, [.int (M.1 4), .ref (q 2), .ref (q 3), .ref (q 4), .ref (q 5), .ref (q 6)])), (q 2, .inl (y 0, 8, .inl (M.2.1 0))), (q 3, .inl (y 0, 8, .inl (M.2.1 1))), (q 4, .inl (y 0, 8, .inl (M.2.1 2))), (q 5, .inl (y 0, 8, .inl (M.2.1 3))), (q 6, .inl (y 0, 8, .inl (M.2.1 4))), (q 7, .inr (0, [.int (M.1 5), .ref (q 8), .ref (q 9), .ref (q 10), .ref (q 11), .ref (q 12)])), (q 8, .inl (y 0, 40, .inl (M.2.1 5))), (q 9, .inl (y 0, 40, .inl (M.2.1 6))), (q 10, .inl (y 0, 40, .inl (M.2.1 7))), (q 11, .inl (y 0, 40, .inl (M.2.1 8))), (q 12, .inl (y 0, 40, .inl (M.2.1 9))), (q 13, .inr (5, [.int (M.1 6), .ref (q 14), .ref (q 15)])), (q 14, .inl (y 0, 512, .inl (M.2.1 10))), (q 15, .inr (6, [.ref (q 16)])), (q 16, .inl (y 1, 8, .inr (.inl M.2.2)))]
def snap (m_a m_w m_r m_o s_n : Int32) (s_g s_h s_x s_y s_k : Nat → Int32) (c_n : Int32) (c_c c_f c_s c_m c_r : Nat → Int32) (e_n : Int32) (e_o : Nat → Int32) (we : Nat → Int64) : MS :=
  (fun i => match i with | 0 => m_a | 1 => m_w | 2 => m_r | 3 => m_o | 4 => s_n | 5 => c_n | _ => e_n, fun i => match i with | 0 => s_g | 1 => s_h | 2 => s_x | 3 => s_y | 4 => s_k | 5 => c_c | 6 => c_f | 7 => c_s | 8 => c_m | 9 => c_r | _ => e_o, we)
/-- n machines, each at its addresses -/
def pool (y : Nat → ClassId) (Q : Nat → Nat → Nat) (K : Nat → MS) (l : List Nat) : va_W := l.flatMap (fun i => mcl y (Q i) (K i))
theorem pool_perm {y : Nat → ClassId} {Q : Nat → Nat → Nat} {K : Nat → MS} {l l' : List Nat} (h : l.Perm l') : (pool y Q K l).Perm (pool y Q K l') := h.flatMap_right _
theorem pool_cons {y : Nat → ClassId} {Q : Nat → Nat → Nat} {K : Nat → MS} {l : List Nat} {i : Nat} : pool y Q K (i :: l) = mcl y (Q i) (K i) ++ pool y Q K l := rfl
theorem pool_congr {y : Nat → ClassId} {Q Q' : Nat → Nat → Nat} {K K' : Nat → MS} {l : List Nat} (h : ∀ i ∈ l, Q i = Q' i ∧ K i = K' i) : pool y Q K l = pool y Q' K' l := by
  unfold pool
  induction l with
  | nil => rfl
  | cons a l ih =>
    rw [List.flatMap_cons, List.flatMap_cons, (h a List.mem_cons_self).1, (h a List.mem_cons_self).2, ih (fun i hi => h i (List.mem_cons_of_mem _ hi))]
def upK (K : Nat → MS) (i : Nat) (M : MS) : Nat → MS := fun j => if j = i then M else K j
