/-! ===== what a fixed run is made of ===== -/
theorem C_undo_e {B : Nat} {A : AS} {c : CS} (h : IC B A c) (hL : A.2.1 = []) : ∃ o : Int32 × CS, oC_undo c = some o ∧ o.1 = -5 ∧ IC B A o.2 := by
  obtain ⟨o, e, h | ⟨L, u, q, -⟩⟩ := C_undo h
  · exact ⟨o, e, h.2.1, h.2.2⟩
  · rw [hL] at q; simp at q
theorem C_undo_l {B : Nat} {A : AS} {c : CS} (h : IC B A c) {L : List RW} {u : RW} (hL : A.2.1 = L ++ [u]) : ∃ o : Int32 × CS, oC_undo c = some o ∧ o.1 = nI L.length ∧ IC B (u, L, A.2.2) o.2 := by
  obtain ⟨o, e, h | ⟨L', u', q, q2, q3⟩⟩ := C_undo h
  · rw [h.1] at hL; simp at hL
  · rw [hL] at q
    obtain ⟨rfl, h2⟩ := List.append_inj' q rfl
    cases h2
    exact ⟨o, e, q2, q3⟩
theorem C_restore_e {B : Nat} {A : AS} {c : CS} (h : IC B A c) {q : Nat} (hq : q < 2) (hs : A.2.2.1 q = none) : ∃ o : Int32 × CS, oC_restore c (nI q) = some o ∧ o.1 = -5 ∧ IC B A o.2 := by
  obtain ⟨o, e, h | ⟨u, k, -⟩⟩ := C_restore h hq
  · exact ⟨o, e, h.2.1, h.2.2⟩
  · rw [hs] at k; cases k
theorem isC_T {B : Nat} {A : AS} {c : CS} (h : IC B A c) {p1 p2 p3 p4 p5 : Int32} (h1 : aq_ofCandidate A p1 1 = some p2) (h2 : aq_ofCandidate A p1 2 = some p3) (h3 : aq_ofCandidate A p1 3 = some p4) (h4 : aq_ofCandidate A p1 4 = some p5) : ∃ o : Int32 × CS, fL_isCandidate c p1 p2 p3 p4 p5 = some o ∧ o.1 = 1 ∧ IC B A o.2 := by
  unfold fL_isCandidate
  obtain ⟨o1, e1, f1, I1⟩ := C_ofCandidate h p1 1
  obtain ⟨o2, e2, f2, I2⟩ := C_ofCandidate I1 p1 2
  obtain ⟨o3, e3, f3, I3⟩ := C_ofCandidate I2 p1 3
  obtain ⟨o4, e4, f4, I4⟩ := C_ofCandidate I3 p1 4
  rw [e1, bd_some, if_pos (aq_v f1 h1), e2, bd_some, if_pos (aq_v f2 h2), e3, bd_some, if_pos (aq_v f3 h3), e4, bd_some, if_pos (aq_v f4 h4)]
  exact ⟨_, rfl, rfl, I4⟩
theorem puts_T {B : Nat} {A : AS} {c : CS} (h : IC B A c) {w : Int64} {v : Int32} {pd : List Int32} (hw : ¬ lg_cmp w 0 = 0) (ck : chkP (fX11_put (pad A.2.2.2) (nI A.2.2.2.length) w) v pd = true) (hv : ¬ v ≤ 0) : ∃ o : Int32 × CS, fL_puts c w = some o ∧ o.1 = 1 ∧ IC B (A.1, A.2.1, A.2.2.1, pd) o.2 := by
  unfold fL_puts
  obtain ⟨o, e, v1, I⟩ := C_put_ok h ck
  rw [if_neg hw, e, bd_some, if_neg (by rw [v1]; exact hv)]
  exact ⟨_, rfl, rfl, I⟩
theorem puts_0 {B : Nat} {A : AS} {c : CS} (h : IC B A c) : ∃ o : Int32 × CS, fL_puts c 0 = some o ∧ o.1 = 1 ∧ IC B A o.2 := by
  unfold fL_puts
  rw [if_pos (by decide)]
  exact ⟨_, rfl, rfl, h⟩
