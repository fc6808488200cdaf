/-! ===== the machines side by side, call by call ===== -/
def INV (i : Nat) (c : CS) (m : MD) : Prop := RM (100 * i) (m.2 0) c.1 ∧ RH (100 * i) (m.2 1) (m.1 2) c.2.1 c.2.2.1 ∧ RSl (100 * i) (m.2 3) c.2.2.2.2.1 (m.2 4) c.2.2.2.1 ∧ RP c.2.2.2.2.2.1 c.2.2.2.2.2.2.1 (m.1 6) (m.2 5) ∧ m.1 7 = 0
theorem INV.up {i : Nat} {c : CS} {m : MD} (h : INV i c m) : INV (i + 1) c m := by
  obtain ⟨hM, hH, hS, hP, hq⟩ := h
  exact ⟨hM.up (by omega), hH.up (by omega), hS.up (by omega), hP, hq⟩
theorem S_start {i : Nat} {c : CS} {m : MD} (hI : INV i c m) (hi : i < 512) (p0 : Int32) (p1 : Int32) (p2 : Int32) : ∃ (o1 : Int32 × CS) (o2 : Int32 × MD), oC_start c p0 p1 p2 = some o1 ∧ oM_start m p0 p1 p2 = some o2 ∧ o1.1 = o2.1 ∧ INV (i + 1) o1.2 o2.2 := by
  obtain ⟨hM, hH, hS, hP, hq⟩ := hI
  obtain ⟨ans, hn, a, ru, ro, f, s, m1, r, en, o, w, K, t, was, sv, e1, e2, e3, e4⟩ := op_start hM hH p0 p1 p2
  unfold oC_start oM_start
  rw [e1, bd_some, hq, e2, bd_some]
  exact ⟨_, _, rfl, rfl, rfl, e3.up (by omega), e4.up (by omega), hS.up (by omega), hP, hq⟩
theorem S_wrap {i : Nat} {c : CS} {m : MD} (hI : INV i c m) (hi : i < 512) (p0 : Int32) : ∃ (o1 : Int32 × CS) (o2 : Int32 × MD), oC_wrap c p0 = some o1 ∧ oM_wrap m p0 = some o2 ∧ o1.1 = o2.1 ∧ INV (i + 1) o1.2 o2.2 := by
  obtain ⟨hM, hH, hS, hP, hq⟩ := hI
  obtain ⟨ans, hn, a, ru, ro, f, s, m1, r, en, o, w, K, t, was, sv, e1, e2, e3, e4⟩ := op_wrap hM hH p0
  unfold oC_wrap oM_wrap
  rw [e1, bd_some, hq, e2, bd_some]
  exact ⟨_, _, rfl, rfl, rfl, e3.up (by omega), e4.up (by omega), hS.up (by omega), hP, hq⟩
theorem S_step {i : Nat} {c : CS} {m : MD} (hI : INV i c m) (hi : i < 512) (p0 : Int32) (p1 : Int32) (p2 : Int32) (p3 : Int32) (p4 : Int32) : ∃ (o1 : Int32 × CS) (o2 : Int32 × MD), oC_step c p0 p1 p2 p3 p4 = some o1 ∧ oM_step m p0 p1 p2 p3 p4 = some o2 ∧ o1.1 = o2.1 ∧ INV (i + 1) o1.2 o2.2 := by
  obtain ⟨hM, hH, hS, hP, hq⟩ := hI
  obtain ⟨ans, hn, ru, ro, sn, g, hh, x, y, k, f, s, m1, r, en, o, w, K, t, was, sv, e1, e2, e3, e4⟩ := op_step hM hH p0 p1 p2 p3 p4
  unfold oC_step oM_step
  rw [e1, bd_some, hq, e2, bd_some]
  exact ⟨_, _, rfl, rfl, rfl, e3.up (by omega), e4.up (by omega), hS.up (by omega), hP, hq⟩
theorem S_drop {i : Nat} {c : CS} {m : MD} (hI : INV i c m) (hi : i < 512) (p0 : Int32) : ∃ (o1 : Int32 × CS) (o2 : Int32 × MD), oC_drop c p0 = some o1 ∧ oM_drop m p0 = some o2 ∧ o1.1 = o2.1 ∧ INV (i + 1) o1.2 o2.2 := by
  obtain ⟨hM, hH, hS, hP, hq⟩ := hI
  obtain ⟨ans, hn, ru, ro, sn, g, hh, x, y, k, f, s, m1, r, en, o, w, K, t, was, sv, e1, e2, e3, e4⟩ := op_drop hM hH p0
  unfold oC_drop oM_drop
  rw [e1, bd_some, hq, e2, bd_some]
  exact ⟨_, _, rfl, rfl, rfl, e3.up (by omega), e4.up (by omega), hS.up (by omega), hP, hq⟩
theorem S_candidate {i : Nat} {c : CS} {m : MD} (hI : INV i c m) (hi : i < 512) (p0 : Int32) : ∃ (o1 : Int32 × CS) (o2 : Int32 × MD), oC_candidate c p0 = some o1 ∧ oM_candidate m p0 = some o2 ∧ o1.1 = o2.1 ∧ INV (i + 1) o1.2 o2.2 := by
  obtain ⟨hM, hH, hS, hP, hq⟩ := hI
  obtain ⟨ans, hn, cn, cc, f, s, m1, r, K, t, was, sv, e1, e2, e3, e4⟩ := op_candidate (by omega) hM hH p0
  unfold oC_candidate oM_candidate
  rw [e1, bd_some, hq, e2, bd_some]
  exact ⟨_, _, rfl, rfl, rfl, e3.up (by omega), e4.up (by omega), hS.up (by omega), hP, hq⟩
theorem S_guess {i : Nat} {c : CS} {m : MD} (hI : INV i c m) (hi : i < 512) (p0 : Int32) : ∃ (o1 : Int32 × CS) (o2 : Int32 × MD), oC_guess c p0 = some o1 ∧ oM_guess m p0 = some o2 ∧ o1.1 = o2.1 ∧ INV (i + 1) o1.2 o2.2 := by
  obtain ⟨hM, hH, hS, hP, hq⟩ := hI
  obtain ⟨ans, hn, cn, cc, f, s, m1, r, K, t, was, sv, e1, e2, e3, e4⟩ := op_guess (by omega) hM hH p0
  unfold oC_guess oM_guess
  rw [e1, bd_some, hq, e2, bd_some]
  exact ⟨_, _, rfl, rfl, rfl, e3.up (by omega), e4.up (by omega), hS.up (by omega), hP, hq⟩
theorem S_run {i : Nat} {c : CS} {m : MD} (hI : INV i c m) (hi : i < 512) (p0 : Int32) (p1 : Int32) : ∃ (o1 : Int32 × CS) (o2 : Int32 × MD), oC_run c p0 p1 = some o1 ∧ oM_run m p0 p1 = some o2 ∧ o1.1 = o2.1 ∧ INV (i + 1) o1.2 o2.2 := by
  obtain ⟨hM, hH, hS, hP, hq⟩ := hI
  obtain ⟨ans, hn, ru, f, s, m1, r, en, o, w, K, t, was, sv, e1, e2, e3, e4⟩ := op_run (by omega) hM hH p0 p1
  unfold oC_run oM_run
  rw [e1, bd_some, hq, e2, bd_some]
  exact ⟨_, _, rfl, rfl, rfl, e3.up (by omega), e4.up (by omega), hS.up (by omega), hP, hq⟩
theorem S_strike {i : Nat} {c : CS} {m : MD} (hI : INV i c m) (hi : i < 512)  : ∃ (o1 : Int32 × CS) (o2 : Int32 × MD), oC_strike c  = some o1 ∧ oM_strike m  = some o2 ∧ o1.1 = o2.1 ∧ INV (i + 1) o1.2 o2.2 := by
  obtain ⟨hM, hH, hS, hP, hq⟩ := hI
  obtain ⟨ans, hn, ro, f, s, m1, r, W, K, t, was, sv, al, e1, e2, e3, e4⟩ := op_strike hM hH (c.2.2.2.2.2.2.2.2.2 1) (m.2 8)
  unfold oC_strike oM_strike
  rw [e1, bd_some, hq, e2, bd_some]
  exact ⟨_, _, rfl, rfl, rfl, e3.up (by omega), e4.up (by omega), hS.up (by omega), hP, hq⟩
theorem S_settle {i : Nat} {c : CS} {m : MD} (hI : INV i c m) (hi : i < 512)  : ∃ (o1 : Int32 × CS) (o2 : Int32 × MD), oC_settle c  = some o1 ∧ oM_settle m  = some o2 ∧ o1.1 = o2.1 ∧ INV (i + 1) o1.2 o2.2 := by
  obtain ⟨hM, hH, hS, hP, hq⟩ := hI
  obtain ⟨ans, hn, ro, f, s, m1, r, W, K, t, was, sv, al, e1, e2, e3, e4⟩ := op_settle hM hH (c.2.2.2.2.2.2.2.2.2 1) (m.2 8)
  unfold oC_settle oM_settle
  rw [e1, bd_some, hq, e2, bd_some]
  exact ⟨_, _, rfl, rfl, rfl, e3.up (by omega), e4.up (by omega), hS.up (by omega), hP, hq⟩
theorem S_claim {i : Nat} {c : CS} {m : MD} (hI : INV i c m) (hi : i < 512) (p0 : Int32) (p1 : Int32) (p2 : Int32) (p3 : Int32) : ∃ (o1 : Int32 × CS) (o2 : Int32 × MD), oC_claim c p0 p1 p2 p3 = some o1 ∧ oM_claim m p0 p1 p2 p3 = some o2 ∧ o1.1 = o2.1 ∧ INV (i + 1) o1.2 o2.2 := by
  obtain ⟨hM, hH, hS, hP, hq⟩ := hI
  obtain ⟨ans, e1, e2⟩ := q_claim p0 p1 p2 p3
  unfold oC_claim oM_claim
  rw [e1, bd_some, e2, bd_some]
  exact ⟨_, _, rfl, rfl, rfl, hM.up (by omega), hH.up (by omega), hS.up (by omega), hP, hq⟩
theorem S_holds {i : Nat} {c : CS} {m : MD} (hI : INV i c m) (hi : i < 512) (p0 : Int32) (p1 : Int32) : ∃ (o1 : Int32 × CS) (o2 : Int32 × MD), oC_holds c p0 p1 = some o1 ∧ oM_holds m p0 p1 = some o2 ∧ o1.1 = o2.1 ∧ INV (i + 1) o1.2 o2.2 := by
  obtain ⟨hM, hH, hS, hP, hq⟩ := hI
  obtain ⟨ans, e1, e2⟩ := q_holds p0 p1
  unfold oC_holds oM_holds
  rw [e1, bd_some, e2, bd_some]
  exact ⟨_, _, rfl, rfl, rfl, hM.up (by omega), hH.up (by omega), hS.up (by omega), hP, hq⟩
theorem S_ofStep {i : Nat} {c : CS} {m : MD} (hI : INV i c m) (hi : i < 512) (p0 : Int32) (p1 : Int32) : ∃ (o1 : Int32 × CS) (o2 : Int32 × MD), oC_ofStep c p0 p1 = some o1 ∧ oM_ofStep m p0 p1 = some o2 ∧ o1.1 = o2.1 ∧ INV (i + 1) o1.2 o2.2 := by
  obtain ⟨hM, hH, hS, hP, hq⟩ := hI
  obtain ⟨ans, a1, a2, a3, e1, e2⟩ := q_ofStep hM (c.2.2.2.2.2.2.2.2.2 0) (c.2.2.2.2.2.2.2.2.2 1) (m.2 8) p0 p1
  unfold oC_ofStep oM_ofStep
  rw [e1, bd_some, e2, bd_some]
  exact ⟨_, _, rfl, rfl, rfl, hM.up (by omega), hH.up (by omega), hS.up (by omega), hP, hq⟩
theorem S_leads {i : Nat} {c : CS} {m : MD} (hI : INV i c m) (hi : i < 512) (p0 : Int32) (p1 : Int32) : ∃ (o1 : Int32 × CS) (o2 : Int32 × MD), oC_leads c p0 p1 = some o1 ∧ oM_leads m p0 p1 = some o2 ∧ o1.1 = o2.1 ∧ INV (i + 1) o1.2 o2.2 := by
  obtain ⟨hM, hH, hS, hP, hq⟩ := hI
  obtain ⟨ans, e1, e2⟩ := q_leads hM p0 p1
  unfold oC_leads oM_leads
  rw [e1, bd_some, e2, bd_some]
  exact ⟨_, _, rfl, rfl, rfl, hM.up (by omega), hH.up (by omega), hS.up (by omega), hP, hq⟩
theorem S_ofCandidate {i : Nat} {c : CS} {m : MD} (hI : INV i c m) (hi : i < 512) (p0 : Int32) (p1 : Int32) : ∃ (o1 : Int32 × CS) (o2 : Int32 × MD), oC_ofCandidate c p0 p1 = some o1 ∧ oM_ofCandidate m p0 p1 = some o2 ∧ o1.1 = o2.1 ∧ INV (i + 1) o1.2 o2.2 := by
  obtain ⟨hM, hH, hS, hP, hq⟩ := hI
  obtain ⟨ans, e1, e2⟩ := q_ofCandidate hM p0 p1
  unfold oC_ofCandidate oM_ofCandidate
  rw [e1, bd_some, e2, bd_some]
  exact ⟨_, _, rfl, rfl, rfl, hM.up (by omega), hH.up (by omega), hS.up (by omega), hP, hq⟩
theorem S_count {i : Nat} {c : CS} {m : MD} (hI : INV i c m) (hi : i < 512) (p0 : Int32) : ∃ (o1 : Int32 × CS) (o2 : Int32 × MD), oC_count c p0 = some o1 ∧ oM_count m p0 = some o2 ∧ o1.1 = o2.1 ∧ INV (i + 1) o1.2 o2.2 := by
  obtain ⟨hM, hH, hS, hP, hq⟩ := hI
  have hsv : m.1 2 = c.2.1 := by
    obtain ⟨hn, -, h2, h3, -⟩ := hH
    rw [h2, h3]
  have hpl : m.1 6 = c.2.2.2.2.2.1 := by
    obtain ⟨l, -, h2, h3, -⟩ := hP
    rw [h2, h3]
  obtain ⟨ans, a1, a2, a3, a4, a5, a6, e1, e2⟩ := q_count hM c.2.1 c.2.2.2.2.2.1 (c.2.2.2.2.2.2.2.2.2 1) (c.2.2.2.2.2.2.2.2.2 2) (c.2.2.2.2.2.2.2.2.1 0) (m.2 8) (m.2 9) (m.2 10) p0
  unfold oC_count oM_count
  rw [e1, bd_some, hsv, hpl, e2, bd_some]
  exact ⟨_, _, rfl, rfl, rfl, hM.up (by omega), hH.up (by omega), hS.up (by omega), hP, hq⟩
theorem S_ofState {i : Nat} {c : CS} {m : MD} (hI : INV i c m) (hi : i < 512) (p0 : Int32) : ∃ (o1 : Int32 × CS) (o2 : Int32 × MD), oC_ofState c p0 = some o1 ∧ oM_ofState m p0 = some o2 ∧ o1.1 = o2.1 ∧ INV (i + 1) o1.2 o2.2 := by
  obtain ⟨hM, hH, hS, hP, hq⟩ := hI
  obtain ⟨ans, a1, a2, a3, a4, e1, e2⟩ := q_ofState hM (c.2.2.2.2.2.2.2.2.2 2) (c.2.2.2.2.2.2.2.2.1 0) (m.2 9) (m.2 10) p0
  unfold oC_ofState oM_ofState
  rw [e1, bd_some, e2, bd_some]
  exact ⟨_, _, rfl, rfl, rfl, hM.up (by omega), hH.up (by omega), hS.up (by omega), hP, hq⟩
theorem S_proves {i : Nat} {c : CS} {m : MD} (hI : INV i c m) (hi : i < 512) (p0 : Int32) : ∃ (o1 : Int32 × CS) (o2 : Int32 × MD), oC_proves c p0 = some o1 ∧ oM_proves m p0 = some o2 ∧ o1.1 = o2.1 ∧ INV (i + 1) o1.2 o2.2 := by
  obtain ⟨hM, hH, hS, hP, hq⟩ := hI
  obtain ⟨ans, a1, a2, e1, e2⟩ := q_proves hM (c.2.2.2.2.2.2.2.2.2 1) (m.2 8) p0
  unfold oC_proves oM_proves
  rw [e1, bd_some, e2, bd_some]
  exact ⟨_, _, rfl, rfl, rfl, hM.up (by omega), hH.up (by omega), hS.up (by omega), hP, hq⟩
theorem S_witness {i : Nat} {c : CS} {m : MD} (hI : INV i c m) (hi : i < 512) (p0 : Int32) : ∃ (o1 : Int32 × CS) (o2 : Int32 × MD), oC_witness c p0 = some o1 ∧ oM_witness m p0 = some o2 ∧ o1.1 = o2.1 ∧ INV (i + 1) o1.2 o2.2 := by
  obtain ⟨hM, hH, hS, hP, hq⟩ := hI
  obtain ⟨ans, a1, e1, e2⟩ := q_witness hM (c.2.2.2.2.2.2.2.2.2 1) p0
  unfold oC_witness oM_witness
  rw [e1, bd_some, e2, bd_some]
  exact ⟨_, _, rfl, rfl, rfl, hM.up (by omega), hH.up (by omega), hS.up (by omega), hP, hq⟩
theorem S_isTrue {i : Nat} {c : CS} {m : MD} (hI : INV i c m) (hi : i < 512) (p0 : Int32) : ∃ (o1 : Int32 × CS) (o2 : Int32 × MD), oC_isTrue c p0 = some o1 ∧ oM_isTrue m p0 = some o2 ∧ o1.1 = o2.1 ∧ INV (i + 1) o1.2 o2.2 := by
  obtain ⟨hM, hH, hS, hP, hq⟩ := hI
  obtain ⟨ans, a1, a2, a3, a4, e1, e2⟩ := q_isTrue hM (c.2.2.2.2.2.2.2.2.2 2) (c.2.2.2.2.2.2.2.2.1 0) (m.2 9) (m.2 10) p0
  unfold oC_isTrue oM_isTrue
  rw [e1, bd_some, e2, bd_some]
  exact ⟨_, _, rfl, rfl, rfl, hM.up (by omega), hH.up (by omega), hS.up (by omega), hP, hq⟩
theorem S_needless {i : Nat} {c : CS} {m : MD} (hI : INV i c m) (hi : i < 512)  : ∃ (o1 : Int64 × CS) (o2 : Int64 × MD), oC_needless c  = some o1 ∧ oM_needless m  = some o2 ∧ o1.1 = o2.1 ∧ INV (i + 1) o1.2 o2.2 := by
  obtain ⟨hM, hH, hS, hP, hq⟩ := hI
  obtain ⟨ans, e1, e2⟩ := q_needless hM
  unfold oC_needless oM_needless
  rw [e1, bd_some, e2, bd_some]
  exact ⟨_, _, rfl, rfl, rfl, hM.up (by omega), hH.up (by omega), hS.up (by omega), hP, hq⟩
theorem S_core {i : Nat} {c : CS} {m : MD} (hI : INV i c m) (hi : i < 512) (p0 : Int32) : ∃ (o1 : Int64 × CS) (o2 : Int64 × MD), oC_core c p0 = some o1 ∧ oM_core m p0 = some o2 ∧ o1.1 = o2.1 ∧ INV (i + 1) o1.2 o2.2 := by
  obtain ⟨hM, hH, hS, hP, hq⟩ := hI
  obtain ⟨ans, a1, a2, a3, e1, e2⟩ := q_core hM (c.2.2.2.2.2.2.2.2.2 1) (c.2.2.2.2.2.2.2.2.1 1) (m.2 8) p0
  unfold oC_core oM_core
  rw [e1, bd_some, e2, bd_some]
  exact ⟨_, _, rfl, rfl, rfl, hM.up (by omega), hH.up (by omega), hS.up (by omega), hP, hq⟩
theorem S_put {i : Nat} {c : CS} {m : MD} (hI : INV i c m) (hi : i < 512) (p0 : Int64) : ∃ (o1 : Int32 × CS) (o2 : Int32 × MD), oC_put c p0 = some o1 ∧ oM_put m p0 = some o2 ∧ o1.1 = o2.1 ∧ INV (i + 1) o1.2 o2.2 := by
  obtain ⟨hM, hH, hS, hP, hq⟩ := hI
  obtain ⟨ans, pn, ps, tl, tp, e1, e2, e3⟩ := op_put hP p0
  unfold oC_put oM_put
  rw [e1, bd_some, e2, bd_some]
  exact ⟨_, _, rfl, rfl, rfl, hM.up (by omega), hH.up (by omega), hS.up (by omega), e3, hq⟩
theorem S_wipe {i : Nat} {c : CS} {m : MD} (hI : INV i c m) (hi : i < 512)  : ∃ (o1 : Int32 × CS) (o2 : Int32 × MD), oC_wipe c  = some o1 ∧ oM_wipe m  = some o2 ∧ o1.1 = o2.1 ∧ INV (i + 1) o1.2 o2.2 := by
  obtain ⟨hM, hH, hS, hP, hq⟩ := hI
  have hpl : m.1 6 = c.2.2.2.2.2.1 := by
    obtain ⟨l, -, h2, h3, -⟩ := hP
    rw [h2, h3]
  unfold oC_wipe oM_wipe fX10_wipe fX11_wipe
  rw [bd_some, bd_some]
  exact ⟨_, _, rfl, rfl, hpl.symm, hM.up (by omega), hH.up (by omega), hS.up (by omega), ⟨0, Nat.zero_le _, rfl, rfl, fun j hj => absurd hj (Nat.not_lt_zero _)⟩, hq⟩
theorem S_fault {i : Nat} {c : CS} {m : MD} (hI : INV i c m) (hi : i < 512)  : ∃ (o1 : Int32 × CS) (o2 : Int32 × MD), oC_fault c  = some o1 ∧ oM_fault m  = some o2 ∧ o1.1 = o2.1 ∧ INV (i + 1) o1.2 o2.2 := by
  obtain ⟨hM, hH, hS, hP, hq⟩ := hI
  unfold oC_fault oM_fault
  obtain ⟨ans, r, r', e1, e2⟩ := op_fault hP (c.2.2.2.2.2.2.2.1 1) (c.2.2.2.2.2.2.2.1 2) (c.2.2.2.2.2.2.2.1 3) (c.2.2.2.2.2.2.2.1 4) (c.2.2.2.2.2.2.2.1 5) (c.2.2.2.2.2.2.2.1 6) (c.2.2.2.2.2.2.2.1 7) (c.2.2.2.2.2.2.2.1 8) (m.1 12) (m.1 13) (m.1 14) (m.1 15) (m.1 16) (m.1 17) (m.1 18) (m.1 19) (m.1 20)
  rw [e1, bd_some, e2, bd_some]
  exact ⟨_, _, rfl, rfl, rfl, hM.up (by omega), hH.up (by omega), hS.up (by omega), hP, hq⟩
theorem S_carryOut {i : Nat} {c : CS} {m : MD} (hI : INV i c m) (hi : i < 512)  : ∃ (o1 : Int32 × CS) (o2 : Int32 × MD), oC_carryOut c  = some o1 ∧ oM_carryOut m  = some o2 ∧ o1.1 = o2.1 ∧ INV (i + 1) o1.2 o2.2 := by
  obtain ⟨hM, hH, hS, hP, hq⟩ := hI
  unfold oC_carryOut oM_carryOut
  obtain ⟨ans, hn', ru, ro, sn, g, hh, x, y, k, cn, cc, cf, cs, cm, cr, en, eo, we, wl', at0, o1, o2, o3, o4, o5, o6, o7, o8, pn', K', sv', tl', at', n1, n2, n3, n4, n5, n6, n7, n8, n9, t', was', al', e1, e2, e3, e4, e5⟩ := op_carry (by omega) hM hH hP (c.2.2.2.2.2.2.2.2.2 1) (m.2 8) (c.2.2.2.2.2.2.2.1 1) (c.2.2.2.2.2.2.2.1 2) (c.2.2.2.2.2.2.2.1 3) (c.2.2.2.2.2.2.2.1 4) (c.2.2.2.2.2.2.2.1 5) (c.2.2.2.2.2.2.2.1 6) (c.2.2.2.2.2.2.2.1 7) (c.2.2.2.2.2.2.2.1 8) (m.1 12) (m.1 13) (m.1 14) (m.1 15) (m.1 16) (m.1 17) (m.1 18) (m.1 19) (m.1 20)
  rw [e1, bd_some, hq, e2, bd_some]
  exact ⟨_, _, rfl, rfl, rfl, e3.up (by omega), e4.up (by omega), hS.up (by omega), e5, rfl⟩
theorem S_undo {i : Nat} {c : CS} {m : MD} (hI : INV i c m) (hi : i < 512)  : ∃ (o1 : Int32 × CS) (o2 : Int32 × MD), oC_undo c  = some o1 ∧ oM_undo m  = some o2 ∧ o1.1 = o2.1 ∧ INV (i + 1) o1.2 o2.2 := by
  obtain ⟨hM, hH, hS, hP, hq⟩ := hI
  obtain ⟨ans, hn', N, t', sv', e1, e2, e3, e4⟩ := op_undo hM hH
  unfold oC_undo oM_undo
  rw [e1, bd_some, e2, bd_some]
  exact ⟨_, _, rfl, rfl, rfl, e3.sn.up (by omega), e4.up (by omega), hS.up (by omega), hP, hq⟩
theorem S_save {i : Nat} {c : CS} {m : MD} (hI : INV i c m) (hi : i < 512) (p0 : Int32) : ∃ (o1 : Int32 × CS) (o2 : Int32 × MD), oC_save c p0 = some o1 ∧ oM_save m p0 = some o2 ∧ o1.1 = o2.1 ∧ INV (i + 1) o1.2 o2.2 := by
  obtain ⟨hM, hH, hS, hP, hq⟩ := hI
  obtain ⟨ans, fi, SL, sl, tf, e1, e2, e3⟩ := op_save hM hS p0
  unfold oC_save oM_save
  rw [e1, bd_some, e2, bd_some]
  exact ⟨_, _, rfl, rfl, rfl, hM.up (by omega), hH.up (by omega), e3.up (by omega), hP, hq⟩
theorem S_restore {i : Nat} {c : CS} {m : MD} (hI : INV i c m) (hi : i < 512) (p0 : Int32) : ∃ (o1 : Int32 × CS) (o2 : Int32 × MD), oC_restore c p0 = some o1 ∧ oM_restore m p0 = some o2 ∧ o1.1 = o2.1 ∧ INV (i + 1) o1.2 o2.2 := by
  obtain ⟨hM, hH, hS, hP, hq⟩ := hI
  obtain ⟨ans, hn', N, K', t', was', sv', e1, e2, e3, e4⟩ := op_restore hM hH hS p0
  unfold oC_restore oM_restore
  rw [e1, bd_some, hq, e2, bd_some]
  exact ⟨_, _, rfl, rfl, rfl, e3.sn.up (by omega), e4.up (by omega), hS.up (by omega), hP, hq⟩
theorem S_new : ∃ (o : Int32 × (Nat → Int32) × (Nat → Int64)) (r : Nat → Int32), beg0 o ∧ fX11_begins (fun _ => 0) = some r ∧ INV 0 (C0 o) ((fun _ => 0, fun i => match i with | 0 => r | _ => fun _ => 0)) := by
  obtain ⟨o1, w1, b1, -, -⟩ := beginAt_eq (fun _ => 0) (fun _ => 0) (s := 0) (by decide)
  obtain ⟨t', f', s', m', r', o', w', g1, g2, g3, g4⟩ := begin_RM (B := 0) (t := fun _ => 0) (s := 0) (ns := 0) (nc := 0) (w := 0) (s_g := fun _ => 0) (s_h := fun _ => 0) (s_x := fun _ => 0) (s_y := fun _ => 0) (s_k := fun _ => 0) (c_c := fun _ => 0) (c_f := fun _ => 0) (c_s := fun _ => 0) (c_m := fun _ => 0) (c_r := fun _ => 0) (e_o := fun _ => 0) (we := fun _ => 0) (by decide) (Or.inl rfl) (by decide) (by decide) rfl rfl rfl rfl (fun i hi => absurd hi (Nat.not_lt_zero _)) (fun c hc => absurd hc (Nat.not_lt_zero _))
  have hb : fX3_beginAnew (nI 0) (nI 0) (fun _ => 0) (fun _ => 0) (fun _ => 0) (fun _ => 0) (fun _ => 0) (fun _ => 0) (fun _ => 0) = some (0, 0, (fun _ => 0), (fun _ => 0), (fun _ => 0), (fun _ => 0), 1, o1, w1) := by
    unfold fX3_beginAnew
    have k : iter (gX3_beginAnew_23 (nI 0) (nI 0) (fun _ => 0) (1, o1, w1)) FU ((0 : Int32), (fun _ => (0 : Int32)), (fun _ => (0 : Int32)), (fun _ => (0 : Int32)), (fun _ => (0 : Int32))) = some ((0 : Int32), (fun _ => (0 : Int32)), (fun _ => (0 : Int32)), (fun _ => (0 : Int32)), (fun _ => (0 : Int32))) := iter_e (by
      unfold gX3_beginAnew_23
      dsimp only
      rw [if_pos (show nI 0 ≤ (0 : Int32) by decide)]) (by decide)
    rw [b1, bd_some, k, bd_some]
  rw [hb] at g2
  have g2 := Option.some.inj g2
  simp only [Prod.mk.injEq] at g2
  obtain ⟨-, -, rfl, rfl, rfl, rfl, -, rfl, rfl⟩ := g2
  exact ⟨(1, o1, w1), t', b1, g1, g4, ⟨0, Nat.zero_le _, rfl, rfl, fun i hi => absurd hi (Nat.not_lt_zero _)⟩, fun q _ => ⟨rfl, Or.inl rfl⟩, ⟨0, Nat.zero_le _, rfl, rfl, fun j hj => absurd hj (Nat.not_lt_zero _)⟩, rfl⟩
