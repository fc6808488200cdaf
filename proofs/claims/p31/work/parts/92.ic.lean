/-! ===== an object, by what it holds: the picture that is, the pictures that are kept, the slots, the text ===== -/
abbrev AS : Type := RW × List RW × (Nat → Option RW) × List Int32
def SLR (B : Nat) (sl : Nat → Option RW) (fi : Nat → Int32) (SL : Nat → MS) : Prop := ∀ q, q < 2 → (sl q = none → fi q = 0) ∧ ∀ u, sl q = some u → ¬ fi q = 0 ∧ RM B u (SL q)
theorem SLR.up {B B' : Nat} {sl : Nat → Option RW} {fi : Nat → Int32} {SL : Nat → MS} (h : SLR B sl fi SL) (hB : B ≤ B') : SLR B' sl fi SL := fun q hq => ⟨(h q hq).1, fun u hu => ⟨((h q hq).2 u hu).1, ((h q hq).2 u hu).2.up hB⟩⟩
def pad (pd : List Int32) : Nat → Int32 := fun j => pd.getD j 0
def PD (pd : List Int32) (p_n : Int32) (p_s : Nat → Int32) : Prop := RP p_n p_s (nI pd.length) (pad pd)
def IC (B : Nat) (A : AS) (c : CS) : Prop := RM B A.1 c.1 ∧ HH B A.2.1 c.2.1 c.2.2.1 ∧ SLR B A.2.2.1 c.2.2.2.2.1 c.2.2.2.1 ∧ PD A.2.2.2 c.2.2.2.2.2.1 c.2.2.2.2.2.2.1
theorem IC.up {B B' : Nat} {A : AS} {c : CS} (h : IC B A c) (hB : B ≤ B') : IC B' A c := ⟨h.1.up hB, h.2.1.up hB, h.2.2.1.up hB, h.2.2.2⟩
/-- what a recording call gives: v its answer by the reference's row t' -/
def RO (B B' : Nat) (A : AS) (t' : RW) (o : Int32 × CS) : Prop := (o.1 < 0 ∧ t' = A.1 ∧ IC B A o.2) ∨ (0 ≤ o.1 ∧ IC B' (t', push A.2.1 A.1, A.2.2) o.2)
theorem RO.of {B : Nat} {A : AS} {t' : RW} {o : Int32 × CS} {K : Nat → MS} {hn : Int32} (hM : RM B t' o.2.1) (hH : HD B A.2.1 A.1 t' o.1 hn K) (e1 : o.2.2.1 = hn) (e2 : o.2.2.2.1 = K) (hS : SLR B A.2.2.1 o.2.2.2.2.2.1 o.2.2.2.2.1) (hP : PD A.2.2.2 o.2.2.2.2.2.2.1 o.2.2.2.2.2.2.2.1) : RO B B A t' o := by
  subst e1; subst e2
  rcases hH with ⟨q1, q2, q3⟩ | ⟨q1, q2⟩
  · exact Or.inl ⟨q1, q2, by rw [← q2]; exact hM, q3, hS, hP⟩
  · exact Or.inr ⟨q1, hM, q2, hS, hP⟩
theorem C_start {B : Nat} {A : AS} {c : CS} (h : IC B A c) (p0 : Int32) (p1 : Int32) (p2 : Int32) : ∃ (o : Int32 × CS) (t' : RW), oC_start c p0 p1 p2 = some o ∧ fX11_start A.1 zR 0 1 p0 p1 p2 = some (o.1, 0, t', zR) ∧ RO B B A t' o := by
  obtain ⟨hM, hH, hS, hP⟩ := h
  obtain ⟨ans, hn, a, ru, ro, f, s, m1, r, en, oo, w, K, t, e1, e2, e3, e4⟩ := H_start hM hH  p0 p1 p2
  unfold oC_start
  rw [e1, bd_some]
  exact ⟨_, t, rfl, e2, .of e3 e4 rfl rfl hS hP⟩
theorem C_wrap {B : Nat} {A : AS} {c : CS} (h : IC B A c) (p0 : Int32) : ∃ (o : Int32 × CS) (t' : RW), oC_wrap c p0 = some o ∧ fX11_wrap A.1 zR 0 1 p0 = some (o.1, 0, t', zR) ∧ RO B B A t' o := by
  obtain ⟨hM, hH, hS, hP⟩ := h
  obtain ⟨ans, hn, a, ru, ro, f, s, m1, r, en, oo, w, K, t, e1, e2, e3, e4⟩ := H_wrap hM hH  p0
  unfold oC_wrap
  rw [e1, bd_some]
  exact ⟨_, t, rfl, e2, .of e3 e4 rfl rfl hS hP⟩
theorem C_step {B : Nat} {A : AS} {c : CS} (h : IC B A c) (p0 : Int32) (p1 : Int32) (p2 : Int32) (p3 : Int32) (p4 : Int32) : ∃ (o : Int32 × CS) (t' : RW), oC_step c p0 p1 p2 p3 p4 = some o ∧ fX11_step A.1 zR 0 1 p0 p1 p2 p3 p4 = some (o.1, 0, t', zR) ∧ RO B B A t' o := by
  obtain ⟨hM, hH, hS, hP⟩ := h
  obtain ⟨ans, hn, ru, ro, sn, g, hh, x, y, k, f, s, m1, r, en, oo, w, K, t, e1, e2, e3, e4⟩ := H_step hM hH  p0 p1 p2 p3 p4
  unfold oC_step
  rw [e1, bd_some]
  exact ⟨_, t, rfl, e2, .of e3 e4 rfl rfl hS hP⟩
theorem C_drop {B : Nat} {A : AS} {c : CS} (h : IC B A c) (p0 : Int32) : ∃ (o : Int32 × CS) (t' : RW), oC_drop c p0 = some o ∧ fX11_drop A.1 zR 0 1 p0 = some (o.1, 0, t', zR) ∧ RO B B A t' o := by
  obtain ⟨hM, hH, hS, hP⟩ := h
  obtain ⟨ans, hn, ru, ro, sn, g, hh, x, y, k, f, s, m1, r, en, oo, w, K, t, e1, e2, e3, e4⟩ := H_drop hM hH  p0
  unfold oC_drop
  rw [e1, bd_some]
  exact ⟨_, t, rfl, e2, .of e3 e4 rfl rfl hS hP⟩
theorem C_candidate {B : Nat} {A : AS} {c : CS} (hB : B < 4000000) (h : IC B A c) (p0 : Int32) : ∃ (o : Int32 × CS) (t' : RW), oC_candidate c p0 = some o ∧ fX11_candidate A.1 zR 0 1 p0 = some (o.1, 0, t', zR) ∧ RO B B A t' o := by
  obtain ⟨hM, hH, hS, hP⟩ := h
  obtain ⟨ans, hn, cn, cc, f, s, m1, r, K, t, e1, e2, e3, e4⟩ := H_candidate hB hM hH  p0
  unfold oC_candidate
  rw [e1, bd_some]
  exact ⟨_, t, rfl, e2, .of e3 e4 rfl rfl hS hP⟩
theorem C_guess {B : Nat} {A : AS} {c : CS} (hB : B < 4000000) (h : IC B A c) (p0 : Int32) : ∃ (o : Int32 × CS) (t' : RW), oC_guess c p0 = some o ∧ fX11_guess A.1 zR 0 1 p0 = some (o.1, 0, t', zR) ∧ RO B B A t' o := by
  obtain ⟨hM, hH, hS, hP⟩ := h
  obtain ⟨ans, hn, cn, cc, f, s, m1, r, K, t, e1, e2, e3, e4⟩ := H_guess hB hM hH  p0
  unfold oC_guess
  rw [e1, bd_some]
  exact ⟨_, t, rfl, e2, .of e3 e4 rfl rfl hS hP⟩
theorem C_strike {B : Nat} {A : AS} {c : CS} (h : IC B A c) : ∃ (o : Int32 × CS) (t' al : RW), oC_strike c  = some o ∧ fX11_strike A.1 zR 0 1 zR = some (o.1, 0, t', zR, al) ∧ RO B B A t' o := by
  obtain ⟨hM, hH, hS, hP⟩ := h
  obtain ⟨ans, hn, ro, f, s, m1, r, W, K, t, al, e1, e2, e3, e4⟩ := H_strike hM hH (c.2.2.2.2.2.2.2.2.2 1) zR 
  unfold oC_strike
  rw [e1, bd_some]
  exact ⟨_, t, al, rfl, e2, .of e3 e4 rfl rfl hS hP⟩
theorem C_settle {B : Nat} {A : AS} {c : CS} (h : IC B A c) : ∃ (o : Int32 × CS) (t' al : RW), oC_settle c  = some o ∧ fX11_settle A.1 zR 0 1 zR = some (o.1, 0, t', zR, al) ∧ RO B B A t' o := by
  obtain ⟨hM, hH, hS, hP⟩ := h
  obtain ⟨ans, hn, ro, f, s, m1, r, W, K, t, al, e1, e2, e3, e4⟩ := H_settle hM hH (c.2.2.2.2.2.2.2.2.2 1) zR 
  unfold oC_settle
  rw [e1, bd_some]
  exact ⟨_, t, al, rfl, e2, .of e3 e4 rfl rfl hS hP⟩
theorem C_run {B : Nat} {A : AS} {c : CS} (hB : B < 4000000) (h : IC B A c) (p0 p1 : Int32) : ∃ (o : Int32 × CS) (t' : RW), oC_run c p0 p1 = some o ∧ fX11_run A.1 zR 0 1 p0 p1 = some (o.1, 0, t', zR) ∧ RO B (B + 1) A t' o := by
  obtain ⟨hM, hH, hS, hP⟩ := h
  obtain ⟨K1, k1, k2, k4⟩ := hprep hH hM.sn
  unfold oC_run fX10_run
  rw [k1, bd_some]
  rcases run_both hB hM.sn p0 p1 with ⟨ans, hneg, e1, e2⟩ | ⟨ans, ru', f, s, m, r, en', eo', we', t', hpos, e1, e2, e3⟩
  · rw [e1, bd_some, confirm_neg hneg, bd_some, bd_some]
    exact ⟨_, _, rfl, e2 zR 0 1, Or.inl ⟨hneg, rfl, hM.sn, k2, hS, hP⟩⟩
  · obtain ⟨h', K2, k5, k6⟩ := k4 ans hpos
    rw [e1, bd_some, k5, bd_some, bd_some]
    exact ⟨_, t', rfl, by rw [e3, quiet1, bd_some], Or.inr ⟨hpos, e2, k6.up (by omega), hS.up (by omega), hP⟩⟩
/-- what claim answers, by the picture alone -/
def aq_claim  (p0 : Int32) (p1 : Int32) (p2 : Int32) (p3 : Int32) : Option Int32 := fX11_claim p0 p1 p2 p3
theorem C_claim {B : Nat} {A : AS} {c : CS} (h : IC B A c) (p0 : Int32) (p1 : Int32) (p2 : Int32) (p3 : Int32) : ∃ o : Int32 × CS, oC_claim c p0 p1 p2 p3 = some o ∧ aq_claim  p0 p1 p2 p3 = some o.1 ∧ IC B A o.2 := by
  obtain ⟨hM, hH, hS, hP⟩ := h
  obtain ⟨ans, e1, e2⟩ := q_claim p0 p1 p2 p3
  unfold oC_claim
  rw [e1, bd_some]
  exact ⟨_, rfl, by unfold aq_claim; rw [e2], hM, hH, hS, hP⟩
/-- what holds answers, by the picture alone -/
def aq_holds  (p0 : Int32) (p1 : Int32) : Option Int32 := fX11_holds p0 p1
theorem C_holds {B : Nat} {A : AS} {c : CS} (h : IC B A c) (p0 : Int32) (p1 : Int32) : ∃ o : Int32 × CS, oC_holds c p0 p1 = some o ∧ aq_holds  p0 p1 = some o.1 ∧ IC B A o.2 := by
  obtain ⟨hM, hH, hS, hP⟩ := h
  obtain ⟨ans, e1, e2⟩ := q_holds p0 p1
  unfold oC_holds
  rw [e1, bd_some]
  exact ⟨_, rfl, by unfold aq_holds; rw [e2], hM, hH, hS, hP⟩
/-- what ofStep answers, by the picture alone -/
def aq_ofStep (A : AS) (p0 : Int32) (p1 : Int32) : Option Int32 := bd (fX11_ofStep A.1 zR p0 p1) fun o => some o.1
theorem C_ofStep {B : Nat} {A : AS} {c : CS} (h : IC B A c) (p0 : Int32) (p1 : Int32) : ∃ o : Int32 × CS, oC_ofStep c p0 p1 = some o ∧ aq_ofStep A p0 p1 = some o.1 ∧ IC B A o.2 := by
  obtain ⟨hM, hH, hS, hP⟩ := h
  obtain ⟨ans, a1, a2, a3, e1, e2⟩ := q_ofStep hM (c.2.2.2.2.2.2.2.2.2 0) (c.2.2.2.2.2.2.2.2.2 1) zR p0 p1
  unfold oC_ofStep
  rw [e1, bd_some]
  exact ⟨_, rfl, by unfold aq_ofStep; rw [e2, bd_some], hM, hH, hS, hP⟩
/-- what leads answers, by the picture alone -/
def aq_leads (A : AS) (p0 : Int32) (p1 : Int32) : Option Int32 := fX11_leads A.1 p0 p1
theorem C_leads {B : Nat} {A : AS} {c : CS} (h : IC B A c) (p0 : Int32) (p1 : Int32) : ∃ o : Int32 × CS, oC_leads c p0 p1 = some o ∧ aq_leads A p0 p1 = some o.1 ∧ IC B A o.2 := by
  obtain ⟨hM, hH, hS, hP⟩ := h
  obtain ⟨ans, e1, e2⟩ := q_leads hM p0 p1
  unfold oC_leads
  rw [e1, bd_some]
  exact ⟨_, rfl, by unfold aq_leads; rw [e2], hM, hH, hS, hP⟩
/-- what ofCandidate answers, by the picture alone -/
def aq_ofCandidate (A : AS) (p0 : Int32) (p1 : Int32) : Option Int32 := fX11_ofCandidate A.1 p0 p1
theorem C_ofCandidate {B : Nat} {A : AS} {c : CS} (h : IC B A c) (p0 : Int32) (p1 : Int32) : ∃ o : Int32 × CS, oC_ofCandidate c p0 p1 = some o ∧ aq_ofCandidate A p0 p1 = some o.1 ∧ IC B A o.2 := by
  obtain ⟨hM, hH, hS, hP⟩ := h
  obtain ⟨ans, e1, e2⟩ := q_ofCandidate hM p0 p1
  unfold oC_ofCandidate
  rw [e1, bd_some]
  exact ⟨_, rfl, by unfold aq_ofCandidate; rw [e2], hM, hH, hS, hP⟩
/-- what count answers, by the picture alone -/
def aq_count (A : AS) (p0 : Int32) : Option Int32 := bd (fX11_count A.1 (nI A.2.1.length) (nI A.2.2.2.length) zR zR zR p0) fun o => some o.1
theorem C_count {B : Nat} {A : AS} {c : CS} (h : IC B A c) (p0 : Int32) : ∃ o : Int32 × CS, oC_count c p0 = some o ∧ aq_count A p0 = some o.1 ∧ IC B A o.2 := by
  obtain ⟨hM, hH, hS, hP⟩ := h
  have hsv : nI A.2.1.length = c.2.1 := hH.2.1.symm
  have hpl : nI A.2.2.2.length = c.2.2.2.2.2.1 := by
    obtain ⟨l, -, h2, h3, -⟩ := hP
    rw [h2, h3]
  obtain ⟨ans, a1, a2, a3, a4, a5, a6, e1, e2⟩ := q_count hM c.2.1 c.2.2.2.2.2.1 (c.2.2.2.2.2.2.2.2.2 1) (c.2.2.2.2.2.2.2.2.2 2) (c.2.2.2.2.2.2.2.2.1 0) zR zR zR p0
  unfold oC_count
  rw [e1, bd_some]
  exact ⟨_, rfl, by unfold aq_count; rw [hsv, hpl, e2, bd_some], hM, hH, hS, hP⟩
/-- what ofState answers, by the picture alone -/
def aq_ofState (A : AS) (p0 : Int32) : Option Int32 := bd (fX11_ofState A.1 zR zR p0) fun o => some o.1
theorem C_ofState {B : Nat} {A : AS} {c : CS} (h : IC B A c) (p0 : Int32) : ∃ o : Int32 × CS, oC_ofState c p0 = some o ∧ aq_ofState A p0 = some o.1 ∧ IC B A o.2 := by
  obtain ⟨hM, hH, hS, hP⟩ := h
  obtain ⟨ans, a1, a2, a3, a4, e1, e2⟩ := q_ofState hM (c.2.2.2.2.2.2.2.2.2 2) (c.2.2.2.2.2.2.2.2.1 0) zR zR p0
  unfold oC_ofState
  rw [e1, bd_some]
  exact ⟨_, rfl, by unfold aq_ofState; rw [e2, bd_some], hM, hH, hS, hP⟩
/-- what proves answers, by the picture alone -/
def aq_proves (A : AS) (p0 : Int32) : Option Int32 := bd (fX11_proves A.1 zR p0) fun o => some o.1
theorem C_proves {B : Nat} {A : AS} {c : CS} (h : IC B A c) (p0 : Int32) : ∃ o : Int32 × CS, oC_proves c p0 = some o ∧ aq_proves A p0 = some o.1 ∧ IC B A o.2 := by
  obtain ⟨hM, hH, hS, hP⟩ := h
  obtain ⟨ans, a1, a2, e1, e2⟩ := q_proves hM (c.2.2.2.2.2.2.2.2.2 1) zR p0
  unfold oC_proves
  rw [e1, bd_some]
  exact ⟨_, rfl, by unfold aq_proves; rw [e2, bd_some], hM, hH, hS, hP⟩
/-- what witness answers, by the picture alone -/
def aq_witness (A : AS) (p0 : Int32) : Option Int32 := fX11_witness A.1 p0
theorem C_witness {B : Nat} {A : AS} {c : CS} (h : IC B A c) (p0 : Int32) : ∃ o : Int32 × CS, oC_witness c p0 = some o ∧ aq_witness A p0 = some o.1 ∧ IC B A o.2 := by
  obtain ⟨hM, hH, hS, hP⟩ := h
  obtain ⟨ans, a1, e1, e2⟩ := q_witness hM (c.2.2.2.2.2.2.2.2.2 1) p0
  unfold oC_witness
  rw [e1, bd_some]
  exact ⟨_, rfl, by unfold aq_witness; rw [e2], hM, hH, hS, hP⟩
/-- what isTrue answers, by the picture alone -/
def aq_isTrue (A : AS) (p0 : Int32) : Option Int32 := bd (fX11_isTrue A.1 zR zR p0) fun o => some o.1
theorem C_isTrue {B : Nat} {A : AS} {c : CS} (h : IC B A c) (p0 : Int32) : ∃ o : Int32 × CS, oC_isTrue c p0 = some o ∧ aq_isTrue A p0 = some o.1 ∧ IC B A o.2 := by
  obtain ⟨hM, hH, hS, hP⟩ := h
  obtain ⟨ans, a1, a2, a3, a4, e1, e2⟩ := q_isTrue hM (c.2.2.2.2.2.2.2.2.2 2) (c.2.2.2.2.2.2.2.2.1 0) zR zR p0
  unfold oC_isTrue
  rw [e1, bd_some]
  exact ⟨_, rfl, by unfold aq_isTrue; rw [e2, bd_some], hM, hH, hS, hP⟩
/-- what needless answers, by the picture alone -/
def aq_needless (A : AS) : Option Int64 := fX11_needless A.1
theorem C_needless {B : Nat} {A : AS} {c : CS} (h : IC B A c) : ∃ o : Int64 × CS, oC_needless c  = some o ∧ aq_needless A  = some o.1 ∧ IC B A o.2 := by
  obtain ⟨hM, hH, hS, hP⟩ := h
  obtain ⟨ans, e1, e2⟩ := q_needless hM
  unfold oC_needless
  rw [e1, bd_some]
  exact ⟨_, rfl, by unfold aq_needless; rw [e2], hM, hH, hS, hP⟩
/-- what core answers, by the picture alone -/
def aq_core (A : AS) (p0 : Int32) : Option Int64 := bd (fX11_core A.1 zR p0) fun o => some o.1
theorem C_core {B : Nat} {A : AS} {c : CS} (h : IC B A c) (p0 : Int32) : ∃ o : Int64 × CS, oC_core c p0 = some o ∧ aq_core A p0 = some o.1 ∧ IC B A o.2 := by
  obtain ⟨hM, hH, hS, hP⟩ := h
  obtain ⟨ans, a1, a2, a3, e1, e2⟩ := q_core hM (c.2.2.2.2.2.2.2.2.2 1) (c.2.2.2.2.2.2.2.2.1 1) zR p0
  unfold oC_core
  rw [e1, bd_some]
  exact ⟨_, rfl, by unfold aq_core; rw [e2, bd_some], hM, hH, hS, hP⟩
theorem C_undo {B : Nat} {A : AS} {c : CS} (h : IC B A c) : ∃ o : Int32 × CS, oC_undo c = some o ∧ ((A.2.1 = [] ∧ o.1 = -5 ∧ IC B A o.2) ∨ ∃ (L : List RW) (u : RW), A.2.1 = L ++ [u] ∧ o.1 = nI L.length ∧ IC B (u, L, A.2.2) o.2) := by
  obtain ⟨hM, hH, hS, hP⟩ := h
  unfold oC_undo fX10_undo
  rcases hback hM.sn hH with ⟨q, e1⟩ | ⟨L, u, R, q, e1, e2, e3⟩
  · rw [e1, bd_some, if_pos (show (0 : Int32) = 0 from rfl), bd_some]
    exact ⟨_, rfl, Or.inl ⟨q, rfl, hM.sn, hH, hS, hP⟩⟩
  · rw [e1, bd_some, if_neg (show ¬ (1 : Int32) = 0 from i0ne1), bd_some]
    exact ⟨_, rfl, Or.inr ⟨L, u, q, rfl, e2.sn, e3, hS, hP⟩⟩
/-- how many candidates stand -/
def aq_st (t : RW) : Option Int32 := bd (fX11_standing t) fun y => bd (fX11_size y) fun z => some z
theorem cst_eq {B : Nat} {t : RW} {M : MS} (hM : RM B t M) : ∃ v : Nat, v ≤ 40 ∧ fX0_countStanding (M.1 5) (M.2.1 6) = some (nI v) ∧ aq_st t = some (nI v) := by
  obtain ⟨ns, nc, e4, e5, S, C⟩ := hM.ok
  obtain ⟨v, hv, d1, w, d2, d3⟩ := cstand_eq C
  refine ⟨v, hv, by rw [e5]; exact d1, ?_⟩
  unfold aq_st
  rw [d2, bd_some, d3, bd_some]
theorem C_save_bad {B : Nat} {A : AS} {c : CS} (h : IC B A c) {p : Int32} (hp : fX11_in p 0 1 = some 0) : ∃ o : Int32 × CS, oC_save c p = some o ∧ o.1 = -2 ∧ IC B A o.2 := by
  obtain ⟨hM, hH, hS, hP⟩ := h
  unfold oC_save fX10_save
  rcases in_01c p with ⟨e, hh⟩ | ⟨e, h1, h2, q, hq, rfl⟩
  · rcases hh with hh | ⟨h1, h2⟩
    · rw [if_pos hh, bd_some]; exact ⟨_, rfl, rfl, hM, hH, hS, hP⟩
    · rw [if_neg h1, if_neg h2, bd_some]; exact ⟨_, rfl, rfl, hM, hH, hS, hP⟩
  · rw [hp] at e; exact absurd (Option.some.inj e) (by decide)
theorem C_restore_bad {B : Nat} {A : AS} {c : CS} (h : IC B A c) {p : Int32} (hp : fX11_in p 0 1 = some 0) : ∃ o : Int32 × CS, oC_restore c p = some o ∧ o.1 = -2 ∧ IC B A o.2 := by
  obtain ⟨hM, hH, hS, hP⟩ := h
  unfold oC_restore fX10_restore
  rcases in_01c p with ⟨e, hh⟩ | ⟨e, h1, h2, q, hq, rfl⟩
  · rcases hh with hh | ⟨h1, h2⟩
    · rw [if_pos hh, bd_some]; exact ⟨_, rfl, rfl, hM.sn, hH, hS, hP⟩
    · rw [if_neg h1, if_neg h2, bd_some]; exact ⟨_, rfl, rfl, hM.sn, hH, hS, hP⟩
  · rw [hp] at e; exact absurd (Option.some.inj e) (by decide)
def upS (sl : Nat → Option RW) (q : Nat) (t : RW) : Nat → Option RW := fun p => if p = q then some t else sl p
theorem C_save {B : Nat} {A : AS} {c : CS} (h : IC B A c) {q : Nat} (hq : q < 2) : ∃ o : Int32 × CS, oC_save c (nI q) = some o ∧ aq_st A.1 = some o.1 ∧ IC B (A.1, A.2.1, upS A.2.2.1 q A.1, A.2.2.2) o.2 := by
  obtain ⟨hM, hH, hS, hP⟩ := h
  obtain ⟨v, hv, d1, d2⟩ := cst_eq hM
  obtain ⟨R, k1, k2⟩ := kcopy_eq (c.2.2.2.1 q) hM.sn
  rcases in_01c (nI q) with ⟨e, hh⟩ | ⟨e, h1, h2, -⟩
  · exfalso
    rcases (show q = 0 ∨ q = 1 by omega) with rfl | rfl <;> rw [show fX11_in _ 0 1 = some 1 by decide] at e <;> exact absurd (Option.some.inj e) (by decide)
  unfold oC_save fX10_save
  rw [if_neg h1, if_pos h2]
  simp only [gd_nI hq (show 2 < 2 ^ 31 by decide), ixn (show q < 2 ^ 31 by omega)]
  rw [k1, bd_some, d1, bd_some, bd_some]
  refine ⟨_, rfl, d2, hM, hH, fun p hp => ?_, hP⟩
  have h1n : vp_nar .boolean (1 : Int32) = 1 := nar_b true
  show (upS A.2.2.1 q A.1 p = none → upd c.2.2.2.2.1 q (vp_nar .boolean 1) p = 0) ∧ ∀ u, upS A.2.2.1 q A.1 p = some u → ¬ upd c.2.2.2.2.1 q (vp_nar .boolean 1) p = 0 ∧ RM B u (upK c.2.2.2.1 q R p)
  rw [h1n]
  unfold upS
  by_cases e2 : p = q
  · subst e2
    rw [if_pos rfl, upd_s, upK_s]
    exact ⟨fun z => (by cases z), fun u hu => ⟨i0ne1, by cases hu; exact k2⟩⟩
  · rw [if_neg e2, upd_o e2, upK_o e2]
    exact hS p hp
theorem C_restore {B : Nat} {A : AS} {c : CS} (h : IC B A c) {q : Nat} (hq : q < 2) : ∃ o : Int32 × CS, oC_restore c (nI q) = some o ∧ ((A.2.2.1 q = none ∧ o.1 = -5 ∧ IC B A o.2) ∨ ∃ u, A.2.2.1 q = some u ∧ aq_st u = some o.1 ∧ IC B (u, push A.2.1 A.1, A.2.2) o.2) := by
  obtain ⟨hM, hH, hS, hP⟩ := h
  rcases in_01c (nI q) with ⟨e, hh⟩ | ⟨e, h1, h2, -⟩
  · exfalso
    rcases (show q = 0 ∨ q = 1 by omega) with rfl | rfl <;> rw [show fX11_in _ 0 1 = some 1 by decide] at e <;> exact absurd (Option.some.inj e) (by decide)
  obtain ⟨s1, s2⟩ := hS q hq
  unfold oC_restore fX10_restore
  rw [if_neg h1, if_pos h2]
  simp only [gd_nI hq (show 2 < 2 ^ 31 by decide), ixn (show q < 2 ^ 31 by omega)]
  cases hsl : A.2.2.1 q with
  | none =>
    rw [if_pos (s1 hsl), bd_some]
    exact ⟨_, rfl, Or.inl ⟨rfl, rfl, hM.sn, hH, hS, hP⟩⟩
  | some u =>
    obtain ⟨hf, hu⟩ := s2 u hsl
    obtain ⟨K1, k1, k2, k4⟩ := hprep hH hM.sn
    obtain ⟨R, r1, r2⟩ := kcopy_eq (snap (c.1.1 0) (c.1.1 1) (c.1.1 2) (c.1.1 3) (c.1.1 4) (c.1.2.1 0) (c.1.2.1 1) (c.1.2.1 2) (c.1.2.1 3) (c.1.2.1 4) (c.1.1 5) (c.1.2.1 5) (c.1.2.1 6) (c.1.2.1 7) (c.1.2.1 8) (c.1.2.1 9) (c.1.1 6) (c.1.2.1 10) c.1.2.2) hu
    obtain ⟨v, hv, d1, d2⟩ := cst_eq r2
    obtain ⟨h', K2, k5, k6⟩ := k4 (nI v) (by rw [le_toInt, tI0, nI_toInt (by omega)]; omega)
    rw [if_neg hf, k1, bd_some, r1, bd_some, d1, bd_some, k5, bd_some, bd_some]
    exact ⟨_, rfl, Or.inr ⟨u, rfl, d2, r2.sn, k6, hS, hP⟩⟩
