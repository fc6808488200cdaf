/-! ===== the candidates' codes are codes; the drawn run's calls ===== -/
def wOK (cn : Int32) (cc : Nat → Int32) : Prop := ∃ n : Nat, n ≤ 40 ∧ cn = nI n ∧ ∀ i, i < n → vc (cc i) = true
def vOK (t : RW) : Prop := wOK (t 3) (fun c => t (47 + 5 * c))
theorem V_W {B : Nat} {t : RW} {M : MS} (h : RM B t M) (hV : vOK t) : wOK (M.1 5) (M.2.1 5) := by
  obtain ⟨ns, nc, n, R, z, r, ⟨a1, a2, a3, a4, a5, a6⟩, ⟨b1, b2, b3, b4, b5⟩, ⟨c1, c2, c3, c4, -⟩, d, e, -⟩ := h
  obtain ⟨m, h1, h2, h3⟩ := hV
  have em : m = nc := nI_inj (by omega) (by omega) (by rw [← h2, c4, a5])
  subst em
  exact ⟨m, h1, a5, fun i hi => by rw [← (e i hi).1.1]; exact h3 i hi⟩
theorem W_V {B : Nat} {t : RW} {M : MS} (h : RM B t M) (hW : wOK (M.1 5) (M.2.1 5)) : vOK t := by
  obtain ⟨ns, nc, n, R, z, r, ⟨a1, a2, a3, a4, a5, a6⟩, ⟨b1, b2, b3, b4, b5⟩, ⟨c1, c2, c3, c4, -⟩, d, e, -⟩ := h
  obtain ⟨m, h1, h2, h3⟩ := hW
  have em : m = nc := nI_inj (by omega) (by omega) (by rw [← h2, a5])
  subst em
  exact ⟨m, h1, by rw [c4, a5], fun i hi => by show vc (t (47 + 5 * i)) = true; rw [(e i hi).1.1]; exact h3 i hi⟩
theorem addCand_W {a cn en p0 : Int32} {cc cf cs cm cr eo : Nat → Int32} {o : Int32 × Int32 × (Nat → Int32) × (Nat → Int32) × (Nat → Int32) × (Nat → Int32) × (Nat → Int32)} (hW : wOK cn cc) (h : fX3_addCandidate a cn cc cf cs cm cr en eo p0 = some o) : wOK o.2.1 o.2.2.1 := by
  unfold fX3_addCandidate at h
  obtain ⟨y, h1, h⟩ := k_bd h
  by_cases c1 : y = 0
  · have h := (k_if h).1 c1; cases h; exact hW
  · have h := (k_if h).2 c1
    by_cases c2 : cn < 40
    · have h := (k_if h).1 c2
      obtain ⟨z, h2, h⟩ := k_bd h
      by_cases c3 : z = 0
      · have h := (k_if h).1 c3
        obtain ⟨-, h⟩ := k_gd h
        obtain ⟨u, h3, h⟩ := k_bd h
        cases h
        obtain ⟨n, n1, rfl, n3⟩ := hW
        have hn : n < 40 := by rw [lt_toInt, nI_toInt (by omega), show (40 : Int32).toInt = 40 by decide] at c2; omega
        have hv : vc p0 = true := by
          rw [isCode_eq] at h1
          cases hq : vc p0 with
          | true => rfl
          | false => rw [hq] at h1; exact absurd (Option.some.inj h1).symm c1
        refine ⟨n + 1, hn, nI1 n, fun i hi => ?_⟩
        show vc (upd cc (ix (nI n)) p0 i) = true
        rw [ixn (by omega)]
        by_cases ei : i = n
        · subst ei; rw [upd_s]; exact hv
        · rw [upd_o ei]; exact n3 i (by omega)
      · have h := (k_if h).2 c3; cases h; exact hW
    · have h := (k_if h).2 c2; cases h; exact hW
theorem iter_inv {α β : Type} {g : α → Option (α ⊕ β)} (Pi : α → Prop) (Q : β → Prop) (st : ∀ a r, Pi a → g a = some r → (∀ a', r = .inl a' → Pi a') ∧ ∀ b, r = .inr b → Q b) : ∀ (f : Nat) (a : α) (b : β), iter g f a = some b → Pi a → Q b := by
  intro f
  induction f with
  | zero => intro a b h; cases h
  | succ f ih =>
    intro a b h hP
    obtain ⟨r, hr, h⟩ := k_bd h
    obtain ⟨s1, s2⟩ := st a r hP hr
    cases r with
    | inl a' => exact ih a' b h (s1 a' rfl)
    | inr b2 => cases h; exact s2 _ rfl
theorem addGuess_W {a cn en p0 : Int32} {cc cf cs cm cr eo : Nat → Int32} {o : Int32 × Int32 × (Nat → Int32) × (Nat → Int32) × (Nat → Int32) × (Nat → Int32) × (Nat → Int32)} (hW : wOK cn cc) (h : fX3_addGuesses a cn cc cf cs cm cr en eo p0 = some o) : wOK o.2.1 o.2.2.1 := by
  unfold fX3_addGuesses at h
  by_cases c1 : p0 < 1
  · have h := (k_if h).1 c1; cases h; exact hW
  · have h := (k_if h).2 c1
    by_cases c2 : p0 ≤ 9
    · have h := (k_if h).1 c2
      obtain ⟨b, hb, h⟩ := k_bd h
      cases h
      refine iter_inv (g := gX3_addGuesses_25 a en eo p0) (fun q : GA => wOK q.2.2.1 q.2.2.2.1) (fun q : GA => wOK q.2.2.1 q.2.2.2.1) (fun q r hq hr => ?_) FU _ b hb hW
      unfold gX3_addGuesses_25 at hr
      by_cases d1 : (((135 : Int32) * p0) + (135 : Int32)) ≤ q.2.1
      · have hr := (k_if hr).1 d1; cases hr; exact ⟨fun _ e => (by cases e), fun _ e => (by cases e; exact hq)⟩
      · have hr := (k_if hr).2 d1
        obtain ⟨y, -, hr⟩ := k_bd hr
        by_cases d2 : y = 0
        · have hr := (k_if hr).1 d2; cases hr; exact ⟨fun _ e => (by cases e; exact hq), fun _ e => (by cases e)⟩
        · have hr := (k_if hr).2 d2
          obtain ⟨z, -, hr⟩ := k_bd hr
          by_cases d3 : z = -6
          · have hr := (k_if hr).1 d3
            obtain ⟨u, hu, hr⟩ := k_bd hr
            have hw := addCand_W hq hu
            by_cases d4 : u.1 < 0
            · have hr := (k_if hr).1 d4; cases hr; exact ⟨fun _ e => (by cases e; exact hw), fun _ e => (by cases e)⟩
            · have hr := (k_if hr).2 d4; cases hr; exact ⟨fun _ e => (by cases e; exact hw), fun _ e => (by cases e)⟩
          · have hr := (k_if hr).2 d3; cases hr; exact ⟨fun _ e => (by cases e; exact hq), fun _ e => (by cases e)⟩
    · have h := (k_if h).2 c2; cases h; exact hW
theorem K_start {c : CS} {p0 p1 p2 : Int32} {o : Int32 × CS} (h : oC_start c p0 p1 p2 = some o) (hW : wOK (c.1.1 5) (c.1.2.1 5)) : wOK (o.2.1.1 5) (o.2.1.2.1 5) := by
  unfold oC_start at h
  obtain ⟨y, -, h⟩ := k_bd h
  cases h
  exact hW
theorem K_wrap {c : CS} {p0 : Int32} {o : Int32 × CS} (h : oC_wrap c p0 = some o) (hW : wOK (c.1.1 5) (c.1.2.1 5)) : wOK (o.2.1.1 5) (o.2.1.2.1 5) := by
  unfold oC_wrap at h
  obtain ⟨y, -, h⟩ := k_bd h
  cases h
  exact hW
theorem K_step {c : CS} {p0 p1 p2 p3 p4 : Int32} {o : Int32 × CS} (h : oC_step c p0 p1 p2 p3 p4 = some o) (hW : wOK (c.1.1 5) (c.1.2.1 5)) : wOK (o.2.1.1 5) (o.2.1.2.1 5) := by
  unfold oC_step at h
  obtain ⟨y, -, h⟩ := k_bd h
  cases h
  exact hW
theorem K_drop {c : CS} {p0 : Int32} {o : Int32 × CS} (h : oC_drop c p0 = some o) (hW : wOK (c.1.1 5) (c.1.2.1 5)) : wOK (o.2.1.1 5) (o.2.1.2.1 5) := by
  unfold oC_drop at h
  obtain ⟨y, -, h⟩ := k_bd h
  cases h
  exact hW
theorem K_run {c : CS} {p0 p1 : Int32} {o : Int32 × CS} (h : oC_run c p0 p1 = some o) (hW : wOK (c.1.1 5) (c.1.2.1 5)) : wOK (o.2.1.1 5) (o.2.1.2.1 5) := by
  unfold oC_run at h
  obtain ⟨y, -, h⟩ := k_bd h
  cases h
  exact hW
theorem K_strike {c : CS} {o : Int32 × CS} (h : oC_strike c  = some o) (hW : wOK (c.1.1 5) (c.1.2.1 5)) : wOK (o.2.1.1 5) (o.2.1.2.1 5) := by
  unfold oC_strike at h
  obtain ⟨y, -, h⟩ := k_bd h
  cases h
  exact hW
theorem K_candidate {c : CS} {p0 : Int32} {o : Int32 × CS} (h : oC_candidate c p0 = some o) (hW : wOK (c.1.1 5) (c.1.2.1 5)) : wOK (o.2.1.1 5) (o.2.1.2.1 5) := by
  unfold oC_candidate at h
  obtain ⟨y, h1, h⟩ := k_bd h
  cases h
  unfold fX10_candidate at h1
  obtain ⟨K1, -, h1⟩ := k_bd h1
  obtain ⟨y2, h2, h1⟩ := k_bd h1
  obtain ⟨z, -, h1⟩ := k_bd h1
  cases h1
  exact addCand_W hW h2
theorem K_guess {c : CS} {p0 : Int32} {o : Int32 × CS} (h : oC_guess c p0 = some o) (hW : wOK (c.1.1 5) (c.1.2.1 5)) : wOK (o.2.1.1 5) (o.2.1.2.1 5) := by
  unfold oC_guess at h
  obtain ⟨y, h1, h⟩ := k_bd h
  cases h
  unfold fX10_guess at h1
  obtain ⟨K1, -, h1⟩ := k_bd h1
  obtain ⟨y2, h2, h1⟩ := k_bd h1
  obtain ⟨z, -, h1⟩ := k_bd h1
  cases h1
  exact addGuess_W hW h2
/-- what a call of the drawn run gives -/
def OP (k : Nat) (t : RW) (L : List RW) (o : Int32 × CS) : Prop := (o.1 < 0 ∧ IC (k + 1) (t, L, A0.2.2) o.2) ∨ (0 ≤ o.1 ∧ ∃ t' : RW, IC (k + 1) (t', push L t, A0.2.2) o.2 ∧ vOK t')
theorem OP.of {k B' : Nat} {t t' : RW} {L : List RW} {o : Int32 × CS} (r : RO k B' (t, L, A0.2.2) t' o) (hB : B' ≤ k + 1) (hW : wOK (o.2.1.1 5) (o.2.1.2.1 5)) : OP k t L o := by
  rcases r with ⟨q1, -, q3⟩ | ⟨q1, q2⟩
  · exact Or.inl ⟨q1, q3.up (by omega)⟩
  · exact Or.inr ⟨q1, t', q2.up hB, W_V q2.1 hW⟩
theorem OP_start {k : Nat} {t : RW} {L : List RW} {c : CS} (hk : k < 1000) (h : IC k (t, L, A0.2.2) c) (hV : vOK t) (p0 p1 p2 : Int32) : ∃ o : Int32 × CS, oC_start c p0 p1 p2 = some o ∧ OP k t L o := by
  obtain ⟨o, t', e, f, r⟩ := C_start h p0 p1 p2
  exact ⟨o, e, .of r (by omega) (K_start e (V_W h.1 hV))⟩
theorem OP_wrap {k : Nat} {t : RW} {L : List RW} {c : CS} (hk : k < 1000) (h : IC k (t, L, A0.2.2) c) (hV : vOK t) (p0 : Int32) : ∃ o : Int32 × CS, oC_wrap c p0 = some o ∧ OP k t L o := by
  obtain ⟨o, t', e, f, r⟩ := C_wrap h p0
  exact ⟨o, e, .of r (by omega) (K_wrap e (V_W h.1 hV))⟩
theorem OP_step {k : Nat} {t : RW} {L : List RW} {c : CS} (hk : k < 1000) (h : IC k (t, L, A0.2.2) c) (hV : vOK t) (p0 p1 p2 p3 p4 : Int32) : ∃ o : Int32 × CS, oC_step c p0 p1 p2 p3 p4 = some o ∧ OP k t L o := by
  obtain ⟨o, t', e, f, r⟩ := C_step h p0 p1 p2 p3 p4
  exact ⟨o, e, .of r (by omega) (K_step e (V_W h.1 hV))⟩
theorem OP_drop {k : Nat} {t : RW} {L : List RW} {c : CS} (hk : k < 1000) (h : IC k (t, L, A0.2.2) c) (hV : vOK t) (p0 : Int32) : ∃ o : Int32 × CS, oC_drop c p0 = some o ∧ OP k t L o := by
  obtain ⟨o, t', e, f, r⟩ := C_drop h p0
  exact ⟨o, e, .of r (by omega) (K_drop e (V_W h.1 hV))⟩
theorem OP_run {k : Nat} {t : RW} {L : List RW} {c : CS} (hk : k < 1000) (h : IC k (t, L, A0.2.2) c) (hV : vOK t) (p0 p1 : Int32) : ∃ o : Int32 × CS, oC_run c p0 p1 = some o ∧ OP k t L o := by
  obtain ⟨o, t', e, f, r⟩ := C_run (by omega) h p0 p1
  exact ⟨o, e, .of r (by omega) (K_run e (V_W h.1 hV))⟩
theorem OP_strike {k : Nat} {t : RW} {L : List RW} {c : CS} (hk : k < 1000) (h : IC k (t, L, A0.2.2) c) (hV : vOK t) : ∃ o : Int32 × CS, oC_strike c  = some o ∧ OP k t L o := by
  obtain ⟨o, t', al, e, f, r⟩ := C_strike h 
  exact ⟨o, e, .of r (by omega) (K_strike e (V_W h.1 hV))⟩
theorem OP_candidate {k : Nat} {t : RW} {L : List RW} {c : CS} (hk : k < 1000) (h : IC k (t, L, A0.2.2) c) (hV : vOK t) (p0 : Int32) : ∃ o : Int32 × CS, oC_candidate c p0 = some o ∧ OP k t L o := by
  obtain ⟨o, t', e, f, r⟩ := C_candidate (by omega) h p0
  exact ⟨o, e, .of r (by omega) (K_candidate e (V_W h.1 hV))⟩
theorem OP_guess {k : Nat} {t : RW} {L : List RW} {c : CS} (hk : k < 1000) (h : IC k (t, L, A0.2.2) c) (hV : vOK t) (p0 : Int32) : ∃ o : Int32 × CS, oC_guess c p0 = some o ∧ OP k t L o := by
  obtain ⟨o, t', e, f, r⟩ := C_guess (by omega) h p0
  exact ⟨o, e, .of r (by omega) (K_guess e (V_W h.1 hV))⟩
