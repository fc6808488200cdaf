/-! ===== rounds ===== -/
abbrev Q4 : Type := Int32 × Int32 × Int32 × Int32
theorem ffind_succ (n : Nat) (P : Nat → Bool) : ffind (n + 1) P = match ffind n P with | some j => some j | none => if P n = true then some n else none := by
  cases h : ffind n P with
  | some j =>
    obtain ⟨h1, h2⟩ := ffind_spec h
    exact ffind_some (by omega) h2 (ffind_first h)
  | none =>
    have h0 := ffind_n.mp h
    by_cases hp : P n = true
    · simp only [hp, if_true]
      exact ffind_some (by omega) hp h0
    · simp only [if_neg hp]
      refine ffind_none (fun u hu => ?_)
      by_cases c : u = n
      · subst c; simpa using hp
      · exact h0 u (by omega)
theorem ffind_s_f {n : Nat} {P : Nat → Bool} (h : P n = false) : ffind (n + 1) P = ffind n P := by
  rw [ffind_succ, h]
  cases ffind n P <;> rfl
theorem ffind_z (P : Nat → Bool) : ffind 0 P = none := rfl
/-- a loop that looks for the first place, with its state -/
theorem iter_ffG {α γ δ : Type} {g : α → Option (α ⊕ (δ ⊕ γ))} (E : Nat → α) (P : Nat → Bool) (V : Nat → γ) (n : Nat) (e : δ) (hn : n < 100000)
    (h1 : ∀ i, i < n → P i = false → g (E i) = some (.inl (E (i + 1)))) (h2 : ∀ i, i < n → P i = true → g (E i) = some (.inr (.inr (V i)))) (h3 : g (E n) = some (.inr (.inl e))) :
    (iter g FU (E 0) = some (.inl e) ∧ ffind n P = none) ∨ (∃ i, i < n ∧ iter g FU (E 0) = some (.inr (V i)) ∧ ffind n P = some i) := by
  obtain ⟨b, hb, hp⟩ := iter0 (g := g) (fun (i : Nat) (a : α) => a = E i ∧ ∀ u, u < i → P u = false) (fun (b : δ ⊕ γ) => (b = .inl e ∧ ffind n P = none) ∨ (∃ i, i < n ∧ b = .inr (V i) ∧ ffind n P = some i)) n (E 0) hn ⟨rfl, fun u hu => absurd hu (Nat.not_lt_zero _)⟩ (fun i a hi hI => by
    obtain ⟨rfl, h⟩ := hI
    cases hp : P i with
    | false =>
      refine Or.inl ⟨_, h1 i hi hp, rfl, fun u hu => ?_⟩
      by_cases c : u = i
      · subst c; exact hp
      · exact h u (by omega)
    | true => exact Or.inr ⟨_, h2 i hi hp, Or.inr ⟨i, hi, rfl, ffind_some hi hp h⟩⟩) (fun a hI => by
    obtain ⟨rfl, h⟩ := hI
    exact ⟨_, h3, Or.inl ⟨rfl, ffind_none h⟩⟩)
  rcases hp with ⟨rfl, h⟩ | ⟨i, hi, rfl, h⟩
  · exact Or.inl ⟨hb, h⟩
  · exact Or.inr ⟨i, hi, hb, h⟩
/-- whether a step refutes a candidate in a state -/
def pr (T : Nat → Nat → Option Nat) (A : Nat → Bool) (cc : Nat → Int32) (c s i : Nat) : Bool := A s && esc (fun u => sat (cc c) (nI u)) (T i s)
def hS (ns : Nat) (T : Nat → Nat → Option Nat) (A : Nat → Bool) (cc : Nat → Int32) (c s : Nat) : Option Nat := ffind ns (pr T A cc c s)
def qf (o1 o2 : Option Nat) (h : Nat → Int32) (s : Nat) (r1 : Int32) (q0 : Q4) : Q4 := match o1, o2 with
  | some s', _ => (3, nI s', h s', r1)
  | none, some i' => (3, nI s, nI i', r1)
  | none, none => q0
/-- what a candidate's fate is when the pairs before (s, i) have been looked at -/
def qd (ro : Int32) (ns : Nat) (T : Nat → Nat → Option Nat) (A : Nat → Bool) (cc cf cs cm cr : Nat → Int32) (c s i : Nat) : Q4 :=
  if stn cf c = true then qf (ffind s (fun s' => (hS ns T A cc c s').isSome)) (ffind i (pr T A cc c s)) (fun s' => oN (hS ns T A cc c s')) s (ro + 1) (cf c, cs c, cm c, cr c) else (cf c, cs c, cm c, cr c)
def dn (ns : Nat) (T : Nat → Nat → Option Nat) (A : Nat → Bool) (cc cf : Nat → Int32) (c s i : Nat) : Bool := stn cf c && ((ffind s (fun s' => (hS ns T A cc c s').isSome)).isSome || (ffind i (pr T A cc c s)).isSome)
theorem qd_stn (ro : Int32) (ns : Nat) (T : Nat → Nat → Option Nat) (A : Nat → Bool) (cc cf cs cm cr : Nat → Int32) (c s i : Nat) : decide ((qd ro ns T A cc cf cs cm cr c s i).1 = 0) = (stn cf c && !dn ns T A cc cf c s i) := by
  unfold qd dn
  cases h : stn cf c with
  | false =>
    rw [if_neg (by decide)]
    exact h
  | true =>
    rw [if_pos rfl]
    cases ffind s (fun s' => (hS ns T A cc c s').isSome) with
    | some s' => rfl
    | none =>
      cases ffind i (pr T A cc c s) with
      | some i' => rfl
      | none => exact h
theorem qd_not {ro : Int32} {ns : Nat} {T : Nat → Nat → Option Nat} {A : Nat → Bool} {cc cf cs cm cr : Nat → Int32} {c s i : Nat} (h : dn ns T A cc cf c s i = false) : qd ro ns T A cc cf cs cm cr c s i = (cf c, cs c, cm c, cr c) := by
  unfold dn at h
  unfold qd
  cases h1 : stn cf c with
  | false => rw [if_neg (by decide)]
  | true =>
    rw [h1] at h
    rw [if_pos rfl]
    cases h2 : ffind s (fun s' => (hS ns T A cc c s').isSome) with
    | some s' => rw [h2] at h; exact absurd h (by simp)
    | none =>
      cases h3 : ffind i (pr T A cc c s) with
      | some i' => rw [h2, h3] at h; exact absurd h (by simp)
      | none => rfl
/-- a pair that refutes none of those that stand changes nothing -/
theorem qd_f {ro : Int32} {ns : Nat} {T : Nat → Nat → Option Nat} {A : Nat → Bool} {cc cf cs cm cr : Nat → Int32} {c s i : Nat} (h : stn cf c = true → pr T A cc c s i = false) : qd ro ns T A cc cf cs cm cr c s (i + 1) = qd ro ns T A cc cf cs cm cr c s i ∧ dn ns T A cc cf c s (i + 1) = dn ns T A cc cf c s i := by
  unfold qd dn
  cases h1 : stn cf c with
  | false => exact ⟨rfl, rfl⟩
  | true => rw [ffind_s_f (h h1)]; exact ⟨rfl, rfl⟩
theorem qd_t {ro : Int32} {ns : Nat} {T : Nat → Nat → Option Nat} {A : Nat → Bool} {cc cf cs cm cr : Nat → Int32} {c s i : Nat} (h1 : stn cf c = true) (h2 : dn ns T A cc cf c s i = false) (h3 : pr T A cc c s i = true) : qd ro ns T A cc cf cs cm cr c s (i + 1) = (3, nI s, nI i, ro + 1) ∧ dn ns T A cc cf c s (i + 1) = true := by
  unfold dn at h2
  rw [h1] at h2
  have e1 : ffind s (fun s' => (hS ns T A cc c s').isSome) = none := by
    cases e : ffind s (fun s' => (hS ns T A cc c s').isSome) with
    | none => rfl
    | some j => rw [e] at h2; exact absurd h2 (by simp)
  have e2 : ffind i (pr T A cc c s) = none := by
    cases e : ffind i (pr T A cc c s) with
    | none => rfl
    | some j => rw [e] at h2; exact absurd h2 (by simp)
  unfold qd dn
  rw [h1, if_pos rfl, e1, ffind_succ, e2]
  simp only [h3, if_true]
  exact ⟨rfl, rfl⟩
theorem qd_o {ro : Int32} {ns : Nat} {T : Nat → Nat → Option Nat} {A : Nat → Bool} {cc cf cs cm cr : Nat → Int32} {c s i : Nat} (h : dn ns T A cc cf c s i = true) : qd ro ns T A cc cf cs cm cr c s (i + 1) = qd ro ns T A cc cf cs cm cr c s i ∧ dn ns T A cc cf c s (i + 1) = true := by
  unfold dn at h
  unfold qd dn
  cases h1 : stn cf c with
  | false => rw [h1] at h; exact absurd h (by simp)
  | true =>
    rw [h1] at h
    cases h2 : ffind s (fun s' => (hS ns T A cc c s').isSome) with
    | some s' => exact ⟨rfl, rfl⟩
    | none =>
      rw [h2] at h
      cases h3 : ffind i (pr T A cc c s) with
      | none => rw [h3] at h; exact absurd h (by simp)
      | some i' =>
        have : ffind (i + 1) (pr T A cc c s) = some i' := by rw [ffind_succ, h3]
        rw [this]
        exact ⟨rfl, rfl⟩
theorem qd_row {ro : Int32} {ns : Nat} {T : Nat → Nat → Option Nat} {A : Nat → Bool} {cc cf cs cm cr : Nat → Int32} {c s : Nat} : qd ro ns T A cc cf cs cm cr c (s + 1) 0 = qd ro ns T A cc cf cs cm cr c s ns ∧ dn ns T A cc cf c (s + 1) 0 = dn ns T A cc cf c s ns := by
  unfold qd dn
  rw [ffind_z, ffind_succ]
  cases h1 : stn cf c with
  | false => exact ⟨rfl, rfl⟩
  | true =>
    rw [if_pos rfl, if_pos rfl]
    cases h2 : ffind s (fun s' => (hS ns T A cc c s').isSome) with
    | some s' => exact ⟨rfl, by simp⟩
    | none =>
      have e : hS ns T A cc c s = ffind ns (pr T A cc c s) := rfl
      cases h3 : ffind ns (pr T A cc c s) with
      | some i' =>
        rw [h3] at e
        simp only [e, Option.isSome_some, if_true]
        refine ⟨?_, rfl⟩
        show (3, nI s, oN (hS ns T A cc c s), ro + 1) = _
        rw [e]; rfl
      | none =>
        rw [h3] at e
        simp only [e, Option.isSome_none, Bool.false_eq_true, if_false]
        exact ⟨rfl, trivial⟩
theorem qd_0 {ro : Int32} {ns : Nat} {T : Nat → Nat → Option Nat} {A : Nat → Bool} {cc cf cs cm cr : Nat → Int32} {c : Nat} : qd ro ns T A cc cf cs cm cr c 0 0 = (cf c, cs c, cm c, cr c) ∧ dn ns T A cc cf c 0 0 = false := by
  have h : dn ns T A cc cf c 0 0 = false := by unfold dn; rw [ffind_z, ffind_z]; simp
  exact ⟨qd_not h, h⟩
abbrev SA : Type := Int32 × Int32 × (Nat → Int32) × (Nat → Int32) × (Nat → Int32) × (Nat → Int32)
/-- what one pair strikes out, in the class -/
theorem sbs_eq {cc : Nat → Int32} {nc u : Nat} (hn : nc ≤ 40) (hk : ∀ c, c < nc → ∃ k : Nat, k < 1350 ∧ cc c = nI k) (ro p0 p1 : Int32) (f0 s0 m0 r0 : Nat → Int32) :
    ∃ f s m r, fX3_strikeByStep ro (nI nc) cc f0 s0 m0 r0 p0 p1 (nI u) = some (nI (fb_ct (fun c => stn f0 c && !sat (cc c) (nI u)) nc), f, s, m, r) ∧ ∀ c, c < nc → ((f c, s c, m c, r c) : Q4) = if (stn f0 c && !sat (cc c) (nI u)) = true then (3, p1, p0, ro + 1) else (f0 c, s0 c, m0 c, r0 c) := by
  have key : ∃ b : SA, iter (gX3_strikeByStep_6 ro (nI nc) cc p0 p1 (nI u)) FU ((0 : Int32), (0 : Int32), f0, s0, m0, r0) = some b ∧ b.1 = nI (fb_ct (fun c => stn f0 c && !sat (cc c) (nI u)) nc) ∧ ∀ c, c < nc → ((b.2.2.1 c, b.2.2.2.1 c, b.2.2.2.2.1 c, b.2.2.2.2.2 c) : Q4) = if (stn f0 c && !sat (cc c) (nI u)) = true then (3, p1, p0, ro + 1) else (f0 c, s0 c, m0 c, r0 c) := by
    refine iter0 (fun (i : Nat) (b : SA) => b.1 = nI (fb_ct (fun c => stn f0 c && !sat (cc c) (nI u)) i) ∧ b.2.1 = nI i ∧ ∀ c, c < nc → ((b.2.2.1 c, b.2.2.2.1 c, b.2.2.2.2.1 c, b.2.2.2.2.2 c) : Q4) = if c < i ∧ (stn f0 c && !sat (cc c) (nI u)) = true then (3, p1, p0, ro + 1) else (f0 c, s0 c, m0 c, r0 c))
      (fun (b : SA) => b.1 = nI (fb_ct (fun c => stn f0 c && !sat (cc c) (nI u)) nc) ∧ ∀ c, c < nc → ((b.2.2.1 c, b.2.2.2.1 c, b.2.2.2.2.1 c, b.2.2.2.2.2 c) : Q4) = if (stn f0 c && !sat (cc c) (nI u)) = true then (3, p1, p0, ro + 1) else (f0 c, s0 c, m0 c, r0 c)) nc _ (by omega) ⟨rfl, rfl, fun c hc => by rw [if_neg (fun q => absurd q.1 (Nat.not_lt_zero _))]⟩ (fun i a hi hI => Or.inl ?_) (fun a hI => ?_)
    · obtain ⟨c1, c2, c3, c4, c5, c6⟩ := a
      obtain ⟨e1, e2, e3⟩ := hI
      dsimp only at e1 e2 e3
      subst e1 e2
      have ei := e3 i hi
      rw [if_neg (fun q => absurd q.1 (Nat.lt_irrefl _)), Prod.mk.injEq] at ei
      have hst : stn c3 i = stn f0 i := by unfold stn; rw [ei.1]
      unfold gX3_strikeByStep_6
      dsimp only
      rw [if_neg (c_ge (n := nc) rfl hi (by omega)), against0_eq (by omega) (hk i hi), bd_some, hst, fb_ct_succ]
      cases hp : (stn f0 i && !sat (cc i) (nI u)) with
      | false =>
        rw [if_pos (by decide)]
        refine ⟨_, rfl, by simp, nI1 i, fun c hc => ?_⟩
        dsimp only
        rw [e3 c hc]
        by_cases q : c = i
        · subst q; rw [hp]; simp
        · have : (c < i) = (c < i + 1) := by simp only [eq_iff_iff]; omega
          simp only [this]
      | true =>
        rw [if_neg (by decide), setFate_eq (by omega), bd_some]
        refine ⟨_, rfl, by dsimp only; rw [nI1]; rfl, nI1 i, fun c hc => ?_⟩
        dsimp only
        by_cases q : c = i
        · subst q
          rw [upd_s, upd_s, upd_s, upd_s, if_pos ⟨Nat.lt_succ_self _, hp⟩]
        · rw [upd_o q, upd_o q, upd_o q, upd_o q, e3 c hc]
          have : (c < i) = (c < i + 1) := by simp only [eq_iff_iff]; omega
          simp only [this]
    · obtain ⟨c1, c2, c3, c4, c5, c6⟩ := a
      obtain ⟨e1, e2, e3⟩ := hI
      dsimp only at e1 e2 e3
      subst e1 e2
      unfold gX3_strikeByStep_6
      dsimp only
      rw [if_pos (c_le (n := nc) rfl (Nat.le_refl _) (by omega))]
      refine ⟨_, rfl, rfl, fun c hc => ?_⟩
      dsimp only
      rw [e3 c hc]
      simp only [hc, true_and]
  obtain ⟨b, hb, h1, h2⟩ := key
  unfold fX3_strikeByStep
  rw [hb, bd_some, h1]
  exact ⟨_, _, _, _, rfl, h2⟩
