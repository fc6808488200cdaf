/-! ===== drawers: more things than places ===== -/
theorem fb_holes : ∀ (m n : Nat) (f : Nat → Nat), (∀ i, i < n → f i < m) → (∀ i j, i < j → j < n → f i ≠ f j) → n ≤ m := by
  intro m
  induction m with
  | zero =>
    intro n f h1 _
    rcases Nat.eq_zero_or_pos n with h | h
    · omega
    · exact absurd (h1 0 h) (Nat.not_lt_zero _)
  | succ m ih =>
    intro n f h1 h2
    by_cases hx : ∃ i, i < n ∧ f i = m
    · obtain ⟨a, ha, hfa⟩ := hx
      have hg := ih (n - 1) (fun i => if i < a then f i else f (i + 1)) (by
        intro i hi
        by_cases q : i < a
        · simp only [if_pos q]
          have b1 := h1 i (by omega)
          have b2 := h2 i a q ha
          omega
        · simp only [if_neg q]
          have b1 := h1 (i + 1) (by omega)
          have b2 := h2 a (i + 1) (by omega) (by omega)
          omega) (by
        intro i j hij hj
        by_cases q : i < a
        · by_cases r : j < a
          · simp only [if_pos q, if_pos r]
            exact h2 i j hij (by omega)
          · simp only [if_pos q, if_neg r]
            exact h2 i (j + 1) (by omega) (by omega)
        · have r : ¬ j < a := by omega
          simp only [if_neg q, if_neg r]
          exact h2 (i + 1) (j + 1) (by omega) (by omega))
      omega
    · have hg := ih n f (fun i hi => by
        have b1 := h1 i hi
        have b2 : f i ≠ m := fun e => hx ⟨i, hi, e⟩
        omega) h2
      omega
/-- two of them in one place -/
theorem fb_twice {m n : Nat} {f : Nat → Nat} (h : ∀ i, i < n → f i < m) (hm : m < n) : ∃ i j, i < j ∧ j < n ∧ f i = f j := by
  refine Classical.byContradiction fun hx => ?_
  have := fb_holes m n f h (fun i j hij hj e => hx ⟨i, j, hij, hj, e⟩)
  omega
/-- as many as places, none twice: each place is taken -/
theorem fb_onto {n : Nat} {f : Nat → Nat} (h : ∀ i, i < n → f i < n) (h2 : ∀ i j, i < j → j < n → f i ≠ f j) {y : Nat} (hy : y < n) : ∃ i, i < n ∧ f i = y := by
  refine Classical.byContradiction fun hx => ?_
  have hne : ∀ i, i < n → f i ≠ y := fun i hi e => hx ⟨i, hi, e⟩
  have := fb_holes (n - 1) n (fun i => if f i < y then f i else f i - 1) (by
    intro i hi
    have b1 := h i hi
    have b2 := hne i hi
    by_cases q : f i < y
    · simp only [if_pos q]; omega
    · simp only [if_neg q]; omega) (by
    intro i j hij hj
    have b1 := hne i (by omega)
    have b2 := hne j hj
    have b3 := h2 i j hij hj
    by_cases q : f i < y
    · by_cases r : f j < y
      · simp only [if_pos q, if_pos r]; exact b3
      · simp only [if_pos q, if_neg r]; omega
    · by_cases r : f j < y
      · simp only [if_neg q, if_pos r]; omega
      · simp only [if_neg q, if_neg r]; omega)
  omega
/-! ===== how many places have a property ===== -/
def fb_ct (p : Nat → Bool) : Nat → Nat
  | 0 => 0
  | n + 1 => fb_ct p n + (if p n then 1 else 0)
theorem fb_ct_succ (p : Nat → Bool) (n : Nat) : fb_ct p (n + 1) = fb_ct p n + (if p n then 1 else 0) := rfl
theorem fb_ct_le (p : Nat → Bool) : ∀ n, fb_ct p n ≤ n
  | 0 => Nat.le_refl _
  | n + 1 => by
    have h := fb_ct_le p n
    rw [fb_ct_succ]
    split <;> omega
theorem fb_ct_step (p : Nat → Bool) (m : Nat) : ∀ n, fb_ct p m ≤ fb_ct p (m + n)
  | 0 => Nat.le_refl _
  | n + 1 => by
    have h := fb_ct_step p m n
    show fb_ct p m ≤ fb_ct p (m + n + 1)
    rw [fb_ct_succ]
    omega
theorem fb_ct_mono (p : Nat → Bool) {m n : Nat} (h : m ≤ n) : fb_ct p m ≤ fb_ct p n := by
  have := fb_ct_step p m (n - m)
  rwa [Nat.add_sub_cancel' h] at this
theorem fb_ct_cong {p q : Nat → Bool} : ∀ {n : Nat}, (∀ k, k < n → p k = q k) → fb_ct p n = fb_ct q n
  | 0, _ => rfl
  | n + 1, h => by
    rw [fb_ct_succ, fb_ct_succ, fb_ct_cong (fun k hk => h k (by omega)), h n (by omega)]
/-- one place changed -/
theorem fb_ct_out (p : Nat → Bool) (b : Bool) {i n : Nat} (h : n ≤ i) : fb_ct (fun k => if k = i then b else p k) n = fb_ct p n :=
  fb_ct_cong fun k hk => if_neg (by omega)
theorem fb_ct_upd (p : Nat → Bool) (b : Bool) {i : Nat} : ∀ {n : Nat}, i < n → fb_ct (fun k => if k = i then b else p k) n + (if p i then 1 else 0) = fb_ct p n + (if b then 1 else 0)
  | 0, h => absurd h (Nat.not_lt_zero i)
  | n + 1, h => by
    rw [fb_ct_succ, fb_ct_succ]
    rcases Nat.lt_or_ge i n with q | q
    · have := fb_ct_upd p b q
      have e : (if n = i then b else p n) = p n := if_neg (by omega)
      rw [e]
      omega
    · have e : i = n := by omega
      subst e
      rw [fb_ct_out p b (Nat.le_refl _)]
      simp only [if_true]
      omega
theorem fb_ct_sub {p q : Nat → Bool} : ∀ {n : Nat}, (∀ k, k < n → p k = true → q k = true) → fb_ct p n ≤ fb_ct q n
  | 0, _ => Nat.le_refl _
  | n + 1, h => by
    have h1 := fb_ct_sub (n := n) (p := p) (q := q) (fun k hk => h k (by omega))
    have h2 := h n (by omega)
    rw [fb_ct_succ, fb_ct_succ]
    cases hp : p n <;> cases hq : q n <;> simp_all <;> omega
theorem fb_ct_or {p q : Nat → Bool} : ∀ {n : Nat}, (∀ k, k < n → ¬ (p k = true ∧ q k = true)) → fb_ct (fun k => p k || q k) n = fb_ct p n + fb_ct q n
  | 0, _ => rfl
  | n + 1, h => by
    have h1 := fb_ct_or (n := n) (p := p) (q := q) (fun k hk => h k (by omega))
    have h2 := h n (by omega)
    rw [fb_ct_succ, fb_ct_succ, fb_ct_succ, h1]
    cases hp : p n <;> cases hq : q n <;> simp_all <;> omega
theorem fb_ct_not (p : Nat → Bool) : ∀ n, fb_ct p n + fb_ct (fun k => !p k) n = n
  | 0 => rfl
  | n + 1 => by
    have h := fb_ct_not p n
    rw [fb_ct_succ, fb_ct_succ]
    cases p n <;> simp <;> omega
theorem fb_ct_split (p : Nat → Bool) (m : Nat) : ∀ n, fb_ct p (m + n) = fb_ct p m + fb_ct (fun k => p (m + k)) n
  | 0 => rfl
  | n + 1 => by
    have h := fb_ct_split p m n
    show fb_ct p (m + n + 1) = _
    rw [fb_ct_succ, fb_ct_succ, h, Nat.add_assoc]
theorem fb_ct_zero {p : Nat → Bool} : ∀ {n : Nat}, fb_ct p n = 0 ↔ ∀ k, k < n → p k = false
  | 0 => ⟨fun _ k hk => absurd hk (Nat.not_lt_zero k), fun _ => rfl⟩
  | n + 1 => by
    have h := fb_ct_zero (p := p) (n := n)
    rw [fb_ct_succ]
    constructor
    · intro e k hk
      have e1 : fb_ct p n = 0 := by omega
      rcases Nat.lt_or_ge k n with q | q
      · exact h.mp e1 k q
      · have ek : k = n := by omega
        subst ek
        cases hp : p k
        · rfl
        · simp [hp] at e
    · intro a
      rw [h.mpr (fun k hk => a k (by omega)), a n (by omega)]
      rfl
theorem fb_ct_pos {p : Nat → Bool} {n : Nat} : 0 < fb_ct p n ↔ ∃ k, k < n ∧ p k = true := by
  constructor
  · intro h
    refine Classical.byContradiction fun hx => ?_
    have := fb_ct_zero.mpr (fun k hk => by
      cases hp : p k
      · rfl
      · exact absurd ⟨k, hk, hp⟩ hx : ∀ k, k < n → p k = false)
    omega
  · rintro ⟨k, hk, hp⟩
    rcases Nat.eq_zero_or_pos (fb_ct p n) with e | e
    · have := fb_ct_zero.mp e k hk
      rw [this] at hp
      cases hp
    · exact e
theorem fb_ct_all {p : Nat → Bool} {n : Nat} : fb_ct p n = n ↔ ∀ k, k < n → p k = true := by
  have h := fb_ct_not p n
  constructor
  · intro e k hk
    have z : fb_ct (fun k => !p k) n = 0 := by omega
    have := fb_ct_zero.mp z k hk
    cases hp : p k
    · simp [hp] at this
    · rfl
  · intro a
    have z : fb_ct (fun k => !p k) n = 0 := fb_ct_zero.mpr (fun k hk => by simp [a k hk])
    omega
/-- the k-th place with the property -/
theorem fb_ct_kth {p : Nat → Bool} {k : Nat} : ∀ {n : Nat}, k < fb_ct p n → ∃ i, i < n ∧ p i = true ∧ fb_ct p i = k
  | 0, h => absurd h (Nat.not_lt_zero k)
  | n + 1, h => by
    rcases Nat.lt_or_ge k (fb_ct p n) with q | q
    · obtain ⟨i, h1, h2⟩ := fb_ct_kth q
      exact ⟨i, by omega, h2⟩
    · rw [fb_ct_succ] at h
      cases hp : p n
      · simp [hp] at h; omega
      · simp [hp] at h
        exact ⟨n, by omega, hp, by omega⟩
theorem fb_ct_kth_one {p : Nat → Bool} {i j : Nat} (hi : p i = true) (hj : p j = true) (e : fb_ct p i = fb_ct p j) : i = j := by
  have key : ∀ a b : Nat, a < b → p a = true → fb_ct p a < fb_ct p b := by
    intro a b hab ha
    have h := fb_ct_mono p (show a + 1 ≤ b from hab)
    rw [fb_ct_succ, ha] at h
    simp at h
    omega
  rcases Nat.lt_trichotomy i j with q | q | q
  · have := key i j q hi; omega
  · exact q
  · have := key j i q hj; omega
/-! ===== loops ===== -/
theorem iter_e {α β : Type} {g : α → Option (α ⊕ β)} {a : α} {b : β} (h : g a = some (.inr b)) {f : Nat} (hf : 0 < f) : iter g f a = some b := by
  obtain ⟨f', rfl⟩ : ∃ f', f = f' + 1 := ⟨f - 1, by omega⟩
  rw [iter_s, h]; rfl
theorem iter_n {α β : Type} {g : α → Option (α ⊕ β)} {a a' : α} {b : β} {f : Nat} (h : g a = some (.inl a')) (hf : iter g f a' = some b) : iter g (f + 1) a = some b := by
  rw [iter_s, h]; exact hf
/-- a loop whose states are known -/
theorem iter_seq {α β : Type} {g : α → Option (α ⊕ β)} (F : Nat → α) (m : Nat) (b : β) (hm : m < 100000) (st : ∀ i, i < m → g (F i) = some (.inl (F (i + 1)))) (fin : g (F m) = some (.inr b)) : iter g FU (F 0) = some b := by
  obtain ⟨x, hx, rfl⟩ := iter0 (g := g) (fun (i : Nat) (a : α) => a = F i) (fun (x : β) => x = b) m (F 0) hm rfl (fun i a hi hI => Or.inl ⟨F (i + 1), by rw [hI]; exact st i hi, rfl⟩) (fun a hI => ⟨b, by rw [hI]; exact fin, rfl⟩)
  exact hx
/-- a loop that looks for the first place -/
theorem iter_find {γ : Type} {g : Int32 → Option (Int32 ⊕ (Int32 ⊕ γ))} (P : Nat → Bool) (V : Nat → γ) (n i0 : Nat) (hn : n < 100000) (hi : i0 ≤ n)
    (h1 : ∀ i, i0 ≤ i → i < n → P i = false → g (nI i) = some (.inl (nI (i + 1)))) (h2 : ∀ i, i0 ≤ i → i < n → P i = true → g (nI i) = some (.inr (.inr (V i)))) (h3 : ∃ e, g (nI n) = some (.inr (.inl e))) :
    (∃ e, iter g FU (nI i0) = some (.inl e) ∧ ∀ u, i0 ≤ u → u < n → P u = false) ∨ (∃ i, iter g FU (nI i0) = some (.inr (V i)) ∧ i0 ≤ i ∧ i < n ∧ P i = true ∧ ∀ u, i0 ≤ u → u < i → P u = false) := by
  obtain ⟨e, he⟩ := h3
  have key : ∃ b, iter g FU (nI i0) = some b ∧ ((b = .inl e ∧ ∀ u, i0 ≤ u → u < n → P u = false) ∨ (∃ i, b = .inr (V i) ∧ i0 ≤ i ∧ i < n ∧ P i = true ∧ ∀ u, i0 ≤ u → u < i → P u = false)) := by
    refine iter_up (fun (i : Nat) (a : Int32) => a = nI i ∧ i0 ≤ i ∧ ∀ u, i0 ≤ u → u < i → P u = false) (fun (b : Int32 ⊕ γ) => (b = .inl e ∧ ∀ u, i0 ≤ u → u < n → P u = false) ∨ (∃ i, b = .inr (V i) ∧ i0 ≤ i ∧ i < n ∧ P i = true ∧ ∀ u, i0 ≤ u → u < i → P u = false)) n (fun i a hi' hI => ?_) (fun a hI => ?_) (n - i0) i0 _ FU (by omega) (show n - i0 < 100000 by omega) ⟨rfl, Nat.le_refl _, fun u h1 h2 => absurd h2 (by omega)⟩
    · obtain ⟨rfl, q1, q2⟩ := hI
      cases hp : P i with
      | false =>
        refine Or.inl ⟨_, h1 i q1 hi' hp, rfl, by omega, fun u u1 u2 => ?_⟩
        by_cases c : u = i
        · subst c; exact hp
        · exact q2 u u1 (by omega)
      | true => exact Or.inr ⟨_, h2 i q1 hi' hp, Or.inr ⟨i, rfl, q1, hi', hp, q2⟩⟩
    · obtain ⟨rfl, q1, q2⟩ := hI
      exact ⟨_, he, Or.inl ⟨rfl, q2⟩⟩
  obtain ⟨b, hb, hp⟩ := key
  rcases hp with ⟨rfl, h⟩ | ⟨i, rfl, h⟩
  · exact Or.inl ⟨e, hb, h⟩
  · exact Or.inr ⟨i, hb, h⟩
/-- the same from 0, by `ffind` -/
theorem iter_ff {γ : Type} {g : Int32 → Option (Int32 ⊕ (Int32 ⊕ γ))} (P : Nat → Bool) (V : Nat → γ) (n : Nat) (hn : n < 100000)
    (h1 : ∀ i, i < n → P i = false → g (nI i) = some (.inl (nI (i + 1)))) (h2 : ∀ i, i < n → P i = true → g (nI i) = some (.inr (.inr (V i)))) (h3 : ∃ e, g (nI n) = some (.inr (.inl e))) :
    (∃ e, iter g FU (0 : Int32) = some (.inl e) ∧ ffind n P = none) ∨ (∃ i, i < n ∧ iter g FU (0 : Int32) = some (.inr (V i)) ∧ ffind n P = some i) := by
  rcases iter_find P V n 0 hn (Nat.zero_le _) (fun i _ => h1 i) (fun i _ => h2 i) h3 with ⟨e, h, hu⟩ | ⟨i, h, -, hi, hp, hu⟩
  · exact Or.inl ⟨e, h, ffind_none (fun u hu' => hu u (Nat.zero_le _) hu')⟩
  · exact Or.inr ⟨i, hi, h, ffind_some hi hp (fun u hu' => hu u (Nat.zero_le _) hu')⟩
theorem ffind_n {n : Nat} {P : Nat → Bool} : ffind n P = none ↔ ∀ u, u < n → P u = false := by
  constructor
  · intro h u hu
    unfold ffind at h
    rw [List.find?_eq_none] at h
    have := h u (List.mem_range.mpr hu)
    simpa using this
  · exact ffind_none
theorem ffind_first {n i : Nat} {P : Nat → Bool} (h : ffind n P = some i) : ∀ u, u < i → P u = false := by
  intro u hu
  unfold ffind at h
  rw [List.find?_range_eq_some] at h
  have := h.2.2 u hu
  simpa using this
/-- two loops side by side -/
theorem iter2 {α β α' β' : Type} {g : α → Option (α ⊕ β)} {g' : α' → Option (α' ⊕ β')} (I : Nat → α → α' → Prop) (Post : β → β' → Prop) (hi : Nat)
    (step : ∀ i a a', i < hi → I i a a' → (∃ b b', g a = some (.inl b) ∧ g' a' = some (.inl b') ∧ I (i + 1) b b') ∨ (∃ b b', (∀ f, hi - i < f → iter g f a = some b) ∧ (∀ f, hi - i < f → iter g' f a' = some b') ∧ Post b b'))
    (fin : ∀ a a', I hi a a' → ∃ b b', (∀ f, 0 < f → iter g f a = some b) ∧ (∀ f, 0 < f → iter g' f a' = some b') ∧ Post b b') :
    ∀ (d i : Nat) (a : α) (a' : α') (f f' : Nat), i + d = hi → d < f → d < f' → I i a a' → ∃ b b', iter g f a = some b ∧ iter g' f' a' = some b' ∧ Post b b' := by
  intro d
  induction d with
  | zero =>
    intro i a a' f f' h1 h2 h3 hI
    have e : i = hi := by omega
    subst e
    obtain ⟨b, b', q1, q2, q3⟩ := fin a a' hI
    exact ⟨b, b', q1 f h2, q2 f' h3, q3⟩
  | succ d ih =>
    intro i a a' f f' h1 h2 h3 hI
    rcases step i a a' (by omega) hI with ⟨b, b', e1, e2, hI'⟩ | ⟨b, b', q1, q2, q3⟩
    · obtain ⟨f, rfl⟩ : ∃ k, f = k + 1 := ⟨f - 1, by omega⟩
      obtain ⟨f', rfl⟩ : ∃ k, f' = k + 1 := ⟨f' - 1, by omega⟩
      obtain ⟨c, c', q1, q2, q3⟩ := ih (i + 1) b b' f f' (by omega) (by omega) (by omega) hI'
      exact ⟨c, c', iter_n e1 q1, iter_n e2 q2, q3⟩
    · exact ⟨b, b', q1 f (by omega), q2 f' (by omega), q3⟩
/-! ===== sets of candidates: bits of a long ===== -/
def lb (w : Int64) (c : Nat) : Bool := w.toBitVec.getLsbD c
theorem lb_ext {a b : Int64} (h : ∀ u, u < 64 → lb a u = lb b u) : a = b := Int64.toBitVec_inj.mp (BitVec.eq_of_getLsbD_eq (fun i hi => h i hi))
theorem lb_0 (u : Nat) : lb 0 u = false := BitVec.getLsbD_zero
theorem lb_or (a b : Int64) (u : Nat) : lb (a ||| b) u = (lb a u || lb b u) := by unfold lb; rw [Int64.toBitVec_or, BitVec.getLsbD_or]
theorem lb_and (a b : Int64) (u : Nat) : lb (a &&& b) u = (lb a u && lb b u) := by unfold lb; rw [Int64.toBitVec_and, BitVec.getLsbD_and]
theorem lb_xor (a b : Int64) (u : Nat) : lb (a ^^^ b) u = (lb a u ^^ lb b u) := by unfold lb; rw [Int64.toBitVec_xor, BitVec.getLsbD_xor]
theorem lb_one {c : Nat} (hc : c < 64) (u : Nat) : lb ((1 : Int64) <<< ((nI c).toInt64 &&& 63)) u = decide (u = c) := by
  unfold lb
  rw [one_shl hc, BitVec.getLsbD_twoPow]
  by_cases h : u = c
  · subst h; simp [hc]
  · have : ¬ c = u := fun e => h e.symm
    simp [h, this]
theorem lb_m1 : ∀ u, u < 64 → lb (-1) u = true := by decide +kernel
theorem lb_1 : ∀ u, u < 64 → lb 1 u = decide (u = 0) := by decide +kernel
theorem lb_put {w : Int64} {c : Nat} (hc : c < 64) (u : Nat) : lb (w ||| ((1 : Int64) <<< ((nI c).toInt64 &&& 63))) u = (lb w u || decide (u = c)) := by rw [lb_or, lb_one hc]
theorem lb_del {w : Int64} {c : Nat} (hc : c < 64) {u : Nat} (hu : u < 64) : lb (w &&& (((1 : Int64) <<< ((nI c).toInt64 &&& 63)) ^^^ (-1))) u = (lb w u && !decide (u = c)) := by
  rw [lb_and, lb_xor, lb_one hc, lb_m1 u hu, Bool.xor_true]
theorem lb_shr (w : Int64) {c : Nat} (hc : c < 64) {u : Nat} (hu : u < 64) : lb (w >>> ((nI c).toInt64 &&& 63)) u = if c + u < 64 then lb w (c + u) else lb w 63 := by
  unfold lb
  rw [wb_c c hc, Int64.toBitVec_shiftRight, wb_tb, wb_sm c hc, BitVec.sshiftRight_eq', BitVec.getLsbD_sshiftRight, BitVec.toNat_ofNat, Nat.mod_eq_of_lt (show c < 2 ^ 64 by omega)]
  have : ¬ 64 ≤ u := by omega
  simp only [this, decide_false, Bool.not_false, Bool.true_and]
  split
  · rfl
  · rw [BitVec.msb_eq_getLsbD_last]
theorem lb_bit (w : Int64) {c : Nat} (hc : c < 64) : ((w >>> ((nI c).toInt64 &&& 63)) &&& 1) = if lb w c = true then 1 else 0 := by
  apply lb_ext
  intro u hu
  rw [lb_and, lb_1 u hu, lb_shr w hc hu]
  by_cases h : u = 0
  · subst h
    rw [if_pos (show c + 0 < 64 from hc), Nat.add_zero]
    cases lb w c <;> rfl
  · simp only [h, decide_false, Bool.and_false]
    split
    · rw [lb_1 u hu]; simp [h]
    · rw [lb_0]
theorem lcmp_eq (a b : Int64) : lg_cmp a b = 0 ↔ a = b := by
  unfold lg_cmp
  by_cases h : a > b
  · rw [if_pos h]
    constructor
    · intro q; exact absurd q (by decide)
    · intro q; subst q; exact absurd h (fun z => by have := Int64.lt_iff_toInt_lt.mp z; omega)
  · rw [if_neg h]
    by_cases h2 : a = b
    · rw [if_pos h2]; simp [h2]
    · rw [if_neg h2]
      constructor
      · intro q; exact absurd q (by decide)
      · intro q; exact absurd q h2
theorem has_lb (w : Int64) {c : Nat} (hc : c < 64) : fX11_has w (nI c) = some (b2i (lb w c)) := by
  unfold fX11_has
  rw [lb_bit w hc]
  cases h : lb w c with
  | true => rw [if_pos ((lcmp_eq _ _).mpr (by rw [if_pos rfl]))]; rfl
  | false => rw [if_neg (fun q => by have := (lcmp_eq _ _).mp q; rw [if_neg (by decide)] at this; exact absurd this (by decide))]; rfl
