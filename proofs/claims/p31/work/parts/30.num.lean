/-! ===== THE PURE PART: numbers ===== -/
theorem lit (n : Nat) : (OfNat.ofNat n : Int32) = nI n := rfl
theorem gd_nI {α : Type} {k n : Nat} {X : Option α} (h : k < n) (hn : n < 2 ^ 31) : gd (gi (nI k) n) X = X := gd_t (gi_nI h hn)
theorem ixn {k : Nat} (h : k < 2 ^ 31) : ix (nI k) = k := nI_clamp h
theorem bd_some {α β : Type} (a : α) (f : α → Option β) : bd (some a) f = f a := by unfold bd; rw [Option.bind_some]
theorem se_l {α β γ : Type} (f : α → γ) (g : β → γ) (a : α) : Sum.elim f g (.inl a) = f a := by rw [Sum.elim_inl]
theorem se_r {α β γ : Type} (f : α → γ) (g : β → γ) (b : β) : Sum.elim f g (.inr b) = g b := by rw [Sum.elim_inr]
theorem gd_tr {α : Type} (X : Option α) : gd true X = X := gd_t (b := true) (by decide)
theorem iter_s {α β : Type} (g : α → Option (α ⊕ β)) (n : Nat) (a : α) : iter g (n + 1) a = bd (g a) (fun r => Sum.elim (fun a' => iter g n a') (fun b => some b) r) := rfl
/-- a loop that counts up -/
theorem iter_up {α β : Type} {g : α → Option (α ⊕ β)} (I : Nat → α → Prop) (Post : β → Prop) (hi : Nat)
    (step : ∀ i a, i < hi → I i a → (∃ a', g a = some (.inl a') ∧ I (i + 1) a') ∨ (∃ b, g a = some (.inr b) ∧ Post b))
    (fin : ∀ a, I hi a → ∃ b, g a = some (.inr b) ∧ Post b) :
    ∀ (d i : Nat) (a : α) (f : Nat), i + d = hi → d < f → I i a → ∃ b, iter g f a = some b ∧ Post b := by
  intro d
  induction d with
  | zero =>
    intro i a f h1 h2 hI
    obtain ⟨f', rfl⟩ : ∃ f', f = f' + 1 := ⟨f - 1, by omega⟩
    have e : i = hi := by omega
    subst e
    obtain ⟨b, hb, hp⟩ := fin a hI
    exact ⟨b, by rw [iter_s, hb]; rfl, hp⟩
  | succ d ih =>
    intro i a f h1 h2 hI
    obtain ⟨f', rfl⟩ : ∃ f', f = f' + 1 := ⟨f - 1, by omega⟩
    rcases step i a (by omega) hI with ⟨a', ha, hI'⟩ | ⟨b, hb, hp⟩
    · obtain ⟨b, hb, hp⟩ := ih (i + 1) a' f' (by omega) (by omega) hI'
      exact ⟨b, by rw [iter_s, ha]; exact hb, hp⟩
    · exact ⟨b, by rw [iter_s, hb]; rfl, hp⟩
theorem iter0 {α β : Type} {g : α → Option (α ⊕ β)} (I : Nat → α → Prop) (Post : β → Prop) (hi : Nat) (a : α) (hF : hi < 100000) (h0 : I 0 a)
    (step : ∀ i a, i < hi → I i a → (∃ a', g a = some (.inl a') ∧ I (i + 1) a') ∨ (∃ b, g a = some (.inr b) ∧ Post b))
    (fin : ∀ a, I hi a → ∃ b, g a = some (.inr b) ∧ Post b) : ∃ b, iter g FU a = some b ∧ Post b := iter_up I Post hi step fin hi 0 a FU (by omega) hF h0
def b2i (b : Bool) : Int32 := if b then 1 else 0
theorem b2i_t : b2i true = 1 := rfl
theorem b2i_f : b2i false = 0 := rfl
theorem b2i0 {b : Bool} : b2i b = 0 ↔ b = false := by cases b <;> simp [b2i]
theorem isB_b2i (b : Bool) : isB (b2i b) = true := by cases b <;> rfl
def N6 : Int32 := -6
theorem n6 : (-6 : Int32) = N6 := rfl
theorem n6' : -nI 6 = N6 := rfl
theorem nI_ne6 {k : Nat} (h : k < 2 ^ 31) : nI k ≠ N6 := fun e => by
  have := congrArg Int32.toInt e
  rw [nI_toInt h] at this
  have h6 : N6.toInt = -6 := by decide
  omega
theorem nI_inj {a b : Nat} (ha : a < 2 ^ 31) (hb : b < 2 ^ 31) (h : nI a = nI b) : a = b := (nI_eq ha hb).mp h
/-- any Int32 is small and not below 0, or not -/
theorem i32_cases (z : Int32) : (∃ k : Nat, k < 2 ^ 31 ∧ z = nI k) ∨ z < 0 := by
  by_cases h : z < 0
  · exact Or.inr h
  · exact Or.inl (nI_of h)
theorem lt_toInt {a b : Int32} : a < b ↔ a.toInt < b.toInt := Int32.lt_iff_toInt_lt
theorem le_toInt {a b : Int32} : a ≤ b ↔ a.toInt ≤ b.toInt := Int32.le_iff_toInt_le
theorem eq_toInt {a b : Int32} : a = b ↔ a.toInt = b.toInt := Int32.toInt_inj.symm
