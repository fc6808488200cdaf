/-! ===== one machine of the class and one row of the model ===== -/
def SRel (t g h x y k : Nat → Int32) (i : Nat) : Prop := (t (7 + 5 * i) = g i ∧ t (7 + 5 * i + 1) = h i ∧ t (7 + 5 * i + 2) = x i ∧ t (7 + 5 * i + 3) = y i ∧ t (7 + 5 * i + 4) = k i) ∧ (∃ q : Nat, q < 1350 ∧ g i = nI q) ∧ okA (h i) (x i) (y i) (k i)
def ERel (B n : Nat) (t o : Nat → Int32) (z r : Nat → Nat) : Prop := ∀ j, j < n → o j = nI (512 * r j + z j) ∧ z j < 512 ∧ r j ≤ B ∧ t (247 + j) = nI (z j) ∧ (1 ≤ j → t (759 + j) = nI (r j))
def RMx (B : Nat) (t : Nat → Int32) (M : MS) (ns nc n R : Nat) (z r : Nat → Nat) : Prop :=
  (M.1 0 = nI (z 0) ∧ (M.1 1 = 0 ∨ M.1 1 = 1) ∧ M.1 2 = nI R ∧ M.1 4 = nI ns ∧ M.1 5 = nI nc ∧ M.1 6 = nI n) ∧
  (ns ≤ 8 ∧ nc ≤ 40 ∧ 1 ≤ n ∧ n ≤ 512 ∧ R ≤ B) ∧
  (t 0 = M.1 0 ∧ t 1 = M.1 1 ∧ t 2 = M.1 4 ∧ t 3 = M.1 5 ∧ t 4 = M.1 6 ∧ t 5 = M.1 2 ∧ t 6 = M.1 3) ∧
  (∀ i, i < ns → SRel t (M.2.1 0) (M.2.1 1) (M.2.1 2) (M.2.1 3) (M.2.1 4) i) ∧
  (∀ c, c < nc → CRel t (M.2.1 5) (M.2.1 6) (M.2.1 7) (M.2.1 8) (M.2.1 9) c ∧ ∃ k : Nat, k < 1350 ∧ M.2.1 5 c = nI k) ∧
  ERel B n t (M.2.1 10) z r ∧
  (∀ i j, i < n → j < n → z i = z j → i = j) ∧
  (∀ u, u < 512 → (mem M.2.2 u = true ↔ ∃ k, k < n ∧ z k = u))
def RM (B : Nat) (t : Nat → Int32) (M : MS) : Prop := ∃ (ns nc n R : Nat) (z r : Nat → Nat), RMx B t M ns nc n R z r
theorem RM.up {B B' : Nat} {t : Nat → Int32} {M : MS} (h : RM B t M) (hB : B ≤ B') : RM B' t M := by
  obtain ⟨ns, nc, n, R, z, r, h1, ⟨a1, a2, a3, a4, a5⟩, h3, h4, h5, h6, h7⟩ := h
  refine ⟨ns, nc, n, R, z, r, h1, ⟨a1, a2, a3, a4, Nat.le_trans a5 hB⟩, h3, h4, h5, fun j hj => ?_, h7⟩
  obtain ⟨b1, b2, b3, b4⟩ := h6 j hj
  exact ⟨b1, b2, Nat.le_trans b3 hB, b4⟩
/-- only the cells in use count -/
theorem RM.congr {B : Nat} {t t' : Nat → Int32} {M M' : MS} (h : RM B t M) (ht : ∀ j, j < 1271 → t' j = t j) (h0 : ∀ i, i < 7 → M'.1 i = M.1 i) (h1 : ∀ w, w < 5 → ∀ i, i < 8 → M'.2.1 w i = M.2.1 w i) (h2 : ∀ w, 5 ≤ w → w < 10 → ∀ i, i < 40 → M'.2.1 w i = M.2.1 w i) (h3 : ∀ n : Nat, n ≤ 512 → M.1 6 = nI n → ∀ i, i < n → M'.2.1 10 i = M.2.1 10 i) (h4 : ∀ j, j < 8 → M'.2.2 j = M.2.2 j) : RM B t' M' := by
  obtain ⟨ns, nc, n, R, z, r, ⟨a1, a2, a3, a4, a5, a6⟩, ⟨b1, b2, b3, b4, b5⟩, ⟨c1, c2, c3, c4, c5, c6, c7⟩, d, e, f, g, hm⟩ := h
  refine ⟨ns, nc, n, R, z, r, ⟨?_, ?_, ?_, ?_, ?_, ?_⟩, ⟨b1, b2, b3, b4, b5⟩, ⟨?_, ?_, ?_, ?_, ?_, ?_, ?_⟩, fun i hi => ?_, fun c hc => ?_, fun j hj => ?_, g, fun u hu => ?_⟩
  · rw [h0 0 (by decide), a1]
  · rw [h0 1 (by decide)]; exact a2
  · rw [h0 2 (by decide), a3]
  · rw [h0 4 (by decide), a4]
  · rw [h0 5 (by decide), a5]
  · rw [h0 6 (by decide), a6]
  · rw [ht 0 (by decide), h0 0 (by decide), c1]
  · rw [ht 1 (by decide), h0 1 (by decide), c2]
  · rw [ht 2 (by decide), h0 4 (by decide), c3]
  · rw [ht 3 (by decide), h0 5 (by decide), c4]
  · rw [ht 4 (by decide), h0 6 (by decide), c5]
  · rw [ht 5 (by decide), h0 2 (by decide), c6]
  · rw [ht 6 (by decide), h0 3 (by decide), c7]
  · obtain ⟨⟨q0, q1, q2, q3, q4⟩, q5, q6⟩ := d i hi
    unfold SRel
    rw [h1 0 (by decide) i (by omega), h1 1 (by decide) i (by omega), h1 2 (by decide) i (by omega), h1 3 (by decide) i (by omega), h1 4 (by decide) i (by omega), ht _ (by omega), ht _ (by omega), ht _ (by omega), ht _ (by omega), ht _ (by omega)]
    exact ⟨⟨q0, q1, q2, q3, q4⟩, q5, q6⟩
  · obtain ⟨⟨q0, q1, q2, q3, q4⟩, q5⟩ := e c hc
    unfold CRel
    rw [h2 5 (by decide) (by decide) c (by omega), h2 6 (by decide) (by decide) c (by omega), h2 7 (by decide) (by decide) c (by omega), h2 8 (by decide) (by decide) c (by omega), h2 9 (by decide) (by decide) c (by omega), ht _ (by omega), ht _ (by omega), ht _ (by omega), ht _ (by omega), ht _ (by omega)]
    exact ⟨⟨q0, q1, q2, q3, q4⟩, q5⟩
  · obtain ⟨q0, q1, q2, q3, q4⟩ := f j hj
    refine ⟨by rw [h3 n b4 a6 j hj, q0], q1, q2, by rw [ht _ (by omega), q3], fun hj1 => by rw [ht _ (by omega), q4 hj1]⟩
  · rw [mem_congr h4 hu]
    exact hm u hu
