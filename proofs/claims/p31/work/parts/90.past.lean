/-! ===== the class alone: what is kept, as a list of pictures ===== -/
abbrev RW : Type := Nat → Int32
def zR : RW := fun _ => 0
/-- the pictures that are kept, the oldest first -/
def push (L : List RW) (t : RW) : List RW := if L.length < 6 then L ++ [t] else L.drop 1 ++ [t]
def HH (B : Nat) (L : List RW) (h_n : Int32) (K : Nat → MS) : Prop := L.length ≤ 6 ∧ h_n = nI L.length ∧ ∀ i t, L[i]? = some t → RM B t (K i)
theorem HH.up {B B' : Nat} {L : List RW} {h_n : Int32} {K : Nat → MS} (h : HH B L h_n K) (hB : B ≤ B') : HH B' L h_n K := ⟨h.1, h.2.1, fun i t hi => (h.2.2 i t hi).up hB⟩
theorem push_len {L : List RW} {t : RW} (h : L.length ≤ 6) : (push L t).length = if L.length < 6 then L.length + 1 else 6 := by
  unfold push
  by_cases c : L.length < 6
  · rw [if_pos c, if_pos c, List.length_append]; rfl
  · rw [if_neg c, if_neg c, List.length_append, List.length_drop, List.length_singleton]; omega
theorem hprep {B : Nat} {t : RW} {L : List RW} {h_n : Int32} {K : Nat → MS} {M : MS} (h : HH B L h_n K) (hM : RM B t M) : ∃ K', fX2_prepare h_n K M = some K' ∧ HH B L h_n K' ∧ ∀ p : Int32, 0 ≤ p → ∃ h' K'', fX2_confirm h_n K' p = some (p, h', K'') ∧ HH B (push L t) h' K'' := by
  obtain ⟨h1, rfl, h4⟩ := h
  obtain ⟨R, e1, hR⟩ := kcopy_eq (K L.length) hM
  have hK : ∀ i, i < L.length → upK K L.length R i = K i := fun i hi => upK_o (by omega)
  have lt_of : ∀ (L : List RW) (i : Nat) (u : RW), L[i]? = some u → i < L.length := fun L i u e => (List.getElem?_eq_some_iff.mp e).1
  refine ⟨upK K L.length R, ?_, ⟨h1, rfl, fun i u hi => by rw [hK i (lt_of _ _ _ hi)]; exact h4 i u hi⟩, fun p hp => ?_⟩
  · unfold fX2_prepare
    rw [gd_nI (by omega) (by decide), ixn (by omega), e1, bd_some]
  · unfold fX2_confirm
    rw [if_pos hp]
    by_cases h6 : L.length = 6
    · rw [if_pos (show (6 : Int32) ≤ nI L.length by rw [h6]; decide)]
      have hl : (push L t).length = 6 := by rw [push_len h1, if_neg (by omega)]
      refine ⟨_, _, rfl, by omega, by rw [hl, h6], fun i u hi => ?_⟩
      have hi6 : i < 6 := by have := lt_of _ _ _ hi; omega
      unfold rotK
      rw [if_pos hi6]
      unfold push at hi
      rw [if_neg (by omega)] at hi
      by_cases e : i = 5
      · subst e
        rw [List.getElem?_append_right (by rw [List.length_drop]; omega), List.length_drop] at hi
        have : u = t := by
          rw [h6] at hi
          exact (Option.some.inj hi).symm
        rw [show (5 + 1 : Nat) = L.length by omega, upK_s, this]
        exact hR
      · rw [List.getElem?_append_left (by rw [List.length_drop]; omega), List.getElem?_drop] at hi
        rw [upK_o (by omega)]
        exact h4 (i + 1) u (by rw [Nat.add_comm]; exact hi)
    · rw [if_neg (c_ge (N := 6) (n := 6) rfl (by omega) (by decide))]
      have hl : (push L t).length = L.length + 1 := by rw [push_len h1, if_pos (by omega)]
      refine ⟨_, _, rfl, by omega, by rw [hl]; exact nI1 _, fun i u hi => ?_⟩
      unfold push at hi
      rw [if_pos (by omega)] at hi
      by_cases e : i = L.length
      · subst e
        rw [List.getElem?_append_right (Nat.le_refl _), Nat.sub_self] at hi
        have : u = t := (Option.some.inj hi).symm
        rw [upK_s, this]
        exact hR
      · have hlt : i < L.length := by
          have := lt_of _ _ _ hi
          rw [List.length_append] at this
          simp at this
          omega
        rw [List.getElem?_append_left hlt] at hi
        rw [hK i hlt]
        exact h4 i u hi
/-- the last picture comes back -/
theorem hback {B : Nat} {t : RW} {L : List RW} {h_n : Int32} {K : Nat → MS} {M : MS} (hM : RM B t M) (hH : HH B L h_n K) :
    (L = [] ∧ fX2_takeBack h_n K M = some (0, h_n, M)) ∨ (∃ (L' : List RW) (u : RW) (R : MS), L = L' ++ [u] ∧ fX2_takeBack h_n K M = some (1, nI L'.length, R) ∧ RM B u R ∧ HH B L' (nI L'.length) K) := by
  obtain ⟨h1, rfl, h4⟩ := hH
  unfold fX2_takeBack
  rcases List.eq_nil_or_concat L with rfl | ⟨L', u, rfl⟩
  · left
    exact ⟨rfl, rfl⟩
  · right
    rw [List.concat_eq_append] at *
    have hl : (L' ++ [u]).length = L'.length + 1 := by rw [List.length_append]; rfl
    rw [hl] at h1 ⊢
    obtain ⟨R, e, hR⟩ := kcopy_eq M (h4 L'.length u (by rw [List.getElem?_append_right (Nat.le_refl _), Nat.sub_self]; rfl))
    refine ⟨L', u, R, rfl, ?_, hR, by omega, rfl, fun i v hi => h4 i v ?_⟩
    · rw [if_pos (show 0 < nI (L'.length + 1) by rw [lt_toInt, nI_toInt (by omega), tI0]; omega), nI_p, gd_nI (by omega) (by decide), ixn (by omega), e, bd_some]
    · have := (List.getElem?_eq_some_iff.mp hi).1
      rw [List.getElem?_append_left this]; exact hi
theorem quiet1 (t : RW) : fX11_records t zR 0 1 = some (0, zR) := quiet_q t zR 0
