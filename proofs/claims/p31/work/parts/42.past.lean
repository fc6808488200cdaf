/-! ===== what is recorded ===== -/
theorem e1271 (h i : Nat) : (1271 : Int32) * nI h + nI i = nI (1271 * h + i) := by rw [show (1271 : Int32) = nI 1271 from rfl, pk_mul, nI_add]
theorem put_eq {t was : Nat → Int32} {h : Nat} (hh : h < 6) : ∃ was', jX11_records_58 t (nI h) was = some (nI (h + 1), was') ∧ (∀ j, j < 1271 → was' (1271 * h + j) = t j) ∧ (∀ q, q < 1271 * h → was' q = was q) := by
  have key : ∃ b, iter (gX11_records_60 t (nI h)) FU ((0 : Int32), was) = some b ∧ (∀ j, j < 1271 → b.2 (1271 * h + j) = t j) ∧ (∀ q, q < 1271 * h → b.2 q = was q) := by
    refine iter0 (fun i (a : Int32 × (Nat → Int32)) => a.1 = nI i ∧ (∀ j, j < i → a.2 (1271 * h + j) = t j) ∧ (∀ q, q < 1271 * h → a.2 q = was q)) (fun (b : Int32 × (Nat → Int32)) => (∀ j, j < 1271 → b.2 (1271 * h + j) = t j) ∧ (∀ q, q < 1271 * h → b.2 q = was q)) 1271 _ (by decide) ⟨rfl, fun j hj => absurd hj (Nat.not_lt_zero _), fun q _ => rfl⟩ (fun i a hi hI => Or.inl ?_) (fun a hI => ?_)
    · obtain ⟨x, w⟩ := a
      obtain ⟨rfl, h1, h2⟩ := hI
      unfold gX11_records_60
      dsimp only at h1 h2 ⊢
      rw [if_neg (c_ge (N := 1271) (n := 1271) rfl hi (by decide)), e1271, gd_nI hi (by decide), gd_nI (by omega) (by decide), ixn (by omega), ixn (by omega)]
      refine ⟨_, rfl, nI1 i, fun j hj => ?_, fun q hq => ?_⟩
      · show upd w (1271 * h + i) (t i) _ = _
        by_cases e : j = i
        · subst e; rw [upd_s]
        · rw [upd_o (by omega)]; exact h1 j (by omega)
      · show upd w (1271 * h + i) (t i) _ = _
        rw [upd_o (by omega)]; exact h2 q hq
    · obtain ⟨x, w⟩ := a
      obtain ⟨rfl, h1, h2⟩ := hI
      unfold gX11_records_60
      dsimp only at h1 h2 ⊢
      rw [if_pos (c_le (N := 1271) (n := 1271) rfl (Nat.le_refl _) (by decide))]
      exact ⟨_, rfl, h1, h2⟩
  obtain ⟨b, hb, hp⟩ := key
  unfold jX11_records_58
  rw [hb, bd_some]
  exact ⟨_, by rw [nI1], hp⟩
theorem shift_eq (was : Nat → Int32) : ∃ b, iter gX11_records_19 FU ((0 : Int32), was) = some b ∧ ∀ q, q < 6355 → b.2 q = was (q + 1271) := by
  refine iter0 (fun i (a : Int32 × (Nat → Int32)) => a.1 = nI i ∧ (∀ q, q < i → a.2 q = was (q + 1271)) ∧ (∀ q, i ≤ q → a.2 q = was q)) (fun (b : Int32 × (Nat → Int32)) => ∀ q, q < 6355 → b.2 q = was (q + 1271)) 6355 _ (by decide) ⟨rfl, fun j hj => absurd hj (Nat.not_lt_zero _), fun q _ => rfl⟩ (fun i a hi hI => Or.inl ?_) (fun a hI => ?_)
  · obtain ⟨x, w⟩ := a
    obtain ⟨rfl, h1, h2⟩ := hI
    unfold gX11_records_19
    dsimp only at h1 h2 ⊢
    rw [if_neg (c_ge (N := 6355) (n := 6355) rfl hi (by decide)), show (1271 : Int32) = nI 1271 from rfl, nI_add, gd_nI (by omega) (by decide), gd_nI (by omega) (by decide), ixn (by omega), ixn (by omega)]
    refine ⟨_, rfl, nI1 i, fun q hq => ?_, fun q hq => ?_⟩
    · show upd w i (w (i + 1271)) q = _
      by_cases e : q = i
      · subst e; rw [upd_s]; exact h2 _ (by omega)
      · rw [upd_o e]; exact h1 q (by omega)
    · show upd w i (w (i + 1271)) q = _
      rw [upd_o (by omega)]; exact h2 q (by omega)
  · obtain ⟨x, w⟩ := a
    obtain ⟨rfl, h1, h2⟩ := hI
    unfold gX11_records_19
    dsimp only at h1 h2 ⊢
    rw [if_pos (c_le (N := 6355) (n := 6355) rfl (Nat.le_refl _) (by decide))]
    exact ⟨_, rfl, h1⟩
def RH (B : Nat) (was : Nat → Int32) (sv h_n : Int32) (K : Nat → MS) : Prop := ∃ hn : Nat, hn ≤ 6 ∧ h_n = nI hn ∧ sv = nI hn ∧ ∀ i, i < hn → RM B (fun j => was (1271 * i + j)) (K i)
theorem RH.up {B B' : Nat} {was : Nat → Int32} {sv h_n : Int32} {K : Nat → MS} (h : RH B was sv h_n K) (hB : B ≤ B') : RH B' was sv h_n K := by
  obtain ⟨hn, h1, h2, h3, h4⟩ := h
  exact ⟨hn, h1, h2, h3, fun i hi => (h4 i hi).up hB⟩
theorem RM.t {B : Nat} {t t' : Nat → Int32} {M : MS} (h : RM B t M) (ht : ∀ j, j < 1271 → t' j = t j) : RM B t' M := h.congr ht (fun _ _ => rfl) (fun _ _ _ _ => rfl) (fun _ _ _ _ _ => rfl) (fun _ _ _ _ _ => rfl) (fun _ _ => rfl)
theorem confirm_neg {h_n p : Int32} {K : Nat → MS} (hp : p < 0) : fX2_confirm h_n K p = some (p, h_n, K) := by
  unfold fX2_confirm
  rw [if_neg (by rw [le_toInt, tI0]; rw [lt_toInt, tI0] at hp; omega)]
theorem upK_s {K : Nat → MS} {i : Nat} {M : MS} : upK K i M i = M := by unfold upK; rw [if_pos rfl]
theorem upK_o {K : Nat → MS} {i j : Nat} {M : MS} (h : ¬ j = i) : upK K i M j = K j := by unfold upK; rw [if_neg h]
theorem prep_eq {B : Nat} {t was : Nat → Int32} {sv h_n : Int32} {K : Nat → MS} {M : MS} (h : RH B was sv h_n K) (hM : RM B t M) : ∃ K', fX2_prepare h_n K M = some K' ∧ RH B was sv h_n K' ∧ ∃ was' sv', fX11_records t was sv 0 = some (sv', was') ∧ ∀ p : Int32, 0 ≤ p → ∃ h' K'', fX2_confirm h_n K' p = some (p, h', K'') ∧ RH B was' sv' h' K'' := by
  obtain ⟨hn, h1, rfl, rfl, h4⟩ := h
  obtain ⟨R, e1, hR⟩ := kcopy_eq (K hn) hM
  have hK : ∀ i, i < hn → upK K hn R i = K i := fun i hi => upK_o (by omega)
  refine ⟨upK K hn R, ?_, ⟨hn, h1, rfl, rfl, fun i hi => by rw [hK i hi]; exact h4 i hi⟩, ?_⟩
  · unfold fX2_prepare
    rw [gd_nI (by omega) (by decide), ixn (by omega), e1, bd_some]
  · unfold fX11_records
    rw [if_pos rfl]
    by_cases h6 : hn = 6
    · subst h6
      obtain ⟨b, hb, hs⟩ := shift_eq was
      obtain ⟨w', ew, p1, p2⟩ := put_eq (t := t) (was := b.2) (h := 5) (by decide)
      rw [if_pos (show nI 6 = 6 from rfl), hb, bd_some, show nI 6 - (1 : Int32) = nI 5 by decide, ew]
      refine ⟨w', _, rfl, fun p hp => ?_⟩
      unfold fX2_confirm
      rw [if_pos hp, if_pos (show (6 : Int32) ≤ nI 6 by decide)]
      refine ⟨_, _, rfl, 6, by decide, rfl, rfl, fun i hi => ?_⟩
      unfold rotK
      rw [if_pos hi]
      by_cases e : i = 5
      · subst e
        rw [upK_s]
        exact hR.t (fun j hj => p1 j hj)
      · rw [upK_o (by omega)]
        refine (h4 (i + 1) (by omega)).t (fun j hj => ?_)
        show w' (1271 * i + j) = was (1271 * (i + 1) + j)
        rw [p2 _ (by omega), hs _ (by omega), show 1271 * i + j + 1271 = 1271 * (i + 1) + j by omega]
    · obtain ⟨w', ew, p1, p2⟩ := put_eq (t := t) (was := was) (h := hn) (by omega)
      rw [if_neg (show ¬ nI hn = (6 : Int32) from fun e => h6 (nI_inj (b := 6) (by omega) (by decide) e)), ew]
      refine ⟨w', _, rfl, fun p hp => ?_⟩
      unfold fX2_confirm
      rw [if_pos hp, if_neg (c_ge (N := 6) (n := 6) rfl (by omega) (by decide))]
      refine ⟨_, _, rfl, hn + 1, by omega, nI1 hn, rfl, fun i hi => ?_⟩
      by_cases e : i = hn
      · subst e
        rw [upK_s]
        exact hR.t (fun j hj => p1 j hj)
      · rw [hK i (by omega)]
        refine (h4 i (by omega)).t (fun j hj => ?_)
        show w' (1271 * i + j) = was (1271 * i + j)
        rw [p2 _ (by omega)]
