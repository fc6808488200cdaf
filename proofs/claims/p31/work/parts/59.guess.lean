/-! ===== guess ===== -/
abbrev GA : Type := Int32 × Int32 × Int32 × (Nat → Int32) × (Nat → Int32) × (Nat → Int32) × (Nat → Int32) × (Nat → Int32)
abbrev GB : Type := Int32 × Int32 × (Nat → Int32)
/-- with forty candidates the class goes through the rest and nothing comes -/
theorem guess_full {B : Nat} {t : Nat → Int32} {a w ru ro sn en : Int32} {g hh x y k cc cf cs cm cr eo : Nat → Int32} {we : Nat → Int64} (hB : B < 4000000) (h : RM B t (snap a w ru ro sn g hh x y k (nI 40) cc cf cs cm cr en eo we)) {p : Nat} (hp : p < 10) (v : Int32) :
    ∀ (d i f : Nat), i + d = 135 → d < f → iter (gX3_addGuesses_25 a en eo (nI p)) f (v, nI (135 * p + i), nI 40, cc, cf, cs, cm, cr) = some (v, nI (135 * p + 135), nI 40, cc, cf, cs, cm, cr) := by
  have hb : (135 : Int32) * nI p + 135 = nI (135 * p + 135) := by rw [show (135 : Int32) = nI 135 from rfl, pk_mul, nI_add]
  intro d
  induction d with
  | zero =>
    intro i f h1 h2
    have : i = 135 := by omega
    subst this
    refine iter_e ?_ h2
    unfold gX3_addGuesses_25
    dsimp only
    rw [hb, if_pos (c_le (n := 135 * p + 135) rfl (Nat.le_refl _) (by omega))]
  | succ d ih =>
    intro i f h1 h2
    obtain ⟨f, rfl⟩ : ∃ j, f = j + 1 := ⟨f - 1, by omega⟩
    refine iter_n (a' := (v, nI (135 * p + (i + 1)), nI 40, cc, cf, cs, cm, cr)) ?_ (ih (i + 1) f (by omega) (by omega))
    obtain ⟨ns, nc, n, R, z, r, ⟨a1, a2, a3, a4, a5, a6⟩, ⟨b1, b2, b3, b4, b5⟩, -, -, -, f5, -⟩ := RMsn h
    have ho : ∀ j, j < n → eo j = nI (512 * r j + z j) ∧ z j < 512 ∧ r j < 4000000 := fun j hj => by
      obtain ⟨q1, q2, q3, -⟩ := f5 j hj
      exact ⟨q1, q2, by omega⟩
    unfold gX3_addGuesses_25
    dsimp only
    rw [hb, if_neg (c_ge (n := 135 * p + 135) rfl (show 135 * p + i < 135 * p + 135 by omega) (by omega)), isCode_eq, bd_some, nI1]
    cases hv : vc (nI (135 * p + i)) with
    | false => rw [if_pos (by decide)]; rfl
    | true =>
      rw [if_neg (by decide), a6, seenMiss_eq (show 135 * p + i < 1350 by omega) b4 ho, bd_some]
      by_cases hq : oN (fms n z (nI (135 * p + i))) = -6
      · rw [if_pos hq]
        have : fX3_addCandidate a (nI 40) cc cf cs cm cr (nI n) eo (nI (135 * p + i)) = some ((-4 : Int32), nI 40, cc, cf, cs, cm, cr) := by
          unfold fX3_addCandidate
          rw [isCode_eq, bd_some, hv, if_neg (by decide), if_neg (by decide)]
        rw [this, bd_some, if_pos (show (-4 : Int32) < 0 by decide)]; rfl
      · rw [if_neg hq]; rfl
set_option maxHeartbeats 1000000 in
theorem guess_loop {B : Nat} {t : Nat → Int32} {a w ru ro sn cn en : Int32} {g hh x y k cc cf cs cm cr eo : Nat → Int32} {we : Nat → Int64} (hB : B < 4000000) (h : RM B t (snap a w ru ro sn g hh x y k cn cc cf cs cm cr en eo we)) {p : Nat} (hp : p < 10) :
    ∃ (b : GA) (b' : GB), iter (gX3_addGuesses_25 a en eo (nI p)) FU ((0 : Int32), (135 : Int32) * nI p, cn, cc, cf, cs, cm, cr) = some b ∧ iter (gX11_guess_25 (nI p)) FU ((0 : Int32), (135 : Int32) * nI p, t) = some b' ∧ b'.1 = b.1 ∧ 0 ≤ b.1 ∧ RM B b'.2.2 (snap a w ru ro sn g hh x y k b.2.2.1 b.2.2.2.1 b.2.2.2.2.1 b.2.2.2.2.2.1 b.2.2.2.2.2.2.1 b.2.2.2.2.2.2.2 en eo we) := by
  have hb : (135 : Int32) * nI p + 135 = nI (135 * p + 135) := by rw [show (135 : Int32) = nI 135 from rfl, pk_mul, nI_add]
  have hb0 : (135 : Int32) * nI p = nI (135 * p + 0) := by rw [show (135 : Int32) = nI 135 from rfl, pk_mul]; rfl
  have main := iter2 (g := gX3_addGuesses_25 a en eo (nI p)) (g' := gX11_guess_25 (nI p)) (fun (i : Nat) (c : GA) (c' : GB) => c.2.1 = nI (135 * p + i) ∧ c'.2.1 = nI (135 * p + i) ∧ c'.1 = c.1 ∧ (∃ v : Nat, v ≤ i ∧ c.1 = nI v) ∧ RM B c'.2.2 (snap a w ru ro sn g hh x y k c.2.2.1 c.2.2.2.1 c.2.2.2.2.1 c.2.2.2.2.2.1 c.2.2.2.2.2.2.1 c.2.2.2.2.2.2.2 en eo we))
    (fun (b : GA) (b' : GB) => b'.1 = b.1 ∧ 0 ≤ b.1 ∧ RM B b'.2.2 (snap a w ru ro sn g hh x y k b.2.2.1 b.2.2.2.1 b.2.2.2.2.1 b.2.2.2.2.2.1 b.2.2.2.2.2.2.1 b.2.2.2.2.2.2.2 en eo we)) 135 (fun i c c' hi hI => ?_) (fun c c' hI => ?_) 135 0 ((0 : Int32), (135 : Int32) * nI p, cn, cc, cf, cs, cm, cr) ((0 : Int32), (135 : Int32) * nI p, t) FU FU (by omega) (by decide) (by decide) ⟨hb0, hb0, rfl, ⟨0, Nat.le_refl _, rfl⟩, h⟩
  · exact main
  · obtain ⟨c1, c2, c3, c4, c5, c6, c7, c8⟩ := c
    obtain ⟨d1, d2, d3⟩ := c'
    obtain ⟨e1, e2, e3, ⟨v, hv, e4⟩, hR⟩ := hI
    dsimp only at e1 e2 e3 e4 hR
    subst e1 e2 e3 e4
    obtain ⟨ns, nc, n, R, z, r, ⟨a1, a2, a3, a4, a5, a6⟩, ⟨b1, b2, b3, b4, b5⟩, ⟨o1, o2, o3, o4, o5, o6, o7⟩, dd, ee, f5, -⟩ := RMsn hR
    subst a5
    have ho : ∀ j, j < n → eo j = nI (512 * r j + z j) ∧ z j < 512 ∧ r j < 4000000 := fun j hj => by
      obtain ⟨q1, q2, q3, -⟩ := f5 j hj
      exact ⟨q1, q2, by omega⟩
    have v0 : (0 : Int32) ≤ nI v := by rw [le_toInt, tI0, nI_toInt (by omega)]; omega
    by_cases hf : nc = 40
    · right
      subst hf
      refine ⟨_, (nI v, nI (135 * p + i), d3), fun f hf => guess_full hB hR hp (nI v) (135 - i) i f (by omega) hf, fun f hf => iter_e ?_ (by omega), rfl, v0, hR⟩
      unfold gX11_guess_25
      dsimp only
      rw [hb, if_neg (c_ge (n := 135 * p + 135) rfl (show 135 * p + i < 135 * p + 135 by omega) (by omega)), gg3, gd_tr, ii3, if_pos (show (40 : Int32) ≤ d3 3 by rw [o4]; decide)]
    · left
      have hn : nc < 40 := by omega
      unfold gX3_addGuesses_25 gX11_guess_25
      dsimp only
      rw [hb, if_neg (c_ge (n := 135 * p + 135) rfl (show 135 * p + i < 135 * p + 135 by omega) (by omega)), if_neg (c_ge (n := 135 * p + 135) rfl (show 135 * p + i < 135 * p + 135 by omega) (by omega)), gg3, gd_tr, ii3, if_neg (show ¬ (40 : Int32) ≤ d3 3 by rw [o4]; exact c_ge (N := 40) (n := 40) rfl hn (by decide)), isCode_eq, isCode_01, bd_some, bd_some]
      cases hvc : vc (nI (135 * p + i)) with
      | false =>
        rw [if_pos (by decide), if_pos (by decide)]
        exact ⟨_, _, rfl, rfl, nI1 _, nI1 _, rfl, ⟨v, by omega, rfl⟩, hR⟩
      | true =>
        have hq : 135 * p + i < 1350 := by omega
        rw [if_neg (by decide), if_neg (by decide), isThere_eq (by omega) o4 (fun c hc => (ee c hc).1.1), bd_some, isSeenSo_eq b4 (by rw [o5, a6]) (fun j hj => (f5 j hj).2.2.2.1), bd_some]
        have em : fX6_firstMiss en eo (nI (135 * p + i)) = some (oN (fms n z (nI (135 * p + i)))) := by rw [a6]; exact seenMiss_eq hq b4 ho
        rw [em, bd_some]
        cases hm : fms n z (nI (135 * p + i)) with
        | some j =>
          have hj := fms_lt hm
          rw [oN_some, if_neg (ne6 (by omega))]
          cases ht : thr nc c4 (nI (135 * p + i)) with
          | true =>
            rw [if_neg (by decide)]
            exact ⟨_, _, rfl, rfl, nI1 _, nI1 _, rfl, ⟨v, by omega, rfl⟩, hR⟩
          | false =>
            rw [if_pos (by decide), if_pos (show b2i (decide (some j = none)) = 0 from rfl)]
            exact ⟨_, _, rfl, rfl, nI1 _, nI1 _, rfl, ⟨v, by omega, rfl⟩, hR⟩
        | none =>
          rw [oN_none, if_pos rfl]
          unfold fX3_addCandidate
          rw [isCode_eq, bd_some, hvc, if_neg (by decide), if_pos (show nI nc < (40 : Int32) from nI_lt (b := 40) hn (by decide)), hasCode_eq (by omega), bd_some]
          cases ht : thr nc c4 (nI (135 * p + i)) with
          | true =>
            rw [if_neg (by decide), if_neg (by decide), bd_some, if_pos (show (-5 : Int32) < 0 by decide)]
            exact ⟨_, _, rfl, rfl, nI1 _, nI1 _, rfl, ⟨v, by omega, rfl⟩, hR⟩
          | false =>
            obtain ⟨t', f, s, m, r', g1, g2, g3, g4⟩ := comes_eq hB hR hn hq
            rw [if_pos (by decide), if_pos (by decide), if_neg (show ¬ b2i (decide ((none : Option Nat) = none)) = 0 by decide), gd_nI hn (by decide), ixn (by omega), g2, bd_some, bd_some, g1, bd_some, if_neg (show ¬ nI nc < 0 from c_lt0 (by omega))]
            exact ⟨_, _, rfl, rfl, nI1 _, nI1 _, rfl, ⟨v + 1, by omega, nI1 v⟩, by rw [← nI1 nc] at g4; exact g4⟩
  · obtain ⟨c1, c2, c3, c4, c5, c6, c7, c8⟩ := c
    obtain ⟨d1, d2, d3⟩ := c'
    obtain ⟨e1, e2, e3, ⟨v, hv, e4⟩, hR⟩ := hI
    dsimp only at e1 e2 e3 e4 hR
    subst e1 e2 e3 e4
    have v0 : (0 : Int32) ≤ nI v := by rw [le_toInt, tI0, nI_toInt (by omega)]; omega
    refine ⟨(nI v, nI (135 * p + 135), c3, c4, c5, c6, c7, c8), (nI v, nI (135 * p + 135), d3), fun f hf => iter_e ?_ hf, fun f hf => iter_e ?_ hf, rfl, v0, hR⟩
    · unfold gX3_addGuesses_25
      dsimp only
      rw [hb, if_pos (c_le (n := 135 * p + 135) rfl (Nat.le_refl _) (by omega))]
    · unfold gX11_guess_25
      dsimp only
      rw [hb, if_pos (c_le (n := 135 * p + 135) rfl (Nat.le_refl _) (by omega))]
theorem in_19 (p : Int32) : (fX11_in p 1 9 = some 0 ∧ (p < 1 ∨ ¬ p < 1 ∧ ¬ p ≤ 9)) ∨ (fX11_in p 1 9 = some 1 ∧ ¬ p < 1 ∧ p ≤ 9 ∧ ∃ q : Nat, q < 10 ∧ p = nI q) := by
  rcases in_01 p 1 9 with ⟨e, h⟩ | ⟨e, h1, h2⟩
  · left
    refine ⟨e, ?_⟩
    rw [tI1, tI9] at h
    rw [lt_toInt, le_toInt, tI1, tI9]; omega
  · right
    rw [tI1] at h1; rw [tI9] at h2
    obtain ⟨d, hd, rfl⟩ : ∃ d : Nat, d < 2 ^ 31 ∧ p = nI d := nI_of (by rw [lt_toInt, tI0]; omega)
    rw [nI_toInt hd] at h1 h2
    refine ⟨e, ?_, ?_, d, by omega, rfl⟩
    · rw [lt_toInt, tI1, nI_toInt hd]; omega
    · rw [le_toInt, tI9, nI_toInt hd]; omega
theorem op_guess {B : Nat} {t was : Nat → Int32} {sv h_n : Int32} {K : Nat → MS} {M : MS} (hB : B < 4000000) (hM : RM B t M) (hH : RH B was sv h_n K) (p0 : Int32) :
    ∃ ans hn' cn cc f s m r K' t' was' sv', fX10_guess h_n (M.1 0) (M.1 1) (M.1 2) (M.1 3) (M.1 4) (M.2.1 0) (M.2.1 1) (M.2.1 2) (M.2.1 3) (M.2.1 4) (M.1 5) (M.2.1 5) (M.2.1 6) (M.2.1 7) (M.2.1 8) (M.2.1 9) (M.1 6) (M.2.1 10) M.2.2 K p0 = some (ans, hn', cn, cc, f, s, m, r, K') ∧ fX11_guess t was sv 0 p0 = some (ans, sv', t', was') ∧
    RM B t' (snap (M.1 0) (M.1 1) (M.1 2) (M.1 3) (M.1 4) (M.2.1 0) (M.2.1 1) (M.2.1 2) (M.2.1 3) (M.2.1 4) cn cc f s m r (M.1 6) (M.2.1 10) M.2.2) ∧ RH B was' sv' hn' K' := by
  obtain ⟨K1, k1, k2, was1, sv1, k3, k4⟩ := prep_eq hH hM.sn
  unfold fX10_guess fX11_guess fX3_addGuesses
  rw [k1, bd_some]
  rcases in_19 p0 with ⟨e, h⟩ | ⟨e, h1, h2, q, hq, rfl⟩
  · have : (if p0 < (1 : Int32) then some ((-2 : Int32), M.1 5, M.2.1 5, M.2.1 6, M.2.1 7, M.2.1 8, M.2.1 9) else if p0 ≤ (9 : Int32) then bd (iter (gX3_addGuesses_25 (M.1 0) (M.1 6) (M.2.1 10) p0) FU ((0 : Int32), (135 : Int32) * p0, M.1 5, M.2.1 5, M.2.1 6, M.2.1 7, M.2.1 8, M.2.1 9)) fun b_25 : GA => some (b_25.1, b_25.2.2.1, b_25.2.2.2.1, b_25.2.2.2.2.1, b_25.2.2.2.2.2.1, b_25.2.2.2.2.2.2.1, b_25.2.2.2.2.2.2.2) else some ((-2 : Int32), M.1 5, M.2.1 5, M.2.1 6, M.2.1 7, M.2.1 8, M.2.1 9)) = some ((-2 : Int32), M.1 5, M.2.1 5, M.2.1 6, M.2.1 7, M.2.1 8, M.2.1 9) := by
      rcases h with h | ⟨h1, h2⟩
      · rw [if_pos h]
      · rw [if_neg h1, if_neg h2]
    rw [this, bd_some, confirm_neg (show (-2 : Int32) < 0 by decide), bd_some, e, bd_some, if_pos rfl]
    exact ⟨_, _, _, _, _, _, _, _, _, t, was, sv, rfl, rfl, hM.sn, k2⟩
  · obtain ⟨b, b', g1, g2, g3, g4, g5⟩ := guess_loop hB hM.sn hq
    obtain ⟨h', K2, k5, k6⟩ := k4 b.1 g4
    rw [if_neg h1, if_pos h2, g1, bd_some, bd_some, k5, bd_some, e, bd_some, if_neg i0ne1, k3, bd_some, g2, bd_some, g3]
    exact ⟨_, _, _, _, _, _, _, _, _, _, _, _, rfl, rfl, g5, k6⟩
