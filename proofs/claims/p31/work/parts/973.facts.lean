/-! ===== what a picture keeps when a machine begins anew; a candidate of the law's own ===== -/
theorem beg_keep {B : Nat} {t T y : RW} {M : MS} (h : RM B t M) (h3 : T 3 = t 3) (h0 : ∃ s, s < 512 ∧ T 0 = nI s) (hc : ∀ j, 47 ≤ j → j < 247 → T j = t j) (e : fX11_begins T = some y) : ∀ j, j < 4 → y j = T j := by
  obtain ⟨ns, nc, n, R, z, r, ⟨a1, a2, a3, a4, a5, a6⟩, ⟨b1, b2, b3, b4, b5⟩, ⟨c1, c2, c3, c4, -⟩, d, ee, -⟩ := h
  obtain ⟨s, hs, e0⟩ := h0
  obtain ⟨t', f', s', m', r', o', w', g1, -, -, -, -, -, -, -, g9, -⟩ := begin_eq (t := T) (c_c := M.2.1 5) (c_f := zR) (c_s := zR) (c_m := zR) (c_r := zR) (e_o := zR) (we := fun _ => 0) (nc := nc) hs b2 e0 (by rw [h3, c4, a5]) (fun c hcc => ⟨by rw [hc _ (by omega) (by omega)]; exact (ee c hcc).1.1, (ee c hcc).2⟩)
  rw [g1] at e
  cases e
  exact fun j hj => g9 j (by omega) (by omega) (by omega) (by omega)
theorem F_start {B : Nat} {t t' : RW} {M : MS} {o : Int32} (h : RM B t M) (f : fX11_start t zR 0 1 0 0 7 = some (o, 0, t', zR)) : 0 ≤ o ∧ t' 0 = nI 7 := by
  obtain ⟨s0, hs0, -, ht0⟩ := h.st
  unfold fX11_start at f
  rw [show fX11_in 0 0 7 = some 1 by decide, bd_some, if_neg i0ne1, bd_some, if_neg i0ne1, show fX11_in 7 0 7 = some 1 by decide, bd_some, if_neg i0ne1, quiet1, bd_some, gg0, gd_tr, gd_tr, ii0] at f
  obtain ⟨y, e, f⟩ := k_bd f
  cases f
  refine ⟨by rw [ht0, le_toInt, tI0, nI_toInt (by omega)]; omega, ?_⟩
  have k := beg_keep h (T := upd t 0 ((((64 : Int32) * 0) + ((8 : Int32) * 0)) + 7)) (upd_o (by decide)) ⟨7, by decide, by rw [upd_s]; decide⟩ (fun j j1 _ => upd_o (by omega)) e 0 (by decide)
  rw [k, upd_s]
  decide
theorem F_wrap {B : Nat} {t t' : RW} {M : MS} {o : Int32} (h : RM B t M) (f : fX11_wrap t zR 0 1 0 = some (o, 0, t', zR)) : 0 ≤ o ∧ t' 0 = t 0 := by
  obtain ⟨s0, hs0, -, ht0⟩ := h.st
  obtain ⟨ns, nc, -, -, S, -⟩ := h.ok
  unfold fX11_wrap at f
  rw [show fX11_in 0 0 1 = some 1 by decide, bd_some, if_neg i0ne1, quiet1, bd_some, show gi 1 1271 = true from gi1, gd_tr, gd_tr, ix1] at f
  obtain ⟨y, e, f⟩ := k_bd f
  cases f
  refine ⟨by rw [S.2.2.1]; rcases S.2.1 with q | q <;> rw [q] <;> decide, ?_⟩
  rw [beg_keep h (T := upd t 1 0) (upd_o (by decide)) ⟨s0, hs0, by rw [upd_o (by decide)]; exact ht0⟩ (fun j j1 _ => upd_o (by omega)) e 0 (by decide), upd_o (by decide)]
theorem F_step {B n : Nat} {t t' : RW} {M : MS} {o : Int32} (h : RM B t M) (h2 : t 2 = nI n) (hn : n < 8) (f : fX11_step t zR 0 1 7 0 0 0 0 = some (o, 0, t', zR)) : 0 ≤ o ∧ t' 2 = nI (n + 1) := by
  obtain ⟨s0, hs0, -, ht0⟩ := h.st
  rw [mstep_q hn h2 (by decide +kernel) (by decide) zR 0 1, quiet1, bd_some] at f
  obtain ⟨y, e, f⟩ := k_bd f
  cases f
  have tm : ∀ j, (j < 7 ∨ 47 ≤ j) → ¬ j = 2 → mStep t n 7 0 0 0 0 j = t j := fun j j1 j2 => by
    unfold mStep
    rw [upd_o j2, upd_o (by omega), upd_o (by omega), upd_o (by omega), upd_o (by omega), upd_o (by omega)]
  refine ⟨by rw [le_toInt, tI0, nI_toInt (by omega)]; omega, ?_⟩
  rw [beg_keep h (T := mStep t n 7 0 0 0 0) (tm 3 (by omega) (by decide)) ⟨s0, hs0, by rw [tm 0 (by omega) (by decide)]; exact ht0⟩ (fun j j1 _ => tm j (by omega) (by omega)) e 2 (by decide)]
  exact upd_s
theorem F_step8 {t : RW} (h2 : t 2 = nI 8) : fX11_step t zR 0 1 7 0 0 0 0 = some (-4, 0, t, zR) := by
  unfold fX11_step
  rw [show fX11_isCode 7 = some 1 by decide +kernel, bd_some, if_neg i0ne1, show fX11_isAction 0 0 0 0 = some 1 by decide, bd_some, if_neg i0ne1, gg2, gd_tr, ii2, h2, if_pos (show nI 8 = (8 : Int32) from rfl)]
theorem thr_of {nc : Nat} {cc : Nat → Int32} {k : Int32} (h : thr nc cc k = true) : ∃ j, j < nc ∧ cc j = k := by
  unfold thr at h
  cases hf : ffind nc (fun c => decide (cc c = k)) with
  | none => rw [hf] at h; exact absurd h (by decide)
  | some j =>
    obtain ⟨q1, q2⟩ := ffind_spec hf
    exact ⟨j, q1, of_decide_eq_true q2⟩
theorem C_cand_law {B n q : Nat} {A : AS} {c : CS} (hB : B < 4000000) (h : IC B A c) (h3 : A.1 3 = nI n) (hn : n < 40) (hq : q < 1350) (hV : vOK A.1) : ∃ o : Int32 × CS, oC_candidate c (nI q) = some o ∧ ((o.1 = -2 ∧ vc (nI q) = false ∧ IC B A o.2) ∨ (o.1 = -5 ∧ (∃ j, j < n ∧ A.1 (47 + 5 * j) = nI q) ∧ IC B A o.2) ∨ (0 ≤ o.1 ∧ ∃ (t' : RW) (L' : List RW), IC B (t', L', A.2.2) o.2 ∧ vOK t' ∧ t' 2 = A.1 2 ∧ t' 3 = nI (n + 1) ∧ (∀ j, j < n → t' (47 + 5 * j) = A.1 (47 + 5 * j)) ∧ t' (47 + 5 * n) = nI q)) := by
  obtain ⟨o, t', e, f, r⟩ := C_candidate hB h (nI q)
  refine ⟨o, e, ?_⟩
  cases hv : vc (nI q) with
  | false =>
    obtain ⟨v, I⟩ := ro_no f (chkV_of (n_cand (by rw [isCode_01, hv]; rfl))) (by decide) r
    exact Or.inl ⟨v, rfl, I⟩
  | true =>
    right
    have f0 := f
    unfold fX11_candidate at f0
    rw [isCode_01, hv, bd_some, if_neg (by decide : ¬ b2i true = 0), gg3, gd_tr, ii3, h3, if_neg (show ¬ nI n = (40 : Int32) from fun z => by have := nI_inj (b := 40) (by omega) (by decide) z; omega), isThere_eq (cc := fun c => A.1 (47 + 5 * c)) (by omega) h3 (fun _ _ => rfl), bd_some] at f0
    cases ht : thr n (fun c => A.1 (47 + 5 * c)) (nI q) with
    | true =>
      left
      rw [ht, if_neg (by decide : ¬ b2i true = 0)] at f0
      have hf : fX11_candidate A.1 zR 0 1 (nI q) = some (-5, 0, A.1, zR) := by rw [f]; exact f0.symm
      obtain ⟨v, I⟩ := ro_no f (chkV_of hf) (by decide) r
      exact ⟨v, thr_of ht, I⟩
    | false =>
      right
      rw [ht, if_pos (by decide : b2i false = 0), quiet1, bd_some] at f0
      obtain ⟨y, ey, f0⟩ := k_bd f0
      have hM := h.1
      obtain ⟨ns, nc, nn, R, z, rr, ⟨a1, a2, a3, a4, a5, a6⟩, ⟨b1, b2, b3, b4, b5⟩, ⟨c1, c2, c3, c4, -⟩, d, ee, -⟩ := hM
      have en : nc = n := nI_inj (by omega) (by omega) (by rw [← a5, ← c4, h3])
      subst en
      have hS := h.1.sn
      rw [a5] at hS
      obtain ⟨t2, f2, s2, m2, r2, k1, -, k3, k4⟩ := comes_eq hB hS hn hq
      rw [k1] at ey
      cases ey
      rw [gd_tr, k3] at f0
      have f1 := Option.some.inj f0
      simp only [Prod.mk.injEq] at f1
      obtain ⟨f1, -, et, -⟩ := f1
      rw [← et] at r
      have hpos : 0 ≤ o.1 := by rw [← f1, nI_p, le_toInt, tI0, nI_toInt (by omega)]; omega
      rcases r with ⟨q1, -, -⟩ | ⟨-, q2⟩
      · rw [lt_toInt] at q1; rw [le_toInt] at hpos; omega
      · obtain ⟨ns', nc', n', R', z', r', ⟨x1, x2, x3, x4, x5, x6⟩, ⟨y1, y2, y3, y4, y5⟩, ⟨z1, z2, z3, z4, -⟩, d', ee', -⟩ := RMsn k4
        have e1 : nc' = nc + 1 := nI_inj (by omega) (by omega) x5.symm
        subst e1
        have code : ∀ j, j < nc + 1 → y (47 + 5 * j) = upd (c.1.2.1 5) nc (nI q) j := fun j hj => (ee' j hj).1.1
        have old : ∀ j, j < nc → y (47 + 5 * j) = A.1 (47 + 5 * j) := fun j hj => by rw [code j (by omega), upd_o (by omega)]; exact (ee j hj).1.1.symm
        have new : y (47 + 5 * nc) = nI q := by rw [code nc (by omega), upd_s]
        refine ⟨hpos, y, _, q2, ⟨nc + 1, by omega, k3, fun i hi => ?_⟩, by rw [z3, c3], k3, old, new⟩
        show vc (y (47 + 5 * i)) = true
        by_cases ei : i = nc
        · subst ei; rw [new]; exact hv
        · rw [old i (by omega)]
          obtain ⟨m, m1, m2', m3⟩ := hV
          have em : m = nc := nI_inj (by omega) (by omega) (by rw [← m2', h3])
          exact m3 i (by omega)
/-- with forty candidates nothing comes of a guess -/
theorem C_guess40 {B : Nat} {A : AS} {c : CS} (hB : B < 4000000) (h : IC B A c) (h3 : A.1 3 = nI 40) : ∃ o : Int32 × CS, oC_guess c 1 = some o ∧ o.1 = 0 := by
  obtain ⟨hM, hH, hS, hP⟩ := h
  obtain ⟨K1, k1, k2, k4⟩ := hprep hH hM.sn
  have h40 : c.1.1 5 = nI 40 := by
    obtain ⟨ns, nc, nn, R, z, rr, -, -, ⟨c1, c2, c3, c4, -⟩, -⟩ := hM
    rw [← c4, h3]
  have hS2 := hM.sn
  rw [h40] at hS2
  have g := guess_full hB hS2 (p := 1) (by decide) 0 135 0 FU (by decide) (by decide)
  obtain ⟨h', K2, k5, -⟩ := k4 0 (by decide)
  unfold oC_guess fX10_guess fX3_addGuesses
  rw [k1, bd_some, if_neg (show ¬ (1 : Int32) < 1 by decide), if_pos (show (1 : Int32) ≤ 9 by decide), h40, show (135 : Int32) * 1 = nI (135 * 1 + 0) by decide, show (gX3_addGuesses_25 (c.1.1 0) (c.1.1 6) (c.1.2.1 10) 1) = gX3_addGuesses_25 (c.1.1 0) (c.1.1 6) (c.1.2.1 10) (nI 1) from rfl, g, bd_some, bd_some]
  dsimp only
  rw [k5, bd_some, bd_some]
  exact ⟨_, rfl, rfl⟩
