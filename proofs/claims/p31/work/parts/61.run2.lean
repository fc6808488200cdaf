abbrev RA : Type := Int64 × Int32 × Int32 × (Nat → Int32) × (Nat → Int32) × (Nat → Int32) × (Nat → Int32) × Int32 × (Nat → Int32) × (Nat → Int64)
abbrev RZ : Type := Int32 × Int32 × (Nat → Int32) × (Nat → Int32) × (Nat → Int32) × (Nat → Int32) × Int32 × (Nat → Int32) × (Nat → Int64)
abbrev RB : Type := Int32 × Int64 × Int32 × (Nat → Int32)
theorem RM.run {B R : Nat} {t : Nat → Int32} {a w ro sn cn en : Int32} {g hh x y k cc cf cs cm cr eo : Nat → Int32} {we : Nat → Int64} (hB : B < 4000000) (hR : R ≤ B) (h : RM B t (snap a w (nI R) ro sn g hh x y k cn cc cf cs cm cr en eo we)) : RM (B + 1) (upd t 5 (nI (R + 1))) (snap a w (nI (R + 1)) ro sn g hh x y k cn cc cf cs cm cr en eo we) := by
  obtain ⟨ns, nc, n, R', z, r, ⟨a1, a2, a3, a4, a5, a6⟩, ⟨b1, b2, b3, b4, b5⟩, ⟨c1, c2, c3, c4, c5, c6, c7⟩, d, e, f, i⟩ := RMsn h
  refine ⟨ns, nc, n, R + 1, z, r, ⟨a1, a2, rfl, a4, a5, a6⟩, ⟨b1, b2, b3, b4, by omega⟩, ⟨by rw [upd_o (by decide), c1]; rfl, by rw [upd_o (by decide), c2]; rfl, by rw [upd_o (by decide), c3]; rfl, by rw [upd_o (by decide), c4]; rfl, by rw [upd_o (by decide), c5]; rfl, upd_s, by rw [upd_o (by decide), c7]; rfl⟩, fun v hv => srel_o (Or.inl (by decide)) (by omega) (d v hv), fun c hc => ?_, fun j hj => ?_, i⟩
  · obtain ⟨⟨q0, q1, q2, q3, q4⟩, q5⟩ := e c hc
    refine ⟨⟨?_, ?_, ?_, ?_, ?_⟩, q5⟩
    · rw [upd_o (by omega)]; exact q0
    · rw [upd_o (by omega)]; exact q1
    · rw [upd_o (by omega)]; exact q2
    · rw [upd_o (by omega)]; exact q3
    · rw [upd_o (by omega)]; exact q4
  · obtain ⟨q0, q1, q2, q3, q4⟩ := f j hj
    exact ⟨q0, q1, by omega, by rw [upd_o (by omega)]; exact q3, fun hj1 => by rw [upd_o (by omega)]; exact q4 hj1⟩
set_option maxHeartbeats 2000000 in
theorem run_loop {B X s0 n0 L : Nat} {t : Nat → Int32} {a w ru ro sn cn : Int32} {g hh x y k cc cf cs cm cr eo : Nat → Int32} {we : Nat → Int64} (h : RM B t (snap a w ru ro sn g hh x y k cn cc cf cs cm cr (nI n0) eo we)) (hX : X < 2 ^ 31) (hs0 : s0 < 512) (hn0 : n0 ≤ 512) (hL : L < 100) :
    ∃ (b : RA) (b' : RB), iter (gX3_makeRun_39 w ru sn g hh x y k cn cc (nI L)) FU (lN X, nI s0, (0 : Int32), cf, cs, cm, cr, nI n0, eo, we) = some (Sum.inl b) ∧ iter (gX11_run_43 (nI L)) FU (nI s0, lN X, (0 : Int32), t) = some b' ∧ (∃ n' : Nat, n0 ≤ n' ∧ n' ≤ 512 ∧ b.2.2.2.2.2.2.2.1 = nI n') ∧ RM B b'.2.2.2 (snap a w ru ro sn g hh x y k cn cc b.2.2.2.1 b.2.2.2.2.1 b.2.2.2.2.2.1 b.2.2.2.2.2.2.1 b.2.2.2.2.2.2.2.1 b.2.2.2.2.2.2.2.2.1 b.2.2.2.2.2.2.2.2.2) := by
  have main := iter2 (g := gX3_makeRun_39 w ru sn g hh x y k cn cc (nI L)) (g' := gX11_run_43 (nI L)) (fun (i : Nat) (c : RA) (c' : RB) => (∃ X s : Nat, X < 2 ^ 31 ∧ s < 512 ∧ c.1 = lN X ∧ c.2.1 = nI s ∧ c'.1 = nI s ∧ c'.2.1 = lN X) ∧ c.2.2.1 = nI i ∧ c'.2.2.1 = nI i ∧ (∃ n' : Nat, n0 ≤ n' ∧ n' ≤ 512 ∧ c.2.2.2.2.2.2.2.1 = nI n') ∧ RM B c'.2.2.2 (snap a w ru ro sn g hh x y k cn cc c.2.2.2.1 c.2.2.2.2.1 c.2.2.2.2.2.1 c.2.2.2.2.2.2.1 c.2.2.2.2.2.2.2.1 c.2.2.2.2.2.2.2.2.1 c.2.2.2.2.2.2.2.2.2))
    (fun (z : RA ⊕ RZ) (b' : RB) => ∃ b : RA, z = Sum.inl b ∧ (∃ n' : Nat, n0 ≤ n' ∧ n' ≤ 512 ∧ b.2.2.2.2.2.2.2.1 = nI n') ∧ RM B b'.2.2.2 (snap a w ru ro sn g hh x y k cn cc b.2.2.2.1 b.2.2.2.2.1 b.2.2.2.2.2.1 b.2.2.2.2.2.2.1 b.2.2.2.2.2.2.2.1 b.2.2.2.2.2.2.2.2.1 b.2.2.2.2.2.2.2.2.2)) L (fun i c c' hi hI => ?_) (fun c c' hI => ?_) L 0 (lN X, nI s0, (0 : Int32), cf, cs, cm, cr, nI n0, eo, we) (nI s0, lN X, (0 : Int32), t) FU FU (by omega) (show L < 100000 by omega) (show L < 100000 by omega) ⟨⟨X, s0, hX, hs0, rfl, rfl, rfl, rfl⟩, rfl, rfl, ⟨n0, Nat.le_refl _, hn0, rfl⟩, h⟩
  · obtain ⟨z, b', e1, e2, b, rfl, p1, p2⟩ := main
    exact ⟨b, b', e1, e2, p1, p2⟩
  · obtain ⟨c1, c2, c3, c4, c5, c6, c7, c8, c9, c10⟩ := c
    obtain ⟨d1, d2, d3, d4⟩ := c'
    obtain ⟨⟨X, s, hX, hs, e1, e2, e3, e4⟩, e5, e6, ⟨n', l1, l2, e7⟩, hR⟩ := hI
    dsimp only at e1 e2 e3 e4 e5 e6 e7 hR
    subst e1 e2 e3 e4 e5 e6 e7
    obtain ⟨ns, nc, esn, ecn, S, C⟩ := RMok hR
    obtain ⟨o, k1, k2, k3⟩ := pick_eq (v := nxX X / 65536) S hs (by have := nxX_lt X; omega)
    have s1 : gX3_makeRun_39 w ru sn g hh x y k cn cc (nI L) (lN X, nI s, nI i, c4, c5, c6, c7, nI n', c9, c10) = (if oN o = (-6 : Int32) then some (.inr (.inl (lN (nxX X), oN o, nI i, c4, c5, c6, c7, nI n', c9, c10))) else bd (fX6_add (nI n') c9 c10 (oN o) ru) fun y_95 : Int32 × Int32 × (Nat → Int32) × (Nat → Int64) => if y_95.1 = 0 then some (.inl (lN (nxX X), oN o, nI i + 1, c4, c5, c6, c7, y_95.2.1, y_95.2.2.1, y_95.2.2.2)) else bd (fX3_strikeByRun ru cn cc c4 c5 c6 c7 (oN o)) fun y_104 : (Nat → Int32) × (Nat → Int32) × (Nat → Int32) × (Nat → Int32) => some (.inl (lN (nxX X), oN o, nI i + 1, y_104.1, y_104.2.1, y_104.2.2.1, y_104.2.2.2, y_95.2.1, y_95.2.2.1, y_95.2.2.2))) := by
      unfold gX3_makeRun_39
      dsimp only
      rw [if_neg (c_ge (n := L) rfl hi (by omega)), nxX_eq hX, nxX_d (nxX_lt X), esn, k1, bd_some]
    have s2 : gX11_run_43 (nI L) (nI s, lN X, nI i, d4) = (if oN o = (-6 : Int32) then some (.inl (oN o, lN (nxX X), nI i + 1, d4)) else bd (fX11_isSeen d4 (oN o)) fun y_97 : Int32 => if y_97 = 0 then bd (fX11_sees d4 (oN o)) fun y_106 : Nat → Int32 => some (.inl (oN o, lN (nxX X), nI i + 1, y_106)) else some (.inl (oN o, lN (nxX X), nI i + 1, d4))) := by
      unfold gX11_run_43
      dsimp only
      rw [if_neg (c_ge (n := L) rfl hi (by omega)), if_neg (ne6 (by omega)), nxX_eq hX, nxX_d (nxX_lt X), lN_i, k2, bd_some]
    cases ho : o with
    | none =>
      subst ho
      right
      rw [oN_none, if_pos rfl] at s1 s2
      refine ⟨_, ((-6 : Int32), lN (nxX X), nI i + 1, d4), fun f hf => iter_e s1 (by omega), fun f hf => ?_, _, rfl, ⟨n', l1, l2, rfl⟩, hR⟩
      obtain ⟨f, rfl⟩ : ∃ q, f = q + 1 := ⟨f - 1, by omega⟩
      refine iter_n s2 (iter_e ?_ (by omega))
      unfold gX11_run_43
      dsimp only
      by_cases q : nI L ≤ nI i + 1
      · rw [if_pos q]
      · rw [if_neg q, if_pos rfl]
    | some u =>
      subst ho
      have hu := k3 u rfl
      left
      rw [oN_some, if_neg (ne6 (by omega))] at s1 s2
      have hse : fX11_isSeen d4 (nI u) = some (b2i (mem c10 u)) := hR.seen hu
      rw [s1, s2, hse, bd_some]
      cases hm : mem c10 u with
      | true =>
        have ea : fX6_add (nI n') c9 c10 (nI u) ru = some ((0 : Int32), nI n', c9, c10) := by
          unfold fX6_add
          rw [has_eq c10 hu, hm, bd_some, if_neg (by decide)]
        rw [ea, bd_some, if_pos rfl, if_neg (by decide)]
        exact ⟨_, _, rfl, rfl, ⟨nxX X, u, nxX_lt X, hu, rfl, rfl, rfl, rfl⟩, nI1 i, nI1 i, ⟨n', l1, l2, rfl⟩, hR⟩
      | false =>
        obtain ⟨eo', we', n, f', s', m', r', t', g0, g1, g2, g3, g4, g5⟩ := sees_eq hR hu hm
        have : n = n' := (nI_inj (by omega) (by omega) g0).symm
        subst this
        rw [g2, bd_some, if_neg (show ¬ (1 : Int32) = 0 from i0ne1), g3, bd_some, if_pos (by decide), g4, bd_some]
        exact ⟨_, _, rfl, rfl, ⟨nxX X, u, nxX_lt X, hu, rfl, rfl, rfl, rfl⟩, nI1 i, nI1 i, ⟨n + 1, by omega, by omega, rfl⟩, g5⟩
  · obtain ⟨c1, c2, c3, c4, c5, c6, c7, c8, c9, c10⟩ := c
    obtain ⟨d1, d2, d3, d4⟩ := c'
    obtain ⟨⟨X, s, hX, hs, e1, e2, e3, e4⟩, e5, e6, ⟨n', l1, l2, e7⟩, hR⟩ := hI
    dsimp only at e1 e2 e3 e4 e5 e6 e7 hR
    subst e1 e2 e3 e4 e5 e6 e7
    refine ⟨.inl (lN X, nI s, nI L, c4, c5, c6, c7, nI n', c9, c10), (nI s, lN X, nI L, d4), fun f hf => iter_e ?_ hf, fun f hf => iter_e ?_ hf, _, rfl, ⟨n', l1, l2, rfl⟩, hR⟩
    · unfold gX3_makeRun_39
      dsimp only
      rw [if_pos (c_le (n := L) rfl (Nat.le_refl _) (by omega))]
    · unfold gX11_run_43
      dsimp only
      rw [if_pos (c_le (n := L) rfl (Nat.le_refl _) (by omega))]
theorem in_99 (p : Int32) : (fX11_in p 1 99 = some 0 ∧ (p < 1 ∨ ¬ p < 1 ∧ ¬ p ≤ 99)) ∨ (fX11_in p 1 99 = some 1 ∧ ¬ p < 1 ∧ p ≤ 99 ∧ ∃ q : Nat, q < 100 ∧ p = nI q) := by
  have t99 : (99 : Int32).toInt = 99 := by decide
  rcases in_01 p 1 99 with ⟨e, h⟩ | ⟨e, h1, h2⟩
  · left
    refine ⟨e, ?_⟩
    rw [tI1, t99] at h
    rw [lt_toInt, le_toInt, tI1, t99]; omega
  · right
    rw [tI1] at h1; rw [t99] at h2
    obtain ⟨d, hd, rfl⟩ : ∃ d : Nat, d < 2 ^ 31 ∧ p = nI d := nI_of (by rw [lt_toInt, tI0]; omega)
    rw [nI_toInt hd] at h1 h2
    refine ⟨e, ?_, ?_, d, by omega, rfl⟩
    · rw [lt_toInt, tI1, nI_toInt hd]; omega
    · rw [le_toInt, t99, nI_toInt hd]; omega
/-- a run, in both machines, the record aside -/
theorem run_both {B : Nat} {t : Nat → Int32} {a w ru ro sn cn en : Int32} {g hh x y k cc cf cs cm cr eo : Nat → Int32} {we : Nat → Int64} (hB : B < 4000000) (h : RM B t (snap a w ru ro sn g hh x y k cn cc cf cs cm cr en eo we)) (p0 p1 : Int32) :
    (∃ ans : Int32, ans < 0 ∧ fX3_makeRun a w ru sn g hh x y k cn cc cf cs cm cr en eo we p0 p1 = some (ans, ru, cf, cs, cm, cr, en, eo, we) ∧ ∀ was sv qt, fX11_run t was sv qt p0 p1 = some (ans, sv, t, was)) ∨
    (∃ ans ru' f s m r en' eo' we' t', 0 ≤ ans ∧ fX3_makeRun a w ru sn g hh x y k cn cc cf cs cm cr en eo we p0 p1 = some (ans, ru', f, s, m, r, en', eo', we') ∧ RM (B + 1) t' (snap a w ru' ro sn g hh x y k cn cc f s m r en' eo' we') ∧ ∀ was sv qt, fX11_run t was sv qt p0 p1 = bd (fX11_records t was sv qt) fun y => some (ans, y.1, t', y.2)) := by
  have h0 := h
  obtain ⟨ns, nc, n, R, z, r, ⟨a1, a2, a3, a4, a5, a6⟩, ⟨b1, b2, b3, b4, b5⟩, ⟨c1, c2, c3, c4, c5, c6, c7⟩, d, e, f, -⟩ := RMsn h0
  have hz := (f 0 (by omega)).2.1
  unfold fX3_makeRun fX11_run
  by_cases hp : p0 < 0
  · left; exact ⟨-2, by decide, by rw [if_pos hp], fun was sv qt => by rw [if_pos hp]⟩
  obtain ⟨X, hX, rfl⟩ : ∃ d : Nat, d < 2 ^ 31 ∧ p0 = nI d := nI_of hp
  rw [if_neg hp]
  simp only [if_neg hp]
  rcases in_99 p1 with ⟨e1, q⟩ | ⟨e1, q1, q2, L, hL, rfl⟩
  · left
    refine ⟨-2, by decide, ?_, fun was sv qt => by rw [e1, bd_some, if_pos rfl]⟩
    rcases q with q | ⟨q1, q2⟩
    · rw [if_pos q]
    · rw [if_neg q1, if_neg q2]
  · right
    subst a6 a3
    obtain ⟨b, b', g1, g2, ⟨n', l1, l2, g3⟩, g4⟩ := run_loop h hX hz b4 hL
    rw [← a1, ← nI_l hX] at g1 g2
    refine ⟨nI (n' - n), nI (R + 1), b.2.2.2.1, b.2.2.2.2.1, b.2.2.2.2.2.1, b.2.2.2.2.2.2.1, b.2.2.2.2.2.2.2.1, b.2.2.2.2.2.2.2.2.1, b.2.2.2.2.2.2.2.2.2, upd b'.2.2.2 5 (nI (R + 1)), ?_, ?_, RM.run hB b5 g4, fun was sv qt => ?_⟩
    · rw [le_toInt, tI0, nI_toInt (by omega)]; omega
    · rw [if_neg q1, if_pos q2, g1, bd_some, se_l]
      unfold jX3_makeRun_113
      rw [g3, pk_sub l1, nI1]
    · obtain ⟨-, -, -, -, -, -, -, -, ⟨-, -, -, -, t4, t5, -⟩, -⟩ := RMsn g4
      rw [e1, bd_some, if_neg i0ne1]
      congr 1
      funext y_18
      rw [gg4, gd_tr, gg0, gd_tr, ii0, c1, g2, bd_some]
      unfold jX11_run_115
      rw [gg5, gd_tr, gd_tr, gg4, gd_tr, ii5, ii4, t5, nI1, upd_o (by decide), t4, c5, g3, pk_sub l1]
theorem op_run {B : Nat} {t was : Nat → Int32} {sv h_n : Int32} {K : Nat → MS} {M : MS} (hB : B < 4000000) (hM : RM B t M) (hH : RH B was sv h_n K) (p0 p1 : Int32) :
    ∃ ans hn' ru f s m r en o w K' t' was' sv', fX10_run h_n (M.1 0) (M.1 1) (M.1 2) (M.1 3) (M.1 4) (M.2.1 0) (M.2.1 1) (M.2.1 2) (M.2.1 3) (M.2.1 4) (M.1 5) (M.2.1 5) (M.2.1 6) (M.2.1 7) (M.2.1 8) (M.2.1 9) (M.1 6) (M.2.1 10) M.2.2 K p0 p1 = some (ans, hn', ru, f, s, m, r, en, o, w, K') ∧ fX11_run t was sv 0 p0 p1 = some (ans, sv', t', was') ∧
    RM (B + 1) t' (snap (M.1 0) (M.1 1) ru (M.1 3) (M.1 4) (M.2.1 0) (M.2.1 1) (M.2.1 2) (M.2.1 3) (M.2.1 4) (M.1 5) (M.2.1 5) f s m r en o w) ∧ RH (B + 1) was' sv' hn' K' := by
  obtain ⟨K1, k1, k2, was1, sv1, k3, k4⟩ := prep_eq hH hM.sn
  unfold fX10_run
  rw [k1, bd_some]
  rcases run_both hB hM.sn p0 p1 with ⟨ans, hneg, e1, e2⟩ | ⟨ans, ru', f, s, m, r, en', eo', we', t', hpos, e1, e2, e3⟩
  · rw [e1, bd_some, confirm_neg hneg, bd_some]
    exact ⟨_, _, _, _, _, _, _, _, _, _, _, t, was, sv, rfl, e2 was sv 0, hM.sn.up (by omega), k2.up (by omega)⟩
  · obtain ⟨h', K2, k5, k6⟩ := k4 ans hpos
    rw [e1, bd_some, k5, bd_some, e3, k3, bd_some]
    exact ⟨_, _, _, _, _, _, _, _, _, _, _, _, _, _, rfl, rfl, e2, k6.up (by omega)⟩
