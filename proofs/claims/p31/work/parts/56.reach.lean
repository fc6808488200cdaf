/-! ===== states that can be reached ===== -/
theorem ct_add {w w' : Nat → Int64} {s : Nat} (hs : s < 512) (h : ∀ u, u < 512 → mem w' u = (mem w u || decide (u = s))) (hn : mem w s = false) : fb_ct (mem w') 512 = fb_ct (mem w) 512 + 1 := by
  have e1 : fb_ct (mem w') 512 = fb_ct (fun u => if u = s then true else mem w u) 512 := fb_ct_cong (fun u hu => by
    rw [h u hu]
    by_cases c : u = s
    · simp [c]
    · simp [c])
  have e2 := fb_ct_upd (mem w) true hs
  rw [hn] at e2
  rw [e1]
  simpa using e2
theorem ct_lt {w : Nat → Int64} {s : Nat} (hs : s < 512) (hn : mem w s = false) : fb_ct (mem w) 512 < 512 := by
  have h1 := fb_ct_le (mem w) 512
  rcases Nat.lt_or_ge (fb_ct (mem w) 512) 512 with h | h
  · exact h
  · have := fb_ct_all.mp (show fb_ct (mem w) 512 = 512 by omega) s hs
    rw [hn] at this
    exact absurd this (by decide)
/-- both queues hold the same states -/
def BI (m : Nat) (w : Nat → Int64) (q r q' : Nat → Int32) : Prop := fb_ct (mem w) 512 = m ∧ (∀ j, j < m → ∃ s, s < 512 ∧ q j = nI s ∧ q' j = nI s) ∧ ∀ u, u < 512 → r u = b2i (mem w u)
theorem reach_in {t : Nat → Int32} {w : Int32} {g h x y k : Nat → Int32} {ns a m : Nat} {v : Nat → Int64} {q r q' : Nat → Int32} (S : SOK t w g h x y k ns) (ha : a < m) (hm : m ≤ 512) (B : BI m v q r q') (z1 : Int32) (z2 z3 : Nat → Int32) (y1 : Int32) (y2 : Nat → Int64) (y3 : Nat → Int32) :
    ∃ b b', iter (gX9_findReached_47 w (nI ns) g h x y k (y1, nI a, y2, y3)) FU (nI m, (0 : Int32), v, q) = some b ∧ iter (gX11_reaches_57 t (z1, nI a, z2, z3)) FU (nI m, (0 : Int32), r, q') = some b' ∧ ∃ m', m ≤ m' ∧ m' ≤ 512 ∧ b.1 = nI m' ∧ b'.1 = nI m' ∧ BI m' b.2.2.1 b.2.2.2 b'.2.2.1 b'.2.2.2 := by
  have h8 := S.1
  have h2 := S.2.2.2.1
  refine iter2 (fun (i : Nat) (c : Int32 × Int32 × (Nat → Int64) × (Nat → Int32)) (c' : Int32 × Int32 × (Nat → Int32) × (Nat → Int32)) => c.2.1 = nI i ∧ c'.2.1 = nI i ∧ ∃ m', m ≤ m' ∧ m' ≤ 512 ∧ c.1 = nI m' ∧ c'.1 = nI m' ∧ BI m' c.2.2.1 c.2.2.2 c'.2.2.1 c'.2.2.2) (fun (b : Int32 × Int32 × (Nat → Int64) × (Nat → Int32)) (b' : Int32 × Int32 × (Nat → Int32) × (Nat → Int32)) => ∃ m', m ≤ m' ∧ m' ≤ 512 ∧ b.1 = nI m' ∧ b'.1 = nI m' ∧ BI m' b.2.2.1 b.2.2.2 b'.2.2.1 b'.2.2.2) ns (fun i c c' hi hI => Or.inl ?_) (fun c c' hI => ?_) ns 0 _ _ FU FU (by omega) (show ns < 100000 by omega) (show ns < 100000 by omega) ⟨rfl, rfl, m, Nat.le_refl _, hm, rfl, rfl, B⟩
  · obtain ⟨c1, c2, c3, c4⟩ := c
    obtain ⟨d1, d2, d3, d4⟩ := c'
    obtain ⟨e1, e2, m', l1, l2, e3, e4, B1, B2, B3⟩ := hI
    dsimp only at e1 e2 e3 e4 B1 B2 B3
    subst e1 e2 e3 e4
    obtain ⟨s, hs, es, es'⟩ := B2 a (by omega)
    unfold gX9_findReached_47 gX11_reaches_57
    dsimp only
    rw [gg2, gd_tr, ii2, h2, if_neg (c_ge (n := ns) rfl hi (by omega)), if_neg (c_ge (n := ns) rfl hi (by omega)), gd_nI (show a < 512 by omega) (by decide), gd_nI (show a < 512 by omega) (by decide), ixn (by omega), es, es', tgt_eq S hi hs, nex_eq S hi hs, bd_some, bd_some]
    cases e : TG w g h x y k i s with
    | none =>
      rw [oN_none, if_pos rfl, if_pos rfl]
      exact ⟨_, _, rfl, rfl, nI1 i, nI1 i, m', l1, l2, rfl, rfl, B1, B2, B3⟩
    | some u =>
      have hu := TG_lt S hi hs e
      rw [oN_some, if_neg (ne6 (by omega)), if_neg (ne6 (by omega)), has_eq c3 hu, bd_some, gd_nI hu (by decide), ixn (show u < 2 ^ 31 by omega)]
      cases hm : mem c3 u with
      | true =>
        rw [if_neg (by decide), if_neg (show ¬ d3 u = 0 by rw [B3 u hu, hm]; decide)]
        exact ⟨_, _, rfl, rfl, nI1 i, nI1 i, m', l1, l2, rfl, rfl, B1, B2, B3⟩
      | false =>
        have lt := ct_lt hu hm
        rw [B1] at lt
        obtain ⟨w', e', h'⟩ := add_eq c3 hu
        rw [if_pos (by decide), if_pos (show d3 u = 0 by rw [B3 u hu, hm]; rfl), if_neg (c_ge (N := 512) (n := 512) rfl lt (by decide)), e', bd_some, gd_nI lt (by decide), gd_nI hu (by decide), gd_nI lt (by decide), ixn (show m' < 2 ^ 31 by omega), show (1 : Int32) = b2i true from rfl, nar_b]
        refine ⟨_, _, rfl, rfl, nI1 i, nI1 i, m' + 1, by omega, by omega, nI1 m', nI1 m', ?_, fun j hj => ?_, fun z hz => ?_⟩
        · dsimp only; rw [ct_add hu h' hm, B1]
        · dsimp only
          by_cases c : j = m'
          · subst c; rw [upd_s, upd_s]; exact ⟨u, hu, rfl, rfl⟩
          · rw [upd_o c, upd_o c]; exact B2 j (by omega)
        · dsimp only
          rw [h' z hz]
          by_cases c : z = u
          · subst c; rw [upd_s]; simp
          · rw [upd_o c, B3 z hz]; simp [c]
  · obtain ⟨c1, c2, c3, c4⟩ := c
    obtain ⟨d1, d2, d3, d4⟩ := c'
    obtain ⟨e1, e2, m', l1, l2, e3, e4, B⟩ := hI
    dsimp only at e1 e2 e3 e4 B
    subst e1 e2 e3 e4
    refine ⟨(nI m', nI ns, c3, c4), (nI m', nI ns, d3, d4), fun f hf => iter_e ?_ hf, fun f hf => iter_e ?_ hf, m', l1, l2, rfl, rfl, B⟩
    · unfold gX9_findReached_47
      dsimp only
      rw [if_pos (c_le (n := ns) rfl (Nat.le_refl _) (by omega))]
    · unfold gX11_reaches_57
      dsimp only
      rw [gg2, gd_tr, ii2, h2, if_pos (c_le (n := ns) rfl (Nat.le_refl _) (by omega))]
theorem ct_none {w : Nat → Int64} (h : ∀ u, u < 512 → mem w u = false) : fb_ct (mem w) 512 = 0 := fb_ct_zero.mpr h
theorem mclear (r : Nat → Int32) : ∃ b, iter gX11_reaches_2 FU ((0 : Int32), r) = some b ∧ ∀ u, u < 512 → b.2 u = 0 := by
  refine iter0 (fun (i : Nat) (a : Int32 × (Nat → Int32)) => a.1 = nI i ∧ ∀ u, u < i → a.2 u = 0) (fun (b : Int32 × (Nat → Int32)) => ∀ u, u < 512 → b.2 u = 0) 512 _ (by decide) ⟨rfl, fun u hu => absurd hu (Nat.not_lt_zero _)⟩ (fun i a hi hI => Or.inl ?_) (fun a hI => ?_)
  · obtain ⟨x, f⟩ := a
    obtain ⟨e, h⟩ := hI
    dsimp only at e h
    subst e
    unfold gX11_reaches_2
    dsimp only
    rw [if_neg (c_ge (N := 512) (n := 512) rfl hi (by decide)), gd_nI hi (by decide), ixn (by omega), show (0 : Int32) = b2i false from rfl, nar_b]
    refine ⟨_, rfl, nI1 i, fun u hu => ?_⟩
    dsimp only
    by_cases c : u = i
    · subst c; rw [upd_s]
    · rw [upd_o c]; exact h u (by omega)
  · obtain ⟨x, f⟩ := a
    obtain ⟨e, h⟩ := hI
    dsimp only at e h
    subst e
    unfold gX11_reaches_2
    dsimp only
    rw [if_pos (c_le (N := 512) (n := 512) rfl (Nat.le_refl _) (by decide))]
    exact ⟨_, rfl, h⟩
theorem reach_eq {t : Nat → Int32} {w : Int32} {g h x y k : Nat → Int32} {ns s0 : Nat} (S : SOK t w g h x y k ns) (h0 : t 0 = nI s0) (hs0 : s0 < 512) (wr : Nat → Int64) (v_q rch que : Nat → Int32) :
    ∃ W Q R Q', fX9_findReached wr v_q (nI s0) w (nI ns) g h x y k = some (W, Q) ∧ fX11_reaches t rch que = some (nI (fb_ct (mem W) 512), R, Q') ∧ (∀ u, u < 512 → R u = b2i (mem W u)) ∧ 1 ≤ fb_ct (mem W) 512 := by
  obtain ⟨w1, e1, m1⟩ := clear_eq wr
  obtain ⟨w2, e2, m2⟩ := add_eq w1 hs0
  obtain ⟨rb, er, mr⟩ := mclear rch
  have B : BI 1 w2 (upd v_q 0 (nI s0)) (upd rb.2 s0 1) (upd que 0 (nI s0)) := by
    refine ⟨?_, fun j hj => ?_, fun u hu => ?_⟩
    · rw [ct_add hs0 m2 (m1 s0 hs0), ct_none m1]
    · have : j = 0 := by omega
      subst this
      rw [upd_s, upd_s]
      exact ⟨s0, hs0, rfl, rfl⟩
    · rw [m2 u hu, m1 u hu]
      by_cases c : u = s0
      · subst c; rw [upd_s]; simp [b2i]
      · rw [upd_o c, mr u hu]; simp [c, b2i]
  have key : ∃ b b', iter (gX9_findReached_32 w (nI ns) g h x y k) FU ((1 : Int32), (0 : Int32), w2, upd v_q 0 (nI s0)) = some b ∧ iter (gX11_reaches_50 t) FU ((1 : Int32), (0 : Int32), upd rb.2 s0 1, upd que 0 (nI s0)) = some b' ∧ ∃ m, 1 ≤ m ∧ b'.1 = nI m ∧ BI m b.2.2.1 b.2.2.2 b'.2.2.1 b'.2.2.2 := by
    refine iter2 (fun (i : Nat) (c : Int32 × Int32 × (Nat → Int64) × (Nat → Int32)) (c' : Int32 × Int32 × (Nat → Int32) × (Nat → Int32)) => c.2.1 = nI i ∧ c'.2.1 = nI i ∧ ∃ m, 1 ≤ m ∧ m ≤ 512 ∧ c.1 = nI m ∧ c'.1 = nI m ∧ BI m c.2.2.1 c.2.2.2 c'.2.2.1 c'.2.2.2) (fun (b : Int32 × Int32 × (Nat → Int64) × (Nat → Int32)) (b' : Int32 × Int32 × (Nat → Int32) × (Nat → Int32)) => ∃ m, 1 ≤ m ∧ b'.1 = nI m ∧ BI m b.2.2.1 b.2.2.2 b'.2.2.1 b'.2.2.2) 512 (fun i c c' hi hI => ?_) (fun c c' hI => ?_) 512 0 _ _ FU FU (by omega) (by decide) (by decide) ⟨rfl, rfl, 1, Nat.le_refl _, by decide, rfl, rfl, B⟩
    · obtain ⟨c1, c2, c3, c4⟩ := c
      obtain ⟨d1, d2, d3, d4⟩ := c'
      obtain ⟨e1, e2, m, l1, l2, e3, e4, B⟩ := hI
      dsimp only at e1 e2 e3 e4 B
      subst e1 e2 e3 e4
      by_cases hmi : m ≤ i
      · right
        refine ⟨(nI m, nI i, c3, c4), (nI m, nI i, d3, d4), fun f hf => iter_e ?_ (by omega), fun f hf => iter_e ?_ (by omega), m, l1, rfl, B⟩
        · unfold gX9_findReached_32
          dsimp only
          rw [if_pos (c_le (n := m) rfl hmi (by omega))]
        · unfold gX11_reaches_50
          dsimp only
          rw [if_pos (c_le (n := m) rfl hmi (by omega))]
      · left
        obtain ⟨b, b', k1, k2, m', l3, l4, k3, k4, B'⟩ := reach_in S (a := i) (by omega) l2 B (nI m) d3 d4 (nI m) c3 c4
        unfold gX9_findReached_32 gX11_reaches_50
        dsimp only
        rw [if_neg (c_ge (n := m) rfl (by omega) (by omega)), if_neg (c_ge (n := m) rfl (by omega) (by omega)), if_neg (c_ge (N := 512) (n := 512) rfl hi (by decide)), k1, k2, bd_some, bd_some]
        exact ⟨_, _, rfl, rfl, nI1 i, nI1 i, m', by omega, l4, k3, k4, B'⟩
    · obtain ⟨c1, c2, c3, c4⟩ := c
      obtain ⟨d1, d2, d3, d4⟩ := c'
      obtain ⟨e1, e2, m, l1, l2, e3, e4, B⟩ := hI
      dsimp only at e1 e2 e3 e4 B
      subst e1 e2 e3 e4
      refine ⟨(nI m, nI 512, c3, c4), (nI m, nI 512, d3, d4), fun f hf => iter_e ?_ (by omega), fun f hf => iter_e ?_ (by omega), m, l1, rfl, B⟩
      · unfold gX9_findReached_32
        dsimp only
        rw [if_pos (c_le (n := m) rfl l2 (by omega))]
      · unfold gX11_reaches_50
        dsimp only
        rw [if_pos (c_le (n := m) rfl l2 (by omega))]
  obtain ⟨b, b', k1, k2, m, l1, k3, B1, B2, B3⟩ := key
  refine ⟨b.2.2.1, b.2.2.2, b'.2.2.1, b'.2.2.2, ?_, ?_, B3, by omega⟩
  · unfold fX9_findReached
    rw [e1, bd_some, e2, bd_some, show gi 0 512 = true from gi_nI (i := 0) (n := 512) (by decide) (by decide), gd_tr, ii0, k1, bd_some]
  · unfold fX11_reaches
    rw [er, bd_some, gg0, gd_tr, gd_tr, ii0, h0, gd_nI hs0 (by decide), show gi 0 512 = true from gi_nI (i := 0) (n := 512) (by decide) (by decide), gd_tr, ixn (by omega), show (1 : Int32) = b2i true from rfl, nar_b]
    show bd (iter (gX11_reaches_50 t) FU ((1 : Int32), (0 : Int32), upd rb.2 s0 1, upd que 0 (nI s0))) _ = _
    rw [k2, bd_some, k3, B1]
