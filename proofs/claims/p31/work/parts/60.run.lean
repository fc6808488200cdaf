/-! ===== a run ===== -/
theorem pick58 {t : Nat → Int32} {w : Int32} {g h x y k : Nat → Int32} {ns s : Nat} (S : SOK t w g h x y k ns) (hs : s < 512) (v : Nat) (hv : v < 100) :
    ∃ o : Option Nat, jX3_pickTarget_53 w (nI ns) g h x y k (nI s) (lN v) = some (oN o) ∧ jX11_moves_53 t (nI s) (nI v) = some (oN o) ∧ ∀ u, o = some u → u < 512 := by
  have h8 := S.1
  have h2 := S.2.2.2.1
  have key := iter2 (g := gX3_pickTarget_58 w (nI ns) g h x y k (nI s)) (g' := gX11_moves_58 t (nI s)) (fun (i : Nat) (c : Int64 × Int32) (c' : Int32 × Int32) => ∃ j, j < 100 ∧ c = (lN j, nI i) ∧ c' = (nI j, nI i))
    (fun (b : (Int64 × Int32) ⊕ Int32) (b' : (Int32 × Int32) ⊕ Int32) => (∃ e e', b = .inl e ∧ b' = .inl e') ∨ (∃ u, u < 512 ∧ b = .inr (nI u) ∧ b' = .inr (nI u))) ns (fun i c c' hi hI => ?_) (fun c c' hI => ?_) ns 0 (lN v, 0) (nI v, 0) FU FU (by omega) (show ns < 100000 by omega) (show ns < 100000 by omega) ⟨v, hv, rfl, rfl⟩
  · obtain ⟨b, b', e1, e2, hp⟩ := key
    unfold jX3_pickTarget_53 jX11_moves_53
    rw [e1, e2, bd_some, bd_some]
    rcases hp with ⟨e, e', rfl, rfl⟩ | ⟨u, hu, rfl, rfl⟩
    · exact ⟨none, rfl, rfl, fun u q => by cases q⟩
    · exact ⟨some u, rfl, rfl, fun u' q => by cases q; exact hu⟩
  · obtain ⟨j, hj, rfl, rfl⟩ := hI
    unfold gX3_pickTarget_58 gX11_moves_58
    simp only [gg2, gd_tr, ii2, h2, if_neg (c_ge (n := ns) rfl hi (show ns < 2 ^ 31 by omega)), tgt_eq S hi hs, nex_eq S hi hs, bd_some]
    cases e : TG w g h x y k i s with
    | none =>
      left
      rw [oN_none, if_pos rfl, if_pos rfl]
      unfold jX3_pickTarget_58b96 jX3_pickTarget_58b110 jX11_moves_58b93
      rw [if_pos rfl, if_pos rfl, show (0 : Int32) = b2i false from rfl, asN, bd_some]
      refine ⟨_, _, rfl, rfl, j, hj, ?_, ?_⟩
      · show (lN j - lN 0, nI i + 1) = _
        rw [lN_sub (Nat.zero_le _), nI1]; rfl
      · show (nI j - nI 0, nI i + 1) = _
        rw [pk_sub (Nat.zero_le _), nI1]; rfl
    | some u =>
      have hu := TG_lt S hi hs e
      rw [oN_some, if_neg (ne6 (by omega)), if_neg (ne6 (by omega))]
      by_cases h0 : j = 0
      · subst h0
        right
        refine ⟨.inr (nI u), .inr (nI u), fun f hf => iter_e ?_ (by omega), fun f hf => iter_e ?_ (by omega), Or.inr ⟨u, hu, rfl, rfl⟩⟩
        · dsimp only
          rw [if_neg (c_ge (n := ns) rfl hi (show ns < 2 ^ 31 by omega)), tgt_eq S hi hs, bd_some, e, oN_some, if_neg (ne6 (by omega)), if_pos (show lg_cmp (lN 0) 0 = 0 by decide)]
        · dsimp only
          rw [if_neg (c_ge (n := ns) rfl hi (show ns < 2 ^ 31 by omega)), nex_eq S hi hs, bd_some, e, oN_some, if_neg (ne6 (by omega)), if_pos (show nI 0 = 0 from rfl)]
      · left
        obtain ⟨j, rfl⟩ : ∃ q, j = q + 1 := ⟨j - 1, by omega⟩
        rw [if_neg (show ¬ lg_cmp (lN (j + 1)) 0 = 0 from fun q => by
          have := (lcmp_eq _ _).mp q
          have := (lN_eq (a := j + 1) (b := 0) (by omega) (by decide)).mp this
          omega), if_neg (show ¬ nI (j + 1) = 0 from fun q => by have := nI_inj (b := 0) (by omega) (by decide) q; omega)]
        unfold jX3_pickTarget_58b96 jX3_pickTarget_58b110 jX11_moves_58b93
        rw [if_neg (ne6 (by omega)), if_neg (ne6 (by omega)), show (1 : Int32) = b2i true from rfl, asN, bd_some]
        refine ⟨_, _, rfl, rfl, j, by omega, ?_, ?_⟩
        · show (lN (j + 1) - lN 1, nI i + 1) = _
          rw [lN_sub (by omega), nI1]; rfl
        · show (nI (j + 1) - nI 1, nI i + 1) = _
          rw [pk_sub (by omega), nI1]; rfl
  · obtain ⟨j, hj, rfl, rfl⟩ := hI
    refine ⟨.inl (lN j, nI ns), .inl (nI j, nI ns), fun f hf => iter_e ?_ hf, fun f hf => iter_e ?_ hf, Or.inl ⟨_, _, rfl, rfl⟩⟩
    · unfold gX3_pickTarget_58
      dsimp only
      rw [if_pos (c_le (n := ns) rfl (Nat.le_refl _) (by omega))]
    · unfold gX11_moves_58
      dsimp only
      rw [gg2, gd_tr, ii2, h2, if_pos (c_le (n := ns) rfl (Nat.le_refl _) (by omega))]
theorem pick_eq {t : Nat → Int32} {w : Int32} {g h x y k : Nat → Int32} {ns s v : Nat} (S : SOK t w g h x y k ns) (hs : s < 512) (hv : v < 32768) :
    ∃ o : Option Nat, fX3_pickTarget w (nI ns) g h x y k (nI s) (lN v) = some (oN o) ∧ fX11_moves t (nI s) (nI v) = some (oN o) ∧ ∀ u, o = some u → u < 512 := by
  have h8 := S.1
  have h2 := S.2.2.2.1
  have k1 : iter (gX3_pickTarget_6 w (nI ns) g h x y k (nI s)) FU ((0 : Int32), (0 : Int32)) = some (nI (fb_ct (fun i => (TG w g h x y k i s).isSome) ns), nI ns) := by
    refine iter_seq (fun i => (nI (fb_ct (fun i => (TG w g h x y k i s).isSome) i), nI i)) ns _ (by omega) (fun i hi => ?_) ?_
    · unfold gX3_pickTarget_6
      dsimp only
      rw [if_neg (c_ge (n := ns) rfl hi (by omega)), tgt_eq S hi hs, bd_some, fb_ct_succ, nI1, nI1]
      cases e : TG w g h x y k i s with
      | none => rw [oN_none, if_pos rfl]; rfl
      | some u => rw [oN_some, if_neg (ne6 (by have := TG_lt S hi hs e; omega))]; rfl
    · unfold gX3_pickTarget_6
      dsimp only
      rw [if_pos (c_le (n := ns) rfl (Nat.le_refl _) (by omega))]
  have k2 : iter (gX11_moves_5 t (nI s)) FU ((0 : Int32), (0 : Int32)) = some (nI (fb_ct (fun i => (TG w g h x y k i s).isSome) ns), nI ns) := by
    refine iter_seq (fun i => (nI (fb_ct (fun i => (TG w g h x y k i s).isSome) i), nI i)) ns _ (by omega) (fun i hi => ?_) ?_
    · unfold gX11_moves_5
      dsimp only
      rw [gg2, gd_tr, ii2, h2, if_neg (c_ge (n := ns) rfl hi (by omega)), nex_eq S hi hs, bd_some, fb_ct_succ, nI1, nI1, Int32.add_zero]
      cases e : TG w g h x y k i s with
      | none => rw [oN_none, if_pos rfl]; rfl
      | some u => rw [oN_some, if_neg (ne6 (by have := TG_lt S hi hs e; omega))]; rfl
    · unfold gX11_moves_5
      dsimp only
      rw [gg2, gd_tr, ii2, h2, if_pos (c_le (n := ns) rfl (Nat.le_refl _) (by omega))]
  have hle := fb_ct_le (fun i => (TG w g h x y k i s).isSome) ns
  unfold fX3_pickTarget fX11_moves
  rw [k1, k2, bd_some, bd_some]
  dsimp only
  generalize fb_ct (fun i => (TG w g h x y k i s).isSome) ns = m at hle
  by_cases h0 : m = 0
  · subst h0
    rw [if_pos (show nI 0 = 0 from rfl), if_pos (show nI 0 = 0 from rfl)]
    exact pick58 S hs 0 (by decide)
  · have hm : ¬ nI m = 0 := fun q => by have := nI_inj (b := 0) (by omega) (by decide) q; omega
    have hl : ¬ lN m = 0 := fun q => by have := (lN_eq (a := m) (b := 0) (by omega) (by decide)).mp q; omega
    rw [if_neg hm, if_neg hm, nI_l (by omega), gd_t (show nzl (lN m) = true by unfold nzl; simp [hl]), gd_t (show nzi (nI m) = true by unfold nzi; simp [hm]), pk_lRem (by omega) (by omega) (by omega), pk_rem (by omega) (by omega) (by omega)]
    have := Nat.mod_lt v (show 0 < m by omega)
    exact pick58 S hs (v % m) (by omega)
/-- the next number of the row -/
def nxX (X : Nat) : Nat := (X * 1103515245 + 12345) % 2147483648
theorem nxX_lt (X : Nat) : nxX X < 2 ^ 31 := Nat.mod_lt _ (by decide)
theorem nxX_eq {X : Nat} (h : X < 2 ^ 31) : ((lN X * (1103515245 : Int64)) + (12345 : Int64)) - ((lN X * (1103515245 : Int64)) + (12345 : Int64)) / (2147483648 : Int64) * (2147483648 : Int64) = lN (nxX X) := by
  rw [show (1103515245 : Int64) = lN 1103515245 from rfl, show (12345 : Int64) = lN 12345 from rfl, show (2147483648 : Int64) = lN 2147483648 from rfl, lN_mul, lN_add, pk_lRem (by omega) (by decide) (by decide)]
  rfl
theorem nxX_d {X : Nat} (h : X < 2 ^ 31) : lN X / (65536 : Int64) = lN (X / 65536) := by
  rw [show (65536 : Int64) = lN 65536 from rfl, pk_lDiv (by omega) (by decide) (by decide)]
/-- a state seen for the first time strikes candidates out, on both sides -/
theorem strike_sim {t cc cf cs cm cr : Nat → Int32} {nc s : Nat} {ru : Int32} (C : COK t cc cf cs cm cr nc) (h5 : t 5 = ru) :
    ∃ f' s' m' r' t', fX3_strikeByRun ru (nI nc) cc cf cs cm cr (nI s) = some (f', s', m', r') ∧ (∃ e, iter (gX11_sees_49 (nI s)) FU ((0 : Int32), t) = some (e, t')) ∧ (∀ c, c < nc → CRel t' cc f' s' m' r' c) ∧ ∀ j, (j < 47 ∨ 247 ≤ j) → t' j = t j := by
  obtain ⟨hn, h3, hC⟩ := C
  have key := iter2 (g := gX3_strikeByRun_2 ru (nI nc) cc (nI s)) (g' := gX11_sees_49 (nI s)) (fun (i : Nat) (c : Int32 × (Nat → Int32) × (Nat → Int32) × (Nat → Int32) × (Nat → Int32)) (c' : Int32 × (Nat → Int32)) => c.1 = nI i ∧ c'.1 = nI i ∧ (∀ d, d < nc → CRel c'.2 cc c.2.1 c.2.2.1 c.2.2.2.1 c.2.2.2.2 d) ∧ ∀ j, (j < 47 ∨ 247 ≤ j) → c'.2 j = t j)
    (fun (c : Int32 × (Nat → Int32) × (Nat → Int32) × (Nat → Int32) × (Nat → Int32)) (c' : Int32 × (Nat → Int32)) => (∀ d, d < nc → CRel c'.2 cc c.2.1 c.2.2.1 c.2.2.2.1 c.2.2.2.2 d) ∧ ∀ j, (j < 47 ∨ 247 ≤ j) → c'.2 j = t j) nc (fun i c c' hi hI => Or.inl ?_) (fun c c' hI => ?_) nc 0 ((0 : Int32), cf, cs, cm, cr) ((0 : Int32), t) FU FU (by omega) (show nc < 100000 by omega) (show nc < 100000 by omega) ⟨rfl, rfl, fun d hd => (hC d hd).1, fun j _ => rfl⟩
  · obtain ⟨b, b', e1, e2, p1, p2⟩ := key
    refine ⟨b.2.1, b.2.2.1, b.2.2.2.1, b.2.2.2.2, b'.2, ?_, ⟨b'.1, e2⟩, p1, p2⟩
    unfold fX3_strikeByRun
    rw [e1, bd_some]
  · obtain ⟨c1, c2, c3, c4, c5⟩ := c
    obtain ⟨d1, d2⟩ := c'
    obtain ⟨e1, e2, p1, p2⟩ := hI
    dsimp only at e1 e2 p1 p2
    subst e1 e2
    obtain ⟨r0, r1, r2, r3, r4⟩ := p1 i hi
    have q3 : d2 3 = nI nc := by rw [p2 3 (Or.inl (by decide)), h3]
    have q5 : d2 5 = ru := by rw [p2 5 (Or.inl (by decide)), h5]
    unfold gX3_strikeByRun_2 gX11_sees_49
    dsimp only
    rw [if_neg (c_ge (n := nc) rfl hi (by omega)), gg3, gd_tr, ii3, if_neg (show ¬ d2 3 ≤ nI i by rw [q3]; exact c_ge (n := nc) rfl hi (by omega)), against0_eq (by omega) (hC i hi).2, bd_some, of_eq (j := 1) (J := 1) rfl (by omega) (by decide), of_eq (j := 0) (J := 0) rfl (by omega) (by decide), bd_some, r1, Nat.add_zero, r0]
    by_cases hf : c2 i = 0
    · rw [if_pos hf, bd_some, isSo_sat, bd_some]
      cases hs : sat (cc i) (nI s) with
      | true =>
        rw [if_pos (show b2i (stn c2 i && !true) = 0 by simp [b2i]), if_neg (by decide)]
        exact ⟨_, _, rfl, rfl, nI1 i, nI1 i, p1, p2⟩
      | false =>
        rw [if_neg (show ¬ b2i (stn c2 i && !false) = 0 by simp [b2i, stn, hf]), setFate_eq (by omega), bd_some, if_pos (by decide), gg5, gd_tr, ii5, q5, judges_eq _ (by omega), bd_some]
        refine ⟨_, _, rfl, rfl, nI1 i, nI1 i, fun d hd => ?_, fun j hj => ?_⟩
        · dsimp only
          by_cases c : d = i
          · subst c; exact crel_s (q := (2, nI s, ru, -6)) r0
          · exact crel_o (q := (2, nI s, ru, -6)) c (p1 d hd)
        · dsimp only
          rw [jrow_o (by omega), p2 j hj]
    · rw [if_neg hf, if_pos (show b2i (stn c2 i && !sat (cc i) (nI s)) = 0 by simp [b2i, stn, hf])]
      exact ⟨_, _, rfl, rfl, nI1 i, nI1 i, p1, p2⟩
  · obtain ⟨c1, c2, c3, c4, c5⟩ := c
    obtain ⟨d1, d2⟩ := c'
    obtain ⟨e1, e2, p1, p2⟩ := hI
    dsimp only at e1 e2 p1 p2
    subst e1 e2
    have q3 : d2 3 = nI nc := by rw [p2 3 (Or.inl (by decide)), h3]
    refine ⟨(nI nc, c2, c3, c4, c5), (nI nc, d2), fun f hf => iter_e ?_ hf, fun f hf => iter_e ?_ hf, p1, p2⟩
    · unfold gX3_strikeByRun_2
      dsimp only
      rw [if_pos (c_le (n := nc) rfl (Nat.le_refl _) (by omega))]
    · unfold gX11_sees_49
      dsimp only
      rw [gg3, gd_tr, ii3, if_pos (show d2 3 ≤ nI nc by rw [q3]; exact c_le (n := nc) rfl (Nat.le_refl _) (by omega))]
/-- a state that is new, on both sides -/
theorem sees_eq {B : Nat} {t : Nat → Int32} {a w ru ro sn cn en : Int32} {g hh x y k cc cf cs cm cr eo : Nat → Int32} {we : Nat → Int64} {s : Nat} (h : RM B t (snap a w ru ro sn g hh x y k cn cc cf cs cm cr en eo we)) (hs : s < 512) (hm : mem we s = false) :
    ∃ eo' we' n f' s' m' r' t', en = nI n ∧ n < 512 ∧ fX6_add en eo we (nI s) ru = some (1, nI (n + 1), eo', we') ∧ fX3_strikeByRun ru cn cc cf cs cm cr (nI s) = some (f', s', m', r') ∧ fX11_sees t (nI s) = some t' ∧ RM B t' (snap a w ru ro sn g hh x y k cn cc f' s' m' r' (nI (n + 1)) eo' we') := by
  obtain ⟨ns, nc, n, R, z, r, ⟨a1, a2, a3, a4, a5, a6⟩, ⟨b1, b2, b3, b4, b5⟩, ⟨c1, c2, c3, c4, c5, c6, c7⟩, d, e, f, i, hmm⟩ := RMsn h
  have new : ∀ j, j < n → ¬ z j = s := fun j hj q => by
    have := (hmm s hs).mpr ⟨j, hj, q⟩
    rw [hm] at this; exact absurd this (by decide)
  have hn : n < 512 := by
    have := fb_holes 511 n (fun j => if z j < s then z j else z j - 1) (fun j hj => by
      have b1 := (f j hj).2.1
      have b2 := new j hj
      by_cases q : z j < s
      · simp only [if_pos q]; omega
      · simp only [if_neg q]; omega) (fun j1 j2 h1 h2 => by
      have b1 := new j1 (by omega)
      have b2 := new j2 h2
      have b3 : z j1 ≠ z j2 := fun q => by have := i j1 j2 (by omega) h2 q; omega
      by_cases q : z j1 < s
      · by_cases q' : z j2 < s
        · simp only [if_pos q, if_pos q']; exact b3
        · simp only [if_pos q, if_neg q']; omega
      · by_cases q' : z j2 < s
        · simp only [if_neg q, if_pos q']; omega
        · simp only [if_neg q, if_neg q']; omega)
    omega
  obtain ⟨we', e1, m1⟩ := add_eq we hs
  let t1 : Nat → Int32 := upd (upd (upd t (247 + n) (nI s)) (759 + n) ru) 4 (nI (n + 1))
  have o1 : ∀ j, ¬ j = 247 + n → ¬ j = 759 + n → ¬ j = 4 → t1 j = t j := fun j j1 j2 j3 => by show upd _ 4 _ j = _; rw [upd_o j3, upd_o j2, upd_o j1]
  have o4 : t1 4 = nI (n + 1) := upd_s
  have oz : t1 (247 + n) = nI s := by show upd _ 4 _ _ = _; rw [upd_o (by omega), upd_o (by omega), upd_s]
  have orr : t1 (759 + n) = ru := by show upd _ 4 _ _ = _; rw [upd_o (by omega), upd_s]
  have C1 : COK t1 cc cf cs cm cr nc := ⟨b2, by rw [o1 3 (by omega) (by omega) (by decide), c4, a5], fun c hc => by
    obtain ⟨⟨q0, q1, q2, q3, q4⟩, q5⟩ := e c hc
    refine ⟨⟨?_, ?_, ?_, ?_, ?_⟩, q5⟩
    · rw [o1 _ (by omega) (by omega) (by omega)]; exact q0
    · rw [o1 _ (by omega) (by omega) (by omega)]; exact q1
    · rw [o1 _ (by omega) (by omega) (by omega)]; exact q2
    · rw [o1 _ (by omega) (by omega) (by omega)]; exact q3
    · rw [o1 _ (by omega) (by omega) (by omega)]; exact q4⟩
  obtain ⟨f', s', m', r', t', g1, ⟨ee, g2⟩, g3, g4⟩ := strike_sim (s := s) C1 (show t1 5 = ru by rw [o1 5 (by omega) (by omega) (by decide), c6])
  have p1 : ∀ j, j < 47 → ¬ j = 4 → t' j = t j := fun j j1 j2 => by rw [g4 j (Or.inl j1), o1 j (by omega) (by omega) j2]
  refine ⟨upd eo n (nI (512 * R + s)), we', n, f', s', m', r', t', a6, hn, ?_, by rw [a5]; exact g1, ?_, ns, nc, n + 1, R, fun j => if j = n then s else z j, fun j => if j = n then R else r j, ⟨by show a = nI (if 0 = n then s else z 0); rw [if_neg (by omega)]; exact a1, a2, a3, a4, a5, rfl⟩, ⟨b1, b2, by omega, by omega, b5⟩, ⟨by rw [p1 0 (by decide) (by decide), c1]; rfl, by rw [p1 1 (by decide) (by decide), c2]; rfl, by rw [p1 2 (by decide) (by decide), c3]; rfl, by rw [p1 3 (by decide) (by decide), c4]; rfl, by rw [g4 4 (Or.inl (by decide)), o4]; rfl, by rw [p1 5 (by decide) (by decide), c6]; rfl, by rw [p1 6 (by decide) (by decide), c7]; rfl⟩, fun v hv => ?_, fun c hc => ⟨g3 c hc, (e c hc).2⟩, fun j hj => ?_, fun j1 j2 h1 h2 hq => ?_, fun u hu => ?_⟩
  · unfold fX6_add
    rw [has_eq we hs, hm, bd_some, if_pos (by decide), a6, if_pos (show nI n < (512 : Int32) from nI_lt (b := 512) hn (by decide)), gd_nI hn (by decide), e1, bd_some, ixn (by omega), nI1, a3, show (512 : Int32) = nI 512 from rfl, pk_mul, nI_add]
  · unfold fX11_sees
    rw [gg4, gd_tr, ii4, c5, a6, show (247 : Int32) = nI 247 from rfl, nI_add, gm rfl (by omega), gd_tr, gg5, gd_tr, ixn (by omega), show upd t (247 + n) (nI s) 4 = nI n by rw [upd_o (by omega), c5, a6], show (759 : Int32) = nI 759 from rfl, nI_add, gm rfl (by omega), gd_tr, gd_tr, ixn (by omega), ii5, show upd t (247 + n) (nI s) 5 = ru by rw [upd_o (by omega), c6], show upd (upd t (247 + n) (nI s)) (759 + n) ru 4 = nI n by rw [upd_o (by omega), upd_o (by omega), c5, a6], nI1]
    show bd (iter (gX11_sees_49 (nI s)) FU ((0 : Int32), t1)) _ = _
    rw [g2, bd_some]
  · obtain ⟨⟨q0, q1, q2, q3, q4⟩, q5, q6⟩ := d v hv
    refine ⟨⟨?_, ?_, ?_, ?_, ?_⟩, q5, q6⟩
    · rw [p1 _ (by omega) (by omega)]; exact q0
    · rw [p1 _ (by omega) (by omega)]; exact q1
    · rw [p1 _ (by omega) (by omega)]; exact q2
    · rw [p1 _ (by omega) (by omega)]; exact q3
    · rw [p1 _ (by omega) (by omega)]; exact q4
  · show upd eo n (nI (512 * R + s)) j = nI (512 * (if j = n then R else r j) + (if j = n then s else z j)) ∧ (if j = n then s else z j) < 512 ∧ (if j = n then R else r j) ≤ B ∧ t' (247 + j) = nI (if j = n then s else z j) ∧ (1 ≤ j → t' (759 + j) = nI (if j = n then R else r j))
    by_cases c : j = n
    · subst c
      simp only [if_true]
      refine ⟨upd_s, hs, b5, ?_, fun _ => ?_⟩
      · rw [g4 _ (Or.inr (by omega)), oz]
      · rw [g4 _ (Or.inr (by omega)), orr, a3]
    · simp only [if_neg c]
      obtain ⟨q0, q1, q2, q3, q4⟩ := f j (by omega)
      refine ⟨by rw [upd_o c]; exact q0, q1, q2, ?_, fun hj1 => ?_⟩
      · rw [g4 _ (Or.inr (by omega)), o1 _ (by omega) (by omega) (by omega)]; exact q3
      · rw [g4 _ (Or.inr (by omega)), o1 _ (by omega) (by omega) (by omega)]; exact q4 hj1
  · dsimp only at hq
    by_cases c1 : j1 = n
    · by_cases c2 : j2 = n
      · rw [c1, c2]
      · rw [if_pos c1, if_neg c2] at hq
        exact absurd hq.symm (new j2 (by omega))
    · by_cases c2 : j2 = n
      · rw [if_neg c1, if_pos c2] at hq
        exact absurd hq (new j1 (by omega))
      · rw [if_neg c1, if_neg c2] at hq
        exact i j1 j2 (by omega) (by omega) hq
  · show mem we' u = true ↔ ∃ q, q < n + 1 ∧ (if q = n then s else z q) = u
    rw [m1 u hu, Bool.or_eq_true, hmm u hu, decide_eq_true_eq]
    constructor
    · rintro (⟨q, hq, e⟩ | e)
      · exact ⟨q, by omega, by rw [if_neg (by omega)]; exact e⟩
      · exact ⟨n, by omega, by rw [if_pos rfl]; exact e.symm⟩
    · rintro ⟨q, hq, e⟩
      by_cases c : q = n
      · rw [if_pos c] at e; exact Or.inr e.symm
      · rw [if_neg c] at e; exact Or.inl ⟨q, by omega, e⟩
