/-! ===== the pad: put ===== -/
def RP (p_n : Int32) (p_s : Nat → Int32) (t_len : Int32) (t_pad : Nat → Int32) : Prop := ∃ l : Nat, l ≤ 80 ∧ p_n = nI l ∧ t_len = nI l ∧ ∀ j, j < l → p_s j = t_pad j
theorem l255 {r : Nat} (h : r < 2 ^ 64) : lN r &&& (255 : Int64) = lN (r % 256) := by
  rw [show (255 : Int64) = lN 255 from rfl, wb_and h (by decide), show (255 : Nat) = 2 ^ 8 - 1 from rfl, Nat.and_two_pow_sub_one_eq_mod]
theorem l8 {r : Nat} (h : r < 2 ^ 64) : ((lN r).toUInt64 >>> ((8 : Int32).toInt64.toUInt64 &&& Int64.toUInt64 63)).toInt64 = lN (r / 256) := wb_shr (k := 8) h (by decide)
theorem lcmp_lt {a b : Nat} (ha : a < 2 ^ 31) (hb : b < 2 ^ 31) : lg_cmp (lN a) (lN b) < 0 ↔ a < b := by
  unfold lg_cmp
  by_cases h : lN a > lN b
  · rw [if_pos h]
    have := (lN_lt hb ha).mp h
    constructor
    · intro q; exact absurd q (by decide)
    · intro q; omega
  · rw [if_neg h]
    have h' : ¬ b < a := fun q => h ((lN_lt hb ha).mpr q)
    by_cases h2 : lN a = lN b
    · rw [if_pos h2]
      have := (lN_eq ha hb).mp h2
      constructor
      · intro q; exact absurd q (by decide)
      · intro q; omega
    · rw [if_neg h2]
      have : ¬ a = b := fun q => h2 (by rw [q])
      constructor
      · intro _; omega
      · intro _; decide
theorem lcmp_le {a b : Nat} (ha : a < 2 ^ 31) (hb : b < 2 ^ 31) : lg_cmp (lN a) (lN b) ≤ 0 ↔ a ≤ b := by
  unfold lg_cmp
  by_cases h : lN a > lN b
  · rw [if_pos h]
    have := (lN_lt hb ha).mp h
    constructor
    · intro q; exact absurd q (by decide)
    · intro q; omega
  · rw [if_neg h]
    have h' : ¬ b < a := fun q => h ((lN_lt hb ha).mpr q)
    by_cases h2 : lN a = lN b
    · rw [if_pos h2]
      have := (lN_eq ha hb).mp h2
      constructor
      · intro _; omega
      · intro _; decide
    · rw [if_neg h2]
      constructor
      · intro _; omega
      · intro _; decide
theorem lN_z {r : Nat} (h : r < 2 ^ 64) : lN r = 0 ↔ r = 0 := by
  constructor
  · intro q
    have := congrArg (fun x => x.toBitVec.toNat) q
    try dsimp only at this
    rw [wb_tn h] at this
    simpa using this
  · intro q; subst q; rfl
/-- once a sign is bad it stays so -/
theorem put8_bad : ∀ (d i r : Nat), i + d = 8 → r < 2 ^ 64 → ∃ b : Int32 × Int64 × Int32, b.2.2 = 0 ∧ ∀ f, d < f → iter gX11_put_8 f (nI i, lN r, (0 : Int32)) = some b := by
  intro d
  induction d with
  | zero =>
    intro i r h1 h2
    have : i = 8 := by omega
    subst this
    refine ⟨(nI 8, lN r, 0), rfl, fun f hf => iter_e ?_ hf⟩
    unfold gX11_put_8
    dsimp only
    rw [if_pos (show (8 : Int32) ≤ nI 8 by decide)]
  | succ d ih =>
    intro i r h1 h2
    by_cases hz : r % 256 = 0
    · refine ⟨(nI i, lN r, 0), rfl, fun f hf => iter_e ?_ (by omega)⟩
      unfold gX11_put_8
      dsimp only
      rw [if_neg (c_ge (N := 8) (n := 8) rfl (show i < 8 by omega) (by decide)), l255 h2, hz, if_pos (show lg_cmp (lN 0) 0 = 0 by decide)]
    · obtain ⟨b, hb, hf⟩ := ih (i + 1) (r / 256) (by omega) (by omega)
      refine ⟨b, hb, fun f h => ?_⟩
      obtain ⟨f, rfl⟩ : ∃ q, f = q + 1 := ⟨f - 1, by omega⟩
      refine iter_n (a' := (nI (i + 1), lN (r / 256), 0)) ?_ (hf f (by omega))
      unfold gX11_put_8
      dsimp only
      rw [if_neg (c_ge (N := 8) (n := 8) rfl (show i < 8 by omega) (by decide)), l255 h2, if_neg (fun q => hz ((lN_z (by omega)).mp ((lcmp_eq _ _).mp q))), if_pos rfl, l8 h2, nI1]
theorem in_sign {s : Nat} (hs : s < 256) : (fX11_in (nI s) 33 126 = some 0 ∧ (s < 33 ∨ 126 < s)) ∨ (fX11_in (nI s) 33 126 = some 1 ∧ 33 ≤ s ∧ s ≤ 126) := by
  rcases in_01 (nI s) 33 126 with ⟨e, h⟩ | ⟨e, h1, h2⟩
  · rw [nI_toInt (by omega), show (33 : Int32).toInt = 33 by decide, show (126 : Int32).toInt = 126 by decide] at h
    exact Or.inl ⟨e, by omega⟩
  · rw [nI_toInt (by omega), show (33 : Int32).toInt = 33 by decide] at h1
    rw [nI_toInt (by omega), show (126 : Int32).toInt = 126 by decide] at h2
    exact Or.inr ⟨e, by omega, by omega⟩
theorem signs_eq (p0 : Int64) : ∃ b : Int32 × Int64 × Int32, iter gX11_put_8 FU ((0 : Int32), p0, (1 : Int32)) = some b ∧ ((∃ m : Nat, 1 ≤ m ∧ m ≤ 8 ∧ fX4_countSigns p0 = some (nI m) ∧ b = (nI m, 0, 1)) ∨ (fX4_countSigns p0 = some 0 ∧ (b.1 = 0 ∨ b.2.2 = 0 ∨ ¬ b.2.1 = 0))) := by
  obtain ⟨n, hn, rfl⟩ := wb_of p0
  have key := iter2 (g := gX4_countSigns_4) (g' := gX11_put_8) (fun (i : Nat) (c : Int32 × Int64) (c' : Int32 × Int64 × Int32) => ∃ r, r < 2 ^ (64 - 8 * i) ∧ c = (nI i, lN r) ∧ c' = (nI i, lN r, 1))
    (fun (z : (Int32 × Int64) ⊕ Int32) (b : Int32 × Int64 × Int32) => (∃ m : Nat, 1 ≤ m ∧ m ≤ 8 ∧ z = .inl (nI m, 0) ∧ b = (nI m, 0, 1)) ∨ (((∃ e, z = .inl (0, e)) ∨ z = .inr 0) ∧ (b.1 = 0 ∨ b.2.2 = 0 ∨ ¬ b.2.1 = 0))) 8 (fun i c c' hi hI => ?_) (fun c c' hI => ?_) 8 0 ((0 : Int32), lN n) ((0 : Int32), lN n, (1 : Int32)) FU FU (by omega) (by decide) (by decide) ⟨n, hn, rfl, rfl⟩
  · obtain ⟨z, b, e1, e2, hp⟩ := key
    refine ⟨b, e2, ?_⟩
    unfold fX4_countSigns
    rw [e1, bd_some]
    rcases hp with ⟨m, m1, m2, rfl, rfl⟩ | ⟨⟨e, rfl⟩ | rfl, hb⟩
    · exact Or.inl ⟨m, m1, m2, rfl, rfl⟩
    · exact Or.inr ⟨rfl, hb⟩
    · exact Or.inr ⟨rfl, hb⟩
  · obtain ⟨r, hr0, rfl, rfl⟩ := hI
    have hr : r < 2 ^ 64 := Nat.lt_of_lt_of_le hr0 (Nat.pow_le_pow_right (by decide) (by omega))
    have s1 : gX4_countSigns_4 (nI i, lN r) = (if lg_cmp (lN r) 0 = 0 then some (.inr (.inl (nI i, lN r))) else if lg_cmp (lN (r % 256)) 33 < 0 then some (.inr (.inr 0)) else if lg_cmp (lN (r % 256)) 126 ≤ 0 then some (.inl (nI (i + 1), lN (r / 256))) else some (.inr (.inr 0))) := by
      unfold gX4_countSigns_4
      dsimp only
      rw [if_neg (c_ge (N := 8) (n := 8) rfl hi (by decide)), l255 hr, l8 hr, nI1]
    have s2 : gX11_put_8 (nI i, lN r, 1) = (if lg_cmp (lN (r % 256)) 0 = 0 then some (.inr (nI i, lN r, 1)) else bd (fX11_in (nI (r % 256)) 33 126) fun y_41 : Int32 => if y_41 = 0 then some (.inl (nI (i + 1), lN (r / 256), 0)) else some (.inl (nI (i + 1), lN (r / 256), 1))) := by
      unfold gX11_put_8
      dsimp only
      rw [if_neg (c_ge (N := 8) (n := 8) rfl hi (by decide)), l255 hr, l8 hr, nI1, if_neg i0ne1, lN_i]
    by_cases h0 : r = 0
    · subst h0
      rw [if_pos (show lg_cmp (lN 0) 0 = 0 by decide)] at s1
      rw [if_pos (show lg_cmp (lN (0 % 256)) 0 = 0 by decide)] at s2
      right
      refine ⟨_, _, fun f hf => iter_e s1 (by omega), fun f hf => iter_e s2 (by omega), ?_⟩
      by_cases hz : i = 0
      · subst hz
        exact Or.inr ⟨Or.inl ⟨_, rfl⟩, Or.inl rfl⟩
      · exact Or.inl ⟨i, by omega, by omega, rfl, rfl⟩
    · have hl : ¬ lg_cmp (lN r) 0 = 0 := fun q => h0 ((lN_z hr).mp ((lcmp_eq _ _).mp q))
      rw [if_neg hl] at s1
      have hs : r % 256 < 256 := Nat.mod_lt _ (by decide)
      by_cases hz : r % 256 = 0
      · rw [hz, if_pos (show lg_cmp (lN 0) 33 < 0 by decide)] at s1
        rw [hz, if_pos (show lg_cmp (lN 0) 0 = 0 by decide)] at s2
        right
        exact ⟨_, _, fun f hf => iter_e s1 (by omega), fun f hf => iter_e s2 (by omega), Or.inr ⟨Or.inr rfl, Or.inr (Or.inr (fun q => h0 ((lN_z hr).mp q)))⟩⟩
      · rw [if_neg (fun q => hz ((lN_z (by omega)).mp ((lcmp_eq _ _).mp q)))] at s2
        have l1 := lcmp_lt (a := r % 256) (b := 33) (by omega) (by decide)
        have l2 := lcmp_le (a := r % 256) (b := 126) (by omega) (by decide)
        rcases in_sign hs with ⟨e, h⟩ | ⟨e, h1, h2⟩
        · rw [e, bd_some, if_pos rfl] at s2
          obtain ⟨b, hb, hf⟩ := put8_bad (8 - (i + 1)) (i + 1) (r / 256) (by omega) (by omega)
          have s1' : gX4_countSigns_4 (nI i, lN r) = some (.inr (.inr 0)) := by
            rw [s1]
            rcases h with h | h
            · rw [if_pos (show lg_cmp (lN (r % 256)) 33 < 0 from l1.mpr h)]
            · rw [if_neg (show ¬ lg_cmp (lN (r % 256)) 33 < 0 from fun q => by have := l1.mp q; omega), if_neg (show ¬ lg_cmp (lN (r % 256)) 126 ≤ 0 from fun q => by have := l2.mp q; omega)]
          right
          refine ⟨_, b, fun f hf' => iter_e s1' (by omega), fun f hf' => ?_, Or.inr ⟨Or.inr rfl, Or.inr (Or.inl hb)⟩⟩
          obtain ⟨f, rfl⟩ : ∃ q, f = q + 1 := ⟨f - 1, by omega⟩
          exact iter_n s2 (hf f (by omega))
        · rw [e, bd_some, if_neg i0ne1] at s2
          rw [if_neg (show ¬ lg_cmp (lN (r % 256)) 33 < 0 from fun q => by have := l1.mp q; omega), if_pos (show lg_cmp (lN (r % 256)) 126 ≤ 0 from l2.mpr h2)] at s1
          left
          refine ⟨_, _, s1, s2, r / 256, ?_, rfl, rfl⟩
          have e1 : (2 : Nat) ^ (64 - 8 * i) = 2 ^ (64 - 8 * (i + 1)) * 256 := by
            rw [show 64 - 8 * i = (64 - 8 * (i + 1)) + 8 by omega, Nat.pow_add]
          rw [e1] at hr0
          exact Nat.div_lt_of_lt_mul (by rw [Nat.mul_comm]; exact hr0)
  · obtain ⟨r, hr, rfl, rfl⟩ := hI
    have : r = 0 := by
      rw [show 64 - 8 * 8 = 0 from rfl, Nat.pow_zero] at hr; omega
    subst this
    refine ⟨.inl (nI 8, 0), (nI 8, 0, 1), fun f hf => iter_e ?_ hf, fun f hf => iter_e ?_ hf, Or.inl ⟨8, by decide, by decide, rfl, rfl⟩⟩
    · unfold gX4_countSigns_4
      dsimp only
      rw [if_pos (show (8 : Int32) ≤ nI 8 by decide)]; rfl
    · unfold gX11_put_8
      dsimp only
      rw [if_pos (show (8 : Int32) ≤ nI 8 by decide)]; rfl
theorem nar_c : ∀ s, s < 256 → vp_nar .char (((nI s).toUInt32 % 65536).toInt32) = nI s := by decide +kernel
theorem append_eq (p0 : Int64) {m l : Nat} (hm : m ≤ 8) (hl : l + m ≤ 80) {ps tp : Nat → Int32} (h : ∀ j, j < l → ps j = tp j) :
    ∃ ps' b', fX4_append (nI l) ps p0 (nI m) = some (nI (l + m), ps') ∧ iter (gX11_put_105 p0) FU (nI m - 1, nI l, tp) = some b' ∧ b'.2.1 = nI (l + m) ∧ ∀ j, j < l + m → ps' j = b'.2.2 j := by
  obtain ⟨n, hn, rfl⟩ := wb_of p0
  have key := iter2 (g := gX4_append_5 (lN n)) (g' := gX11_put_105 (lN n)) (fun (d : Nat) (c : Int32 × Int32 × (Nat → Int32)) (c' : Int32 × Int32 × (Nat → Int32)) => c.1 = nI (m - d) - 1 ∧ c'.1 = nI (m - d) - 1 ∧ c.2.1 = nI (l + d) ∧ c'.2.1 = nI (l + d) ∧ ∀ j, j < l + d → c.2.2 j = c'.2.2 j)
    (fun (c : Int32 × Int32 × (Nat → Int32)) (c' : Int32 × Int32 × (Nat → Int32)) => c.2.1 = nI (l + m) ∧ c'.2.1 = nI (l + m) ∧ ∀ j, j < l + m → c.2.2 j = c'.2.2 j) m (fun d c c' hd hI => Or.inl ?_) (fun c c' hI => ?_) m 0 (nI m - 1, nI l, ps) (nI m - 1, nI l, tp) FU FU (by omega) (show m < 100000 by omega) (show m < 100000 by omega) ⟨rfl, rfl, rfl, rfl, h⟩
  · obtain ⟨b, b', e1, e2, p1, p2, p3⟩ := key
    refine ⟨b.2.2, b', ?_, e2, p2, p3⟩
    unfold fX4_append
    rw [e1, bd_some, p1]
  · obtain ⟨c1, c2, c3⟩ := c
    obtain ⟨d1, d2, d3⟩ := c'
    obtain ⟨e1, e2, e3, e4, hj⟩ := hI
    dsimp only at e1 e2 e3 e4 hj
    obtain ⟨e, he⟩ : ∃ e, m - d = e + 1 := ⟨m - d - 1, by omega⟩
    rw [he, nI_p] at e1 e2
    subst e1 e2 e3 e4
    have hb : (((((lN n).toUInt64 >>> (((8 : Int32) * nI e).toInt64.toUInt64 &&& Int64.toUInt64 63)).toInt64) &&& (255 : Int64)).toInt32) = nI (n / 2 ^ (8 * e) % 256) := by
      rw [show (8 : Int32) = nI 8 from rfl, pk_mul, wb_shr hn (show 8 * e < 64 by omega), l255 (Nat.lt_of_le_of_lt (Nat.div_le_self _ _) hn), lN_i]
    have hk : nI e + (-1) = nI (m - (d + 1)) - 1 := by
      rw [show m - (d + 1) = e by omega, Int32.sub_eq_add_neg]
    unfold gX4_append_5 gX11_put_105
    dsimp only
    rw [if_neg (c_lt0 (by omega)), if_neg (c_lt0 (by omega)), if_neg (c_ge (N := 80) (n := 80) rfl (show l + d < 80 by omega) (by decide)), gd_nI (show l + d < 80 by omega) (by decide), gd_nI (show l + d < 80 by omega) (by decide), ixn (by omega), hb, nar_c _ (Nat.mod_lt _ (by decide)), hk, nI1]
    refine ⟨_, _, rfl, rfl, rfl, rfl, rfl, rfl, fun j hj' => ?_⟩
    dsimp only
    by_cases q : j = l + d
    · subst q; rw [upd_s, upd_s]
    · rw [upd_o q, upd_o q]; exact hj j (by omega)
  · obtain ⟨c1, c2, c3⟩ := c
    obtain ⟨d1, d2, d3⟩ := c'
    obtain ⟨e1, e2, e3, e4, hj⟩ := hI
    dsimp only at e1 e2 e3 e4 hj
    rw [Nat.sub_self, show nI 0 - 1 = (-1 : Int32) by decide] at e1 e2
    subst e1 e2 e3 e4
    refine ⟨(-1, nI (l + m), c3), (-1, nI (l + m), d3), fun f hf => iter_e ?_ hf, fun f hf => iter_e ?_ hf, rfl, rfl, hj⟩
    · unfold gX4_append_5
      dsimp only
      rw [if_pos (show (-1 : Int32) < 0 by decide)]
    · unfold gX11_put_105
      dsimp only
      rw [if_pos (show (-1 : Int32) < 0 by decide)]
theorem op_put {p_n t_len : Int32} {p_s t_pad : Nat → Int32} (h : RP p_n p_s t_len t_pad) (p0 : Int64) :
    ∃ ans pn ps tl tp, fX10_put p_n p_s p0 = some (ans, pn, ps) ∧ fX11_put t_pad t_len p0 = some (ans, tl, tp) ∧ RP pn ps tl tp := by
  obtain ⟨l, hl, rfl, rfl, hj⟩ := h
  obtain ⟨b, e, hp⟩ := signs_eq p0
  unfold fX10_put fX11_put jX11_put_67
  rw [e, bd_some]
  rcases hp with ⟨m, m1, m2, hc, rfl⟩ | ⟨hc, hb⟩
  · have hm : ¬ nI m = 0 := fun q => by have := nI_inj (b := 0) (by omega) (by decide) q; omega
    rw [hc, bd_some, if_neg hm]
    dsimp only
    rw [if_neg hm, if_neg i0ne1, if_pos (show lg_cmp (0 : Int64) 0 = 0 by decide), nI_add]
    by_cases hlm : l + m ≤ 80
    · obtain ⟨ps', b', k1, k2, k3, k4⟩ := append_eq p0 m2 hlm hj
      have hle : nI (l + m) ≤ (80 : Int32) := by rw [le_toInt, nI_toInt (by omega), show (80 : Int32).toInt = 80 by decide]; omega
      rw [if_pos hle, if_pos hle, k1, bd_some, k2, bd_some, k3]
      exact ⟨_, _, _, _, _, rfl, rfl, l + m, hlm, rfl, rfl, k4⟩
    · have hle : ¬ nI (l + m) ≤ (80 : Int32) := by rw [le_toInt, nI_toInt (by omega), show (80 : Int32).toInt = 80 by decide]; omega
      rw [if_neg hle, if_neg hle]
      exact ⟨_, _, _, _, _, rfl, rfl, l, hl, rfl, rfl, hj⟩
  · have hm : (if b.1 = 0 then some ((-2 : Int32), nI l, t_pad) else if b.2.2 = 0 then some ((-2 : Int32), nI l, t_pad) else if lg_cmp b.2.1 0 = 0 then (if nI l + b.1 ≤ (80 : Int32) then bd (iter (gX11_put_105 p0) FU (b.1 - (1 : Int32), nI l, t_pad)) fun b_105 : Int32 × Int32 × (Nat → Int32) => some (b_105.2.1, b_105.2.1, b_105.2.2) else some ((-4 : Int32), nI l, t_pad)) else some ((-2 : Int32), nI l, t_pad)) = some ((-2 : Int32), nI l, t_pad) := by
      by_cases q1 : b.1 = 0
      · rw [if_pos q1]
      · rw [if_neg q1]
        by_cases q2 : b.2.2 = 0
        · rw [if_pos q2]
        · rw [if_neg q2]
          have q3 : ¬ b.2.1 = 0 := (hb.resolve_left q1).resolve_left q2
          rw [if_neg (fun q => q3 ((lcmp_eq _ _).mp q))]
    rw [hc, bd_some, if_pos rfl]
    refine ⟨_, _, _, _, _, rfl, hm, l, hl, rfl, rfl, hj⟩
