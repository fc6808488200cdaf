/-! ===== seen is a number of the picture; refused changes nothing ===== -/
/-- what the picture alone answers -/
def cv (t : RW) (k : Int32) : Int32 := (bd (fX11_count t 0 0 zR zR zR k) fun o => some o.1).getD 0
def sv5 (t : RW) (p q : Int32) : Int32 := (bd (fX11_ofStep t zR p q) fun o => some o.1).getD 0
def qv5 (t : RW) (p q : Int32) : Int32 := (fX11_ofCandidate t p q).getD 0
def SF1 (t : RW) : Nat → Int64
  | 0 => 7
  | k + 1 => (31 : Int64) * SF1 t k + (cv t (nI k)).toInt64
def SF2 (t : RW) : Nat → Int64
  | 0 => SF1 t 11
  | k + 1 => (31 : Int64) * SF2 t k + (sv5 t (nI k / (5 : Int32)) (nI k - nI k / (5 : Int32) * (5 : Int32))).toInt64
def SF3 (t : RW) : Nat → Int64
  | 0 => SF2 t 40
  | k + 1 => (31 : Int64) * SF3 t k + (qv5 t (nI k / (5 : Int32)) (nI k - nI k / (5 : Int32) * (5 : Int32))).toInt64
def SF (t : RW) : Int64 := SF3 t (5 * ix (t 3))
theorem cv_eq {A : AS} {k : Nat} {v : Int32} (hk : k < 11) (h : aq_count A (nI k) = some v) : cv A.1 (nI k) = v := by
  unfold aq_count at h
  obtain ⟨o, e, h⟩ := k_bd h
  have : fX11_count A.1 (nI A.2.1.length) (nI A.2.2.2.length) zR zR zR (nI k) = fX11_count A.1 0 0 zR zR zR (nI k) := by
    unfold fX11_count
    rw [if_neg (show ¬ nI k = (11 : Int32) from fun q => by have := nI_inj (b := 11) (by omega) (by decide) q; omega), if_neg (show ¬ nI k = (12 : Int32) from fun q => by have := nI_inj (b := 12) (by omega) (by decide) q; omega), if_neg (show ¬ nI k = (11 : Int32) from fun q => by have := nI_inj (b := 11) (by omega) (by decide) q; omega), if_neg (show ¬ nI k = (12 : Int32) from fun q => by have := nI_inj (b := 12) (by omega) (by decide) q; omega)]
  rw [this] at e
  unfold cv
  rw [e, bd_some]
  exact Option.some.inj h
theorem seen_F {B : Nat} {A : AS} {c : CS} (h : IC B A c) : ∃ o : Int64 × CS, fL_seen c = some o ∧ o.1 = SF A.1 ∧ IC B A o.2 := by
  obtain ⟨b1, e1, p1, p2⟩ := iter0 (g := gL_seen_6) (fun (i : Nat) (a : Int64 × Int32 × CS) => a.1 = SF1 A.1 i ∧ a.2.1 = nI i ∧ IC B A a.2.2) (fun (b : Int64 × Int32 × CS) => b.1 = SF1 A.1 11 ∧ IC B A b.2.2) 11 (7, 0, c) (by decide) ⟨rfl, rfl, h⟩ (fun i a hi hI => by
    obtain ⟨x, n, c1⟩ := a
    obtain ⟨rfl, rfl, hc⟩ := hI
    left
    dsimp only at hc
    obtain ⟨o, k1, k2, k3⟩ := C_count hc (nI i)
    unfold gL_seen_6
    dsimp only
    rw [if_neg (c_ge (N := 11) (n := 11) rfl hi (by decide)), k1, bd_some]
    exact ⟨_, rfl, by rw [← cv_eq hi k2]; rfl, nI1 i, k3⟩) (fun a hI => by
    obtain ⟨x, n, c1⟩ := a
    obtain ⟨rfl, rfl, hc⟩ := hI
    unfold gL_seen_6
    dsimp only
    rw [if_pos (c_le (N := 11) (n := 11) rfl (Nat.le_refl _) (by decide))]
    exact ⟨_, rfl, rfl, hc⟩)
  obtain ⟨b2, e2, q1, q2⟩ := iter0 (g := gL_seen_33) (fun (i : Nat) (a : Int64 × Int32 × CS) => a.1 = SF2 A.1 i ∧ a.2.1 = nI i ∧ IC B A a.2.2) (fun (b : Int64 × Int32 × CS) => b.1 = SF2 A.1 40 ∧ IC B A b.2.2) 40 (b1.1, 0, b1.2.2) (by decide) ⟨p1, rfl, p2⟩ (fun i a hi hI => by
    obtain ⟨x, n, c1⟩ := a
    obtain ⟨rfl, rfl, hc⟩ := hI
    left
    dsimp only at hc
    obtain ⟨o, k1, k2, k3⟩ := C_ofStep hc (nI i / 5) (nI i - nI i / 5 * 5)
    unfold gL_seen_33
    dsimp only
    rw [if_neg (c_ge (N := 40) (n := 40) rfl hi (by decide)), k1, bd_some]
    refine ⟨_, rfl, ?_, nI1 i, k3⟩
    unfold aq_ofStep at k2
    have : sv5 A.1 (nI i / 5) (nI i - nI i / 5 * 5) = o.1 := by unfold sv5; rw [k2]; rfl
    show _ = (31 : Int64) * SF2 A.1 i + (sv5 A.1 (nI i / 5) (nI i - nI i / 5 * 5)).toInt64
    rw [this]) (fun a hI => by
    obtain ⟨x, n, c1⟩ := a
    obtain ⟨rfl, rfl, hc⟩ := hI
    unfold gL_seen_33
    dsimp only
    rw [if_pos (c_le (N := 40) (n := 40) rfl (Nat.le_refl _) (by decide))]
    exact ⟨_, rfl, rfl, hc⟩)
  obtain ⟨-, nc, -, -, hn, h3, -⟩ := C_cnt1 h
  obtain ⟨b3, e3, r1, r2⟩ := iter0 (g := gL_seen_65) (fun (i : Nat) (a : Int64 × Int32 × CS) => a.1 = SF3 A.1 i ∧ a.2.1 = nI i ∧ IC B A a.2.2) (fun (b : Int64 × Int32 × CS) => b.1 = SF3 A.1 (5 * nc) ∧ IC B A b.2.2) (5 * nc) (b2.1, 0, b2.2.2) (by omega) ⟨q1, rfl, q2⟩ (fun i a hi hI => by
    obtain ⟨x, n, c1⟩ := a
    obtain ⟨rfl, rfl, hc⟩ := hI
    left
    dsimp only at hc
    obtain ⟨o, n, k1, k2, k9, k3, k4⟩ := C_cnt1 hc
    obtain ⟨o2, l1, l2, l3⟩ := C_ofCandidate k4 (nI i / 5) (nI i - nI i / 5 * 5)
    have en : n = nc := nI_inj (by omega) (by omega) (by rw [← k3, h3])
    unfold gL_seen_65
    dsimp only
    rw [k1, bd_some, k2, en, show (5 : Int32) * nI nc = nI (5 * nc) from pk_mul 5 nc, if_neg (c_ge (n := 5 * nc) rfl hi (by omega)), l1, bd_some]
    refine ⟨_, rfl, ?_, nI1 i, l3⟩
    unfold aq_ofCandidate at l2
    have : qv5 A.1 (nI i / 5) (nI i - nI i / 5 * 5) = o2.1 := by unfold qv5; rw [l2]; rfl
    show _ = (31 : Int64) * SF3 A.1 i + (qv5 A.1 (nI i / 5) (nI i - nI i / 5 * 5)).toInt64
    rw [this]) (fun a hI => by
    obtain ⟨x, n, c1⟩ := a
    obtain ⟨rfl, rfl, hc⟩ := hI
    dsimp only at hc
    obtain ⟨o, n, k1, k2, k9, k3, k4⟩ := C_cnt1 hc
    have en : n = nc := nI_inj (by omega) (by omega) (by rw [← k3, h3])
    unfold gL_seen_65
    dsimp only
    rw [k1, bd_some, k2, en, show (5 : Int32) * nI nc = nI (5 * nc) from pk_mul 5 nc, if_pos (c_le (n := 5 * nc) rfl (Nat.le_refl _) (by omega))]
    exact ⟨_, rfl, rfl, k4⟩)
  unfold fL_seen
  rw [e1, bd_some, e2, bd_some, e3, bd_some]
  refine ⟨_, rfl, ?_, r2⟩
  show b3.1 = SF A.1
  unfold SF
  rw [r1, h3, ixn (by omega)]
/-- 0 to 12, but that a picture tells: how many are kept, how long the text is -/
theorem cnt11 {A : AS} : aq_count A 11 = some (nI A.2.2.2.length) := by
  unfold aq_count fX11_count
  rw [if_neg (by decide), if_neg (by decide), if_neg (by decide), if_neg (by decide), if_neg (by decide), if_neg (by decide), if_neg (by decide), if_neg (by decide), if_neg (by decide), if_neg (by decide), if_neg (by decide), if_pos rfl, bd_some]
theorem cnt12 {A : AS} : aq_count A 12 = some (nI A.2.1.length) := by
  unfold aq_count fX11_count
  rw [if_neg (by decide), if_neg (by decide), if_neg (by decide), if_neg (by decide), if_neg (by decide), if_neg (by decide), if_neg (by decide), if_neg (by decide), if_neg (by decide), if_neg (by decide), if_neg (by decide), if_neg (by decide), if_pos rfl, bd_some]
theorem refused_T {B : Nat} {A : AS} {c : CS} (hB : B < 4000000) (h : IC B A c) : good B A (fL_refused c) := by
  unfold fL_refused
  obtain ⟨o1, e1, v1, I1⟩ := seen_F h
  refine gb e1 ?_
  obtain ⟨o2, e2, f2, I2⟩ := C_count I1 12
  refine gb e2 ?_
  obtain ⟨o3, e3, f3, I3⟩ := C_count I2 11
  refine gb e3 ?_
  obtain ⟨c4, e4, I4⟩ := refuses_0 hB I3
  refine gb e4 ?_
  refine gf i0ne1 ?_
  obtain ⟨c5, e5, I5⟩ := refuses_1 hB I4
  refine gb e5 ?_
  refine gf i0ne1 ?_
  obtain ⟨o6, e6, v6, I6⟩ := seen_F I5
  refine gb e6 ?_
  refine gt (lc_t (v6.trans v1.symm)) ?_
  obtain ⟨o7, e7, f7, I7⟩ := C_count I6 12
  refine gb e7 ?_
  refine gt (aq_v f7 f2) ?_
  obtain ⟨o8, e8, f8, I8⟩ := C_count I7 11
  refine gb e8 ?_
  refine gt (aq_v f8 f3) ?_
  exact ⟨_, rfl, I8⟩
