/-! ===== a candidate comes ===== -/
theorem RMsn {B : Nat} {t : Nat → Int32} {a w ru ro sn cn en : Int32} {g hh x y k cc cf cs cm cr eo : Nat → Int32} {we : Nat → Int64} (h : RM B t (snap a w ru ro sn g hh x y k cn cc cf cs cm cr en eo we)) :
    ∃ (ns nc n R : Nat) (z r : Nat → Nat), (a = nI (z 0) ∧ (w = 0 ∨ w = 1) ∧ ru = nI R ∧ sn = nI ns ∧ cn = nI nc ∧ en = nI n) ∧ (ns ≤ 8 ∧ nc ≤ 40 ∧ 1 ≤ n ∧ n ≤ 512 ∧ R ≤ B) ∧ (t 0 = a ∧ t 1 = w ∧ t 2 = sn ∧ t 3 = cn ∧ t 4 = en ∧ t 5 = ru ∧ t 6 = ro) ∧ (∀ i, i < ns → SRel t g hh x y k i) ∧ (∀ c, c < nc → CRel t cc cf cs cm cr c ∧ ∃ q : Nat, q < 1350 ∧ cc c = nI q) ∧ ERel B n t eo z r ∧ (∀ i j, i < n → j < n → z i = z j → i = j) ∧ (∀ u, u < 512 → (mem we u = true ↔ ∃ q, q < n ∧ z q = u)) := h
theorem RMok {B : Nat} {t : Nat → Int32} {a w ru ro sn cn en : Int32} {g hh x y k cc cf cs cm cr eo : Nat → Int32} {we : Nat → Int64} (h : RM B t (snap a w ru ro sn g hh x y k cn cc cf cs cm cr en eo we)) : ∃ ns nc : Nat, sn = nI ns ∧ cn = nI nc ∧ SOK t w g hh x y k ns ∧ COK t cc cf cs cm cr nc := h.ok
def thr (nc : Nat) (cc : Nat → Int32) (k : Int32) : Bool := !(ffind nc (fun c => decide (cc c = k))).isNone
theorem hasCode_eq {nc : Nat} (hn : nc ≤ 40) (cc : Nat → Int32) (k : Int32) : fX0_hasCode (nI nc) cc k = some (b2i (thr nc cc k)) := by
  have key := iter_ff (g := gX0_hasCode_2 (nI nc) cc k) (fun c => decide (cc c = k)) (fun _ => (1 : Int32)) nc (by omega) (fun i hi hp => ?_) (fun i hi hp => ?_) ?_
  · unfold fX0_hasCode thr
    rcases key with ⟨e, h, hf⟩ | ⟨i, hi, h, hf⟩
    · rw [h, bd_some, se_l, hf]; rfl
    · rw [h, bd_some, se_r, hf]; rfl
  · unfold gX0_hasCode_2
    rw [if_neg (c_ge (n := nc) rfl hi (by omega)), gd_nI (show i < 40 by omega) (by decide), ixn (by omega), if_neg (by simpa using hp), nI1]
  · unfold gX0_hasCode_2
    rw [if_neg (c_ge (n := nc) rfl hi (by omega)), gd_nI (show i < 40 by omega) (by decide), ixn (by omega), if_pos (by simpa using hp)]
  · unfold gX0_hasCode_2
    exact ⟨_, by rw [if_pos (c_le (n := nc) rfl (Nat.le_refl _) (by omega))]⟩
theorem isThere_eq {t cc : Nat → Int32} {nc : Nat} (hn : nc ≤ 40) (h3 : t 3 = nI nc) (hc : ∀ c, c < nc → t (47 + 5 * c) = cc c) (k : Int32) : fX11_isThere t k = some (b2i (thr nc cc k)) := by
  have key := iter_flag (g := gX11_isThere_4 t k) 0 1 (fun c => decide (cc c = k)) nc (by omega) (fun i hi hp => ?_) (fun i hi hp => ?_) (fun i hi => ?_) ?_
  · obtain ⟨e, key⟩ := key
    unfold fX11_isThere thr
    rw [key, bd_some, fl_01, isB_b2i, gd_tr]
  · unfold gX11_isThere_4
    dsimp only at hp ⊢
    rw [gg3, gd_tr, ii3, h3, if_neg (c_ge (n := nc) rfl hi (by omega)), if_pos rfl, of_eq (j := 0) (J := 0) rfl (by omega) (by decide), bd_some, Nat.add_zero, hc i hi, if_neg (by simpa using hp), nI1]
  · unfold gX11_isThere_4
    dsimp only at hp ⊢
    rw [gg3, gd_tr, ii3, h3, if_neg (c_ge (n := nc) rfl hi (by omega)), if_pos rfl, of_eq (j := 0) (J := 0) rfl (by omega) (by decide), bd_some, Nat.add_zero, hc i hi, if_pos (by simpa using hp), nI1]
  · unfold gX11_isThere_4
    dsimp only
    rw [gg3, gd_tr, ii3, h3]
    by_cases q : i < nc
    · right
      exact ⟨q, by rw [if_neg (c_ge (n := nc) rfl q (by omega)), if_neg i0ne1, nI1]⟩
    · left
      exact ⟨_, by rw [if_pos (c_le (n := nc) rfl (by omega) (by omega))]⟩
  · unfold gX11_isThere_4
    dsimp only
    exact ⟨_, by rw [gg3, gd_tr, ii3, h3, if_pos (c_le (n := nc) rfl (Nat.le_refl _) (by omega))]⟩
theorem comes_eq {B : Nat} {t : Nat → Int32} {a w ru ro sn en : Int32} {g hh x y k cc cf cs cm cr eo : Nat → Int32} {we : Nat → Int64} {nc q : Nat} (hB : B < 4000000) (h : RM B t (snap a w ru ro sn g hh x y k (nI nc) cc cf cs cm cr en eo we)) (hn : nc < 40) (hq : q < 1350) :
    ∃ t' f s m r, fX11_comes t (nI q) = some t' ∧ fX3_judgeBySeen a (upd cc nc (nI q)) cf cs cm cr en eo (nI nc) = some (f, s, m, r) ∧ t' 3 = nI (nc + 1) ∧ RM B t' (snap a w ru ro sn g hh x y k (nI (nc + 1)) (upd cc nc (nI q)) f s m r en eo we) := by
  obtain ⟨ns, nc', n, R, z, r, ⟨a1, a2, a3, a4, a5, a6⟩, ⟨b1, b2, b3, b4, b5⟩, ⟨c1, c2, c3, c4, c5, c6, c7⟩, d, e, f, i, hm⟩ := RMsn h
  have : nc' = nc := (nI_inj (by omega) (by omega) a5).symm
  subst this
  have ho : ∀ j, j < n → eo j = nI (512 * r j + z j) ∧ z j < 512 ∧ r j < 4000000 := fun j hj => by
    obtain ⟨q1, q2, q3, -⟩ := f j hj
    exact ⟨q1, q2, by omega⟩
  have ej := judge_eq (c_c := upd cc nc' (nI q)) (c_f := cf) (c_s := cs) (c_m := cm) (c_r := cr) hn hq b4 upd_s ho
  rw [← a1, ← a6] at ej
  let t1 : Nat → Int32 := upd (upd t (47 + 5 * nc') (nI q)) 3 (nI (nc' + 1))
  have o1 : ∀ j, ¬ j = 47 + 5 * nc' → ¬ j = 3 → t1 j = t j := fun j j1 j2 => by show upd _ 3 _ j = _; rw [upd_o j2, upd_o j1]
  have k1 : t1 (47 + 5 * nc') = nI q := by show upd _ 3 _ _ = _; rw [upd_o (by omega), upd_s]
  have ew := weighs_eq (t := t1) (z := z) (r := r) (n := n) (c := nc') (k := nI q) hn b3 b4 (by rw [o1 4 (by omega) (by decide), c5, a6]) (fun j hj => by rw [o1 _ (by omega) (by omega)]; exact (f j hj).2.2.2.1) (fun j hj hj1 => by rw [o1 _ (by omega) (by omega)]; exact (f j hj).2.2.2.2 hj1) k1
  have o2 : ∀ j, j < 47 → ¬ j = 3 → jrow t1 nc' (vd z r (fms n z (nI q))) j = t j := fun j j1 j2 => by rw [jrow_o (by omega), o1 j (by omega) j2]
  have o3 : ∀ j, 247 ≤ j → jrow t1 nc' (vd z r (fms n z (nI q))) j = t j := fun j j1 => by rw [jrow_o (by omega), o1 j (by omega) (by omega)]
  have e3 : jrow t1 nc' (vd z r (fms n z (nI q))) 3 = nI (nc' + 1) := by rw [jrow_o (by omega)]; exact upd_s
  refine ⟨jrow t1 nc' (vd z r (fms n z (nI q))), _, _, _, _, ?_, ej, e3, ns, nc' + 1, n, R, z, r, ⟨a1, a2, a3, a4, rfl, a6⟩, ⟨b1, by omega, b3, b4, b5⟩, ⟨by rw [o2 0 (by decide) (by decide), c1]; rfl, by rw [o2 1 (by decide) (by decide), c2]; rfl, by rw [o2 2 (by decide) (by decide), c3]; rfl, e3, by rw [o2 4 (by decide) (by decide), c5]; rfl, by rw [o2 5 (by decide) (by decide), c6]; rfl, by rw [o2 6 (by decide) (by decide), c7]; rfl⟩, fun s hs => ?_, fun c hc => ?_, fun j hj => ?_, i, hm⟩
  · unfold fX11_comes
    rw [gg3, gd_tr, gd_tr, gd_tr, gd_tr, ii3, c4, show (47 : Int32) = nI 47 from rfl, e5, gm rfl (by omega), ixn (by omega)]
    rw [show upd t (47 + 5 * nc') (nI q) 3 = nI nc' by rw [upd_o (by omega), c4], nI1]
    show bd (fX11_weighs t1 (t1 3 - 1)) _ = _
    rw [show t1 3 = nI (nc' + 1) from upd_s, nI_p, ew, bd_some]
  · obtain ⟨⟨q0, q1, q2, q3, q4⟩, q5, q6⟩ := d s hs
    refine ⟨⟨?_, ?_, ?_, ?_, ?_⟩, q5, q6⟩
    · rw [o2 _ (by omega) (by omega)]; exact q0
    · rw [o2 _ (by omega) (by omega)]; exact q1
    · rw [o2 _ (by omega) (by omega)]; exact q2
    · rw [o2 _ (by omega) (by omega)]; exact q3
    · rw [o2 _ (by omega) (by omega)]; exact q4
  · by_cases hcn : c = nc'
    · subst hcn
      refine ⟨?_, q, hq, upd_s⟩
      exact crel_s (c_c := upd cc c (nI q)) (by rw [k1, upd_s])
    · obtain ⟨⟨q0, q1, q2, q3, q4⟩, v, hv, ev⟩ := e c (by omega)
      refine ⟨?_, v, hv, by show upd cc nc' _ c = _; rw [upd_o hcn]; exact ev⟩
      refine crel_o (c_c := upd cc nc' (nI q)) hcn ⟨?_, ?_, ?_, ?_, ?_⟩
      · rw [o1 _ (by omega) (by omega), upd_o hcn, q0]
      · rw [o1 _ (by omega) (by omega), q1]
      · rw [o1 _ (by omega) (by omega), q2]
      · rw [o1 _ (by omega) (by omega), q3]
      · rw [o1 _ (by omega) (by omega), q4]
  · obtain ⟨q0, q1, q2, q3, q4⟩ := f j hj
    refine ⟨q0, q1, q2, ?_, fun hj1 => ?_⟩
    · rw [o3 _ (by omega)]; exact q3
    · rw [o3 _ (by omega)]; exact q4 hj1
/-- a candidate, in both machines, the record aside -/
theorem cand_both {B : Nat} {t : Nat → Int32} {a w ru ro sn cn en : Int32} {g hh x y k cc cf cs cm cr eo : Nat → Int32} {we : Nat → Int64} (hB : B < 4000000) (h : RM B t (snap a w ru ro sn g hh x y k cn cc cf cs cm cr en eo we)) (p0 : Int32) :
    (∃ ans : Int32, ans < 0 ∧ fX3_addCandidate a cn cc cf cs cm cr en eo p0 = some (ans, cn, cc, cf, cs, cm, cr) ∧ ∀ was sv qt, fX11_candidate t was sv qt p0 = some (ans, sv, t, was)) ∨
    (∃ ans cn' cc' f s m r t', 0 ≤ ans ∧ fX3_addCandidate a cn cc cf cs cm cr en eo p0 = some (ans, cn', cc', f, s, m, r) ∧ RM B t' (snap a w ru ro sn g hh x y k cn' cc' f s m r en eo we) ∧ ∀ was sv qt, fX11_candidate t was sv qt p0 = bd (fX11_records t was sv qt) fun y => some (ans, y.1, t', y.2)) := by
  obtain ⟨ns, nc, rfl, rfl, S, C⟩ := RMok h
  unfold fX3_addCandidate fX11_candidate
  rw [isCode_eq, isCode_01, bd_some]
  simp only [bd_some]
  cases hv : vc p0 with
  | false => left; exact ⟨-2, by decide, by rw [if_pos (by decide)], fun was sv qt => by rw [if_pos (by decide)]⟩
  | true =>
    obtain ⟨q, hq, rfl⟩ := vc_lt hv
    rw [if_neg (by decide)]
    simp only [b2i_t, i10, gg3, gd_tr, ii3, C.2.1]
    have h40 := C.1
    by_cases hn : nc < 40
    · rw [if_pos (show nI nc < (40 : Int32) from nI_lt (b := 40) hn (by decide)), hasCode_eq h40, bd_some]
      simp only [if_neg (show ¬ nI nc = (40 : Int32) from fun e => by have := nI_inj (b := 40) (by omega) (by decide) e; omega), isThere_eq h40 C.2.1 (fun c hc => (C.2.2 c hc).1.1), bd_some]
      cases ht : thr nc cc (nI q) with
      | true => left; exact ⟨-5, by decide, by rw [if_neg (by decide)], fun was sv qt => by rw [if_neg (by decide)]⟩
      | false =>
        right
        obtain ⟨t', f, s, m, r, e1, e2, e3, e4⟩ := comes_eq hB h hn hq
        rw [if_pos (by decide), gd_nI hn (by decide), ixn (by omega), e2, bd_some]
        refine ⟨_, _, _, _, _, _, _, t', ?_, rfl, ?_, fun was sv qt => ?_⟩
        · rw [le_toInt, tI0, nI_toInt (by omega)]; omega
        · rw [nI1]; exact e4
        · rw [if_pos (by decide)]
          simp only [e1, bd_some, e3, nI_p]
    · have : nc = 40 := by omega
      subst this
      left
      exact ⟨-4, by decide, by rw [if_neg (by decide)], fun was sv qt => by rw [if_pos (show nI 40 = (40 : Int32) from rfl)]⟩
theorem op_candidate {B : Nat} {t was : Nat → Int32} {sv h_n : Int32} {K : Nat → MS} {M : MS} (hB : B < 4000000) (hM : RM B t M) (hH : RH B was sv h_n K) (p0 : Int32) :
    ∃ ans hn' cn cc f s m r K' t' was' sv', fX10_candidate h_n (M.1 0) (M.1 1) (M.1 2) (M.1 3) (M.1 4) (M.2.1 0) (M.2.1 1) (M.2.1 2) (M.2.1 3) (M.2.1 4) (M.1 5) (M.2.1 5) (M.2.1 6) (M.2.1 7) (M.2.1 8) (M.2.1 9) (M.1 6) (M.2.1 10) M.2.2 K p0 = some (ans, hn', cn, cc, f, s, m, r, K') ∧ fX11_candidate t was sv 0 p0 = some (ans, sv', t', was') ∧
    RM B t' (snap (M.1 0) (M.1 1) (M.1 2) (M.1 3) (M.1 4) (M.2.1 0) (M.2.1 1) (M.2.1 2) (M.2.1 3) (M.2.1 4) cn cc f s m r (M.1 6) (M.2.1 10) M.2.2) ∧ RH B was' sv' hn' K' := by
  obtain ⟨K1, k1, k2, was1, sv1, k3, k4⟩ := prep_eq hH hM.sn
  unfold fX10_candidate
  rw [k1, bd_some]
  rcases cand_both hB hM.sn p0 with ⟨ans, hneg, e1, e2⟩ | ⟨ans, cn', cc', f, s, m, r, t', hpos, e1, e2, e3⟩
  · rw [e1, bd_some, confirm_neg hneg, bd_some]
    exact ⟨_, _, _, _, _, _, _, _, _, t, was, sv, rfl, e2 was sv 0, hM.sn, k2⟩
  · obtain ⟨h', K2, k5, k6⟩ := k4 ans hpos
    rw [e1, bd_some, k5, bd_some, e3, k3, bd_some]
    exact ⟨_, _, _, _, _, _, _, _, _, _, _, _, rfl, rfl, e2, k6⟩
