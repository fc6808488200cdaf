/-! ===== questions ===== -/
theorem RM.ok {B : Nat} {t : Nat → Int32} {M : MS} (h : RM B t M) : ∃ ns nc : Nat, M.1 4 = nI ns ∧ M.1 5 = nI nc ∧ SOK t (M.1 1) (M.2.1 0) (M.2.1 1) (M.2.1 2) (M.2.1 3) (M.2.1 4) ns ∧ COK t (M.2.1 5) (M.2.1 6) (M.2.1 7) (M.2.1 8) (M.2.1 9) nc := by
  obtain ⟨ns, nc, n, R, z, r, ⟨a1, a2, a3, a4, a5, a6⟩, ⟨b1, b2, b3, b4, b5⟩, ⟨c1, c2, c3, c4, c5, c6, c7⟩, d, e, -⟩ := h
  exact ⟨ns, nc, a4, a5, ⟨b1, a2, c2, by rw [c3, a4], d⟩, ⟨b2, by rw [c4, a5], e⟩⟩
theorem RM.st {B : Nat} {t : Nat → Int32} {M : MS} (h : RM B t M) : ∃ s0 : Nat, s0 < 512 ∧ M.1 0 = nI s0 ∧ t 0 = nI s0 := by
  obtain ⟨ns, nc, n, R, z, r, ⟨a1, a2, a3, a4, a5, a6⟩, ⟨b1, b2, b3, b4, b5⟩, ⟨c1, c2, c3, c4, c5, c6, c7⟩, d, e, f, -⟩ := h
  exact ⟨z 0, (f 0 (by omega)).2.1, a1, by rw [c1, a1]⟩
theorem in_511 (p : Int32) : (fX11_in p 0 511 = some 0 ∧ fX10_isState p = some 0) ∨ (fX11_in p 0 511 = some 1 ∧ fX10_isState p = some 1 ∧ ∃ s : Nat, s < 512 ∧ p = nI s) := by
  rw [isState_in]
  rcases in_01 p 0 511 with ⟨e, -⟩ | ⟨e, h1, h2⟩
  · exact Or.inl ⟨e, e⟩
  · rw [tI0] at h1
    rw [show (511 : Int32).toInt = 511 by decide] at h2
    obtain ⟨d, hd, rfl⟩ : ∃ d : Nat, d < 2 ^ 31 ∧ p = nI d := nI_of (by rw [lt_toInt, tI0]; omega)
    rw [nI_toInt hd] at h2
    exact Or.inr ⟨e, e, d, by omega, rfl⟩
theorem toInt_p {n : Nat} (hn : n < 2 ^ 31) : (nI n - 1 : Int32).toInt = (n : Int) - 1 := by
  cases n with
  | zero => decide
  | succ m => rw [nI_p, nI_toInt (by omega)]; omega
theorem hasN {n : Nat} (hn : n < 2 ^ 31) (p : Int32) : ((if p < 0 then some (0 : Int32) else if nI n ≤ p then some (0 : Int32) else some (1 : Int32)) = some 0 ∧ fX11_in p 0 (nI n - 1) = some 0) ∨ ((if p < 0 then some (0 : Int32) else if nI n ≤ p then some (0 : Int32) else some (1 : Int32)) = some 1 ∧ fX11_in p 0 (nI n - 1) = some 1 ∧ ∃ q : Nat, q < n ∧ p = nI q) := by
  have e2 : (nI n).toInt = (n : Int) := nI_toInt hn
  rcases in_01 p 0 (nI n - 1) with ⟨e, q⟩ | ⟨e, q1, q2⟩
  · left
    rw [tI0, toInt_p hn] at q
    refine ⟨?_, e⟩
    by_cases c : p < 0
    · rw [if_pos c]
    · rw [if_neg c, if_pos (by rw [le_toInt, e2]; rw [lt_toInt, tI0] at c; omega)]
  · right
    rw [tI0] at q1; rw [toInt_p hn] at q2
    refine ⟨?_, e, ?_⟩
    · rw [if_neg (by rw [lt_toInt, tI0]; omega), if_neg (by rw [le_toInt, e2]; omega)]
    · obtain ⟨q, hq, rfl⟩ : ∃ d : Nat, d < 2 ^ 31 ∧ p = nI d := nI_of (by rw [lt_toInt, tI0]; omega)
      rw [nI_toInt hq] at q2
      exact ⟨q, by omega, rfl⟩
theorem i00 {α : Type} (a b : α) : (if (0 : Int32) = 0 then a else b) = a := if_pos rfl
theorem i10 {α : Type} (a b : α) : (if (1 : Int32) = 0 then a else b) = b := if_neg i0ne1
theorem asN (v : Bool) : fX10_asNumber (b2i v) = some (b2i v) := by cases v <;> rfl
theorem q_claim (p0 p1 p2 p3 : Int32) : ∃ ans, fX10_claim p0 p1 p2 p3 = some ans ∧ fX11_claim p0 p1 p2 p3 = some ans := by
  unfold fX10_claim fX1_encode fX11_claim fX11_codeOf
  rw [isClaim_eq]
  obtain ⟨v, e⟩ := isClaim_01 p0 p1 p2 p3
  rw [e, bd_some, bd_some]
  cases v with
  | true => rw [if_neg (by decide), if_neg (by decide)]; exact ⟨_, rfl, rfl⟩
  | false => rw [if_pos (by decide), if_pos (by decide)]; exact ⟨_, rfl, rfl⟩
theorem q_holds (p0 p1 : Int32) : ∃ ans, fX10_holds p0 p1 = some ans ∧ fX11_holds p0 p1 = some ans := by
  unfold fX10_holds fX11_holds
  rw [isCode_eq, isCode_01, bd_some, bd_some]
  cases hv : vc p0 with
  | false => rw [if_pos (by decide), if_pos (by decide)]; exact ⟨_, rfl, rfl⟩
  | true =>
    obtain ⟨k, hk, rfl⟩ := vc_lt hv
    rw [if_neg (by decide), if_neg (by decide), isMet_sat hk, isSo_sat]
    rcases in_511 p1 with ⟨e1, e2⟩ | ⟨e1, e2, s, hs, rfl⟩
    · simp only [e1, e2, bd_some, i00]; exact ⟨_, rfl, rfl⟩
    · simp only [e1, e2, bd_some, i10, asN]
      refine ⟨_, rfl, ?_⟩
      cases sat (nI k) (nI s) <;> rfl
theorem q_leads {B : Nat} {t : Nat → Int32} {M : MS} (hM : RM B t M) (p0 p1 : Int32) : ∃ ans, fX10_leads (M.1 1) (M.1 4) (M.2.1 0) (M.2.1 1) (M.2.1 2) (M.2.1 3) (M.2.1 4) p0 p1 = some ans ∧ fX11_leads t p0 p1 = some ans := by
  obtain ⟨ns, nc, e4, e5, S, C⟩ := hM.ok
  unfold fX10_leads fX11_leads fX11_isStep fX8_has
  rw [gg2, gd_tr, ii2, S.2.2.2.1, e4]
  have h8 := S.1
  rcases hasN (n := ns) (by omega) p0 with ⟨q1, q2⟩ | ⟨q1, q2, q, hq, rfl⟩
  · rw [q1, q2, bd_some, bd_some, if_pos rfl, show isB 0 = true by decide, gd_tr, bd_some, if_pos rfl]; exact ⟨_, rfl, rfl⟩
  · rw [q1, q2, bd_some, bd_some, if_neg i0ne1, show isB 1 = true by decide, gd_tr, bd_some, if_neg i0ne1]
    rcases in_511 p1 with ⟨e1, e2⟩ | ⟨e1, e2, s, hs, rfl⟩
    · rw [e1, e2, bd_some, bd_some, if_pos rfl, if_pos rfl]; exact ⟨_, rfl, rfl⟩
    · rw [e1, e2, bd_some, bd_some, if_neg i0ne1, if_neg i0ne1, tgt_eq S hq hs, nex_eq S hq hs]; simp only [bd_some]; exact ⟨_, rfl, rfl⟩
theorem q_ofCandidate {B : Nat} {t : Nat → Int32} {M : MS} (hM : RM B t M) (p0 p1 : Int32) : ∃ ans, fX10_ofCandidate (M.1 5) (M.2.1 5) (M.2.1 6) (M.2.1 7) (M.2.1 8) (M.2.1 9) p0 p1 = some ans ∧ fX11_ofCandidate t p0 p1 = some ans := by
  obtain ⟨ns, nc, e4, e5, S, C⟩ := hM.ok
  have h40 := C.1
  unfold fX10_ofCandidate fX11_ofCandidate fX0_has
  rw [gg3, gd_tr, ii3, C.2.1, e5]
  rcases hasN (n := nc) (by omega) p0 with ⟨q1, q2⟩ | ⟨q1, q2, q, hq, rfl⟩
  · rw [q1, q2, bd_some, bd_some, if_pos rfl, if_pos rfl]; exact ⟨_, rfl, rfl⟩
  · rw [q1, q2, bd_some, bd_some, if_neg i0ne1, if_neg i0ne1]
    obtain ⟨⟨r0, r1, r2, r3, r4⟩, -⟩ := C.2.2 q hq
    simp only [gd_nI (show q < 40 by omega) (show 40 < 2 ^ 31 by decide), ixn (show q < 2 ^ 31 by omega)]
    by_cases c0 : p1 = 0
    · subst c0
      rw [if_pos rfl, show fX11_in 0 0 4 = some 1 by decide, bd_some, if_neg i0ne1, of_eq (j := 0) (J := 0) rfl (by omega) (by decide), bd_some, Nat.add_zero, r0]; exact ⟨_, rfl, rfl⟩
    by_cases c1 : p1 = 1
    · subst c1
      rw [if_neg c0, if_pos rfl, show fX11_in 1 0 4 = some 1 by decide, bd_some, if_neg i0ne1, of_eq (j := 1) (J := 1) rfl (by omega) (by decide), bd_some, r1]; exact ⟨_, rfl, rfl⟩
    by_cases c2 : p1 = 2
    · subst c2
      rw [if_neg c0, if_neg c1, if_pos rfl, show fX11_in 2 0 4 = some 1 by decide, bd_some, if_neg i0ne1, of_eq (j := 2) (J := 2) rfl (by omega) (by decide), bd_some, r2]; exact ⟨_, rfl, rfl⟩
    by_cases c3 : p1 = 3
    · subst c3
      rw [if_neg c0, if_neg c1, if_neg c2, if_pos rfl, show fX11_in 3 0 4 = some 1 by decide, bd_some, if_neg i0ne1, of_eq (j := 3) (J := 3) rfl (by omega) (by decide), bd_some, r3]; exact ⟨_, rfl, rfl⟩
    by_cases c4 : p1 = 4
    · subst c4
      rw [if_neg c0, if_neg c1, if_neg c2, if_neg c3, if_pos rfl, show fX11_in 4 0 4 = some 1 by decide, bd_some, if_neg i0ne1, of_eq (j := 4) (J := 4) rfl (by omega) (by decide), bd_some, r4]; exact ⟨_, rfl, rfl⟩
    rw [if_neg c0, if_neg c1, if_neg c2, if_neg c3, if_neg c4]
    rw [eq_toInt, tI0] at c0; rw [eq_toInt, tI1] at c1; rw [eq_toInt, tI2] at c2; rw [eq_toInt, tI3] at c3; rw [eq_toInt, tI4] at c4
    rw [in_n (p := p1) (a := 0) (b := 4) (by rw [tI0, tI4]; omega), bd_some, if_pos rfl]
    exact ⟨_, rfl, rfl⟩
theorem countAble_eq {t : Nat → Int32} {w : Int32} {g h x y k : Nat → Int32} {ns q : Nat} (S : SOK t w g h x y k ns) (hq : q < ns) (ow : Nat → Int64) : fX3_countAble w (nI ns) g h x y k (nI q) ow = some (nI (fb_ct (fun s => mem ow s && (TG w g h x y k q s).isSome) 512)) := by
  have key : iter (gX3_countAble_5 w (nI ns) g h x y k (nI q) ow) FU ((0 : Int32), (0 : Int32)) = some (nI (fb_ct (fun s => mem ow s && (TG w g h x y k q s).isSome) 512), nI 512) := by
    refine iter_seq (fun i => (nI (fb_ct (fun s => mem ow s && (TG w g h x y k q s).isSome) i), nI i)) 512 _ (by decide) (fun i hi => ?_) ?_
    · unfold gX3_countAble_5
      dsimp only
      rw [if_neg (c_ge (N := 512) (n := 512) rfl hi (by decide)), has_eq ow hi, bd_some, fb_ct_succ, nI1, nI1]
      cases hm : mem ow i with
      | false => rw [if_pos (by decide)]; rfl
      | true =>
        rw [if_neg (by decide), tgt_eq S hq hi, bd_some]
        cases e : TG w g h x y k q i with
        | none => rw [oN_none, if_pos rfl]; rfl
        | some u => rw [oN_some, if_neg (ne6 (by have := TG_lt S hq hi e; omega))]; rfl
    · unfold gX3_countAble_5
      dsimp only
      rw [if_pos (c_le (N := 512) (n := 512) rfl (Nat.le_refl _) (by decide))]
  unfold fX3_countAble
  rw [key, bd_some]
theorem ofStep60_eq {t : Nat → Int32} {w : Int32} {g h x y k : Nat → Int32} {ns q : Nat} {A : Nat → Bool} {al : Nat → Int32} (S : SOK t w g h x y k ns) (hq : q < ns) (ha : ∀ u, u < 512 → al u = b2i (A u)) (p1 : Int32) : ∃ e, iter (gX11_ofStep_60 t (nI q) p1 al) FU ((0 : Int32), (0 : Int32)) = some (nI (fb_ct (fun s => (decide (p1 = 5) || A s) && (TG w g h x y k q s).isSome) 512), e) := by
  refine ⟨nI 512, iter_seq (fun i => (nI (fb_ct (fun s => (decide (p1 = 5) || A s) && (TG w g h x y k q s).isSome) i), nI i)) 512 _ (by decide) (fun i hi => ?_) ?_⟩
  · unfold gX11_ofStep_60
    dsimp only
    rw [if_neg (c_ge (N := 512) (n := 512) rfl hi (by decide)), nex_eq S hq hi, bd_some, fb_ct_succ, nI1, nI1, Int32.add_zero]
    cases e : TG w g h x y k q i with
    | none => rw [oN_none, if_pos rfl, Option.isSome_none, Bool.and_false]; rfl
    | some u =>
      rw [oN_some, if_neg (ne6 (by have := TG_lt S hq hi e; omega)), gd_nI hi (by decide), ixn (by omega), ha i hi]
      by_cases h5 : p1 = 5
      · rw [if_pos h5]; simp [h5]
      · rw [if_neg h5]
        cases hA : A i with
        | true => rw [if_neg (by decide)]; simp
        | false => rw [if_pos (by decide)]; simp [h5]
  · unfold gX11_ofStep_60
    dsimp only
    rw [if_pos (c_le (N := 512) (n := 512) rfl (Nat.le_refl _) (by decide))]
theorem mrow {t : Nat → Int32} {q j : Nat} (hq : q < 8) (hj : j < 5) {J : Int32} (hJ : J = nI j) : fX11_ofRow t (nI q) J = some (t (7 + 5 * q + j)) := ofRow_eq hJ hq hj
theorem q_ofStep {B : Nat} {t : Nat → Int32} {M : MS} (hM : RM B t M) (wa wl : Nat → Int64) (al : Nat → Int32) (p0 p1 : Int32) : ∃ ans wa' wl' al', fX10_ofStep (M.1 1) (M.1 4) (M.2.1 0) (M.2.1 1) (M.2.1 2) (M.2.1 3) (M.2.1 4) (M.1 5) (M.2.1 5) (M.2.1 6) wa wl p0 p1 = some (ans, wa', wl') ∧ fX11_ofStep t al p0 p1 = some (ans, al') := by
  obtain ⟨ns, nc, e4, e5, S, C⟩ := hM.ok
  have h8 := S.1
  unfold fX10_ofStep fX11_ofStep fX11_isStep fX8_has
  rw [gg2, gd_tr, ii2, S.2.2.2.1, e4, e5]
  rcases hasN (n := ns) (by omega) p0 with ⟨q1, q2⟩ | ⟨q1, q2, q, hq, rfl⟩
  · rw [q1, q2, bd_some, bd_some, if_pos rfl, show isB 0 = true by decide, gd_tr, bd_some, if_pos rfl]; exact ⟨_, _, _, _, rfl, rfl⟩
  rw [q1, q2, bd_some, bd_some, if_neg i0ne1, show isB 1 = true by decide, gd_tr, bd_some, if_neg i0ne1]
  obtain ⟨⟨r0, r1, r2, r3, r4⟩, -⟩ := S.2.2.2.2 q hq
  simp only [gd_nI (show q < 8 by omega) (show 8 < 2 ^ 31 by decide), ixn (show q < 2 ^ 31 by omega)]
  by_cases c0 : p1 = 0
  · subst c0
    rw [if_pos rfl, show fX11_in 0 0 6 = some 1 by decide, bd_some, if_neg i0ne1, if_neg (by decide), mrow (j := 0) (by omega) (by decide) (J := 0) rfl, bd_some, if_neg (by decide), Nat.add_zero, r0, Int32.add_zero]; exact ⟨_, _, _, _, rfl, rfl⟩
  by_cases c1 : p1 = 1
  · subst c1
    rw [if_neg c0, if_pos rfl, show fX11_in 1 0 6 = some 1 by decide, bd_some, if_neg i0ne1, if_neg (by decide), mrow (j := 1) (by omega) (by decide) (J := 1) rfl, bd_some, if_neg (by decide), r1, Int32.add_zero]; exact ⟨_, _, _, _, rfl, rfl⟩
  by_cases c2 : p1 = 2
  · subst c2
    rw [if_neg c0, if_neg c1, if_pos rfl, show fX11_in 2 0 6 = some 1 by decide, bd_some, if_neg i0ne1, if_neg (by decide), mrow (j := 2) (by omega) (by decide) (J := 2) rfl, bd_some, if_neg (by decide), r2, Int32.add_zero]; exact ⟨_, _, _, _, rfl, rfl⟩
  by_cases c3 : p1 = 3
  · subst c3
    rw [if_neg c0, if_neg c1, if_neg c2, if_pos rfl, show fX11_in 3 0 6 = some 1 by decide, bd_some, if_neg i0ne1, if_neg (by decide), mrow (j := 3) (by omega) (by decide) (J := 3) rfl, bd_some, if_neg (by decide), r3, Int32.add_zero]; exact ⟨_, _, _, _, rfl, rfl⟩
  by_cases c4 : p1 = 4
  · subst c4
    rw [if_neg c0, if_neg c1, if_neg c2, if_neg c3, if_pos rfl, show fX11_in 4 0 6 = some 1 by decide, bd_some, if_neg i0ne1, if_neg (by decide), mrow (j := 4) (by omega) (by decide) (J := 4) rfl, bd_some, if_pos rfl, r4]; exact ⟨_, _, _, _, rfl, rfl⟩
  obtain ⟨W, eW, hW⟩ := mstand_eq C
  obtain ⟨a, ea, ha⟩ := C.lays W al
  by_cases c5 : p1 = 5
  · subst c5
    obtain ⟨w1, f1, m1⟩ := fill_eq wa
    obtain ⟨e, q60⟩ := ofStep60_eq S hq ha 5
    rw [if_neg c0, if_neg c1, if_neg c2, if_neg c3, if_neg c4, if_pos rfl, f1, bd_some, countAble_eq S hq, bd_some, show fX11_in 5 0 6 = some 1 by decide, bd_some, if_neg i0ne1, if_pos (by decide), eW, bd_some, ea, bd_some, q60, bd_some]
    refine ⟨_, _, _, a, rfl, ?_⟩
    rw [fb_ct_cong (p := fun s => mem w1 s && _) (fun s hs => by
      show (mem w1 s && (TG (M.1 1) (M.2.1 0) (M.2.1 1) (M.2.1 2) (M.2.1 3) (M.2.1 4) q s).isSome) = ((decide ((5 : Int32) = 5) || alS nc (M.2.1 5) (lb W) s) && (TG (M.1 1) (M.2.1 0) (M.2.1 1) (M.2.1 2) (M.2.1 3) (M.2.1 4) q s).isSome)
      rw [m1 s hs]; rfl)]
  by_cases c6 : p1 = 6
  · subst c6
    obtain ⟨w1, f1, m1⟩ := findAllowed_eq (cf := M.2.1 6) C.1 C.ks wl
    obtain ⟨e, q60⟩ := ofStep60_eq S hq ha 6
    rw [if_neg c0, if_neg c1, if_neg c2, if_neg c3, if_neg c4, if_neg c5, if_pos rfl, f1, bd_some, countAble_eq S hq, bd_some, show fX11_in 6 0 6 = some 1 by decide, bd_some, if_neg i0ne1, if_pos (by decide), eW, bd_some, ea, bd_some, q60, bd_some]
    refine ⟨_, _, _, a, rfl, ?_⟩
    rw [fb_ct_cong (p := fun s => mem w1 s && _) (fun s hs => by
      show (mem w1 s && (TG (M.1 1) (M.2.1 0) (M.2.1 1) (M.2.1 2) (M.2.1 3) (M.2.1 4) q s).isSome) = ((decide ((6 : Int32) = 5) || alS nc (M.2.1 5) (lb W) s) && (TG (M.1 1) (M.2.1 0) (M.2.1 1) (M.2.1 2) (M.2.1 3) (M.2.1 4) q s).isSome)
      rw [m1 s hs, alS_congr (S := lb W) (S' := stn (M.2.1 6)) (fun c hc => SB_lb hW C.1 hc)]; rfl)]
  rw [if_neg c0, if_neg c1, if_neg c2, if_neg c3, if_neg c4, if_neg c5, if_neg c6]
  rw [eq_toInt, tI0] at c0; rw [eq_toInt, tI1] at c1; rw [eq_toInt, tI2] at c2; rw [eq_toInt, tI3] at c3; rw [eq_toInt, tI4] at c4; rw [eq_toInt, tI5] at c5; rw [eq_toInt, tI6] at c6
  rw [in_n (p := p1) (a := 0) (b := 6) (by rw [tI0, tI6]; omega), bd_some, if_pos rfl]
  exact ⟨_, _, _, _, rfl, rfl⟩
theorem fm_eq {w : Nat → Int64} {A : Nat → Bool} {k : Int32} (h : ∀ u, u < 512 → mem w u = A u) : fm w k = ffind 512 (fun s => A s && !sat k (nI s)) := by
  unfold fm
  exact ffind_congr (fun u hu => by rw [h u hu])
theorem q_witness {B : Nat} {t : Nat → Int32} {M : MS} (hM : RM B t M) (wl : Nat → Int64) (p0 : Int32) : ∃ ans wl', fX10_witness (M.1 5) (M.2.1 5) (M.2.1 6) wl p0 = some (ans, wl') ∧ fX11_witness t p0 = some ans := by
  obtain ⟨ns, nc, e4, e5, S, C⟩ := hM.ok
  unfold fX10_witness fX11_witness
  rw [isCode_eq, isCode_01, bd_some, bd_some, e5]
  cases hv : vc p0 with
  | false => rw [if_pos (by decide), if_pos (by decide)]; exact ⟨_, _, rfl, rfl⟩
  | true =>
    obtain ⟨k, hk, rfl⟩ := vc_lt hv
    obtain ⟨W, eW, hW⟩ := mstand_eq C
    obtain ⟨w1, f1, m1⟩ := findAllowed_eq (cf := M.2.1 6) C.1 C.ks wl
    rw [if_neg (by decide), if_neg (by decide), f1, bd_some, setMiss_eq w1 hk, bd_some, eW, bd_some, C.ag, bd_some]
    refine ⟨_, _, rfl, ?_⟩
    rw [fm_eq (A := alS nc (M.2.1 5) (lb W)) (fun u hu => by rw [m1 u hu, alS_congr (S := lb W) (S' := stn (M.2.1 6)) (fun c hc => SB_lb hW C.1 hc)])]
theorem oN_6 {o : Option Nat} (h : ∀ s, o = some s → s < 2 ^ 31) : oN o = (-6 : Int32) ↔ o = none := by
  cases o with
  | none => exact ⟨fun _ => rfl, fun _ => rfl⟩
  | some s => exact ⟨fun q => absurd q (ne6 (h s rfl)), fun q => by cases q⟩
theorem ff512 {P : Nat → Bool} : ∀ s, ffind 512 P = some s → s < 2 ^ 31 := fun s h => by have := (ffind_spec h).1; omega
theorem q_proves {B : Nat} {t : Nat → Int32} {M : MS} (hM : RM B t M) (wl : Nat → Int64) (al : Nat → Int32) (p0 : Int32) : ∃ ans wl' al', fX10_proves (M.1 1) (M.1 4) (M.2.1 0) (M.2.1 1) (M.2.1 2) (M.2.1 3) (M.2.1 4) (M.1 5) (M.2.1 5) (M.2.1 6) wl p0 = some (ans, wl') ∧ fX11_proves t al p0 = some (ans, al') := by
  obtain ⟨ns, nc, e4, e5, S, C⟩ := hM.ok
  unfold fX10_proves fX11_proves
  rw [isCode_eq, isCode_01, bd_some, bd_some, e4, e5]
  cases hv : vc p0 with
  | false => rw [if_pos (by decide), if_pos (by decide)]; exact ⟨_, _, _, rfl, rfl⟩
  | true =>
    obtain ⟨k, hk, rfl⟩ := vc_lt hv
    obtain ⟨W, eW, hW⟩ := mstand_eq C
    obtain ⟨v, ev, mv⟩ := ckern_eq S C wl
    obtain ⟨a, ea, ma⟩ := kern_eq S C al W
    have hA : ∀ u, u < 512 → alS nc (M.2.1 5) (stn (M.2.1 6)) u = alS nc (M.2.1 5) (lb W) u := fun u hu => (alS_congr (fun c hc => SB_lb hW C.1 hc)).symm
    rw [if_neg (by decide), if_neg (by decide), ev, bd_some, eW, bd_some, ea, bd_some, bd_some, kp_congr S.cl hA]
    dsimp only
    cases hk2 : kp ns (TG (M.1 1) (M.2.1 0) (M.2.1 1) (M.2.1 2) (M.2.1 3) (M.2.1 4)) (alS nc (M.2.1 5) (lb W)) with
    | false => rw [if_pos (by decide), if_pos (by decide)]; exact ⟨_, _, _, rfl, rfl⟩
    | true =>
      rw [if_neg (by decide), if_neg (by decide), setMiss_eq v hk, bd_some, C.ag, bd_some, fm_eq (A := alS nc (M.2.1 5) (lb W)) (fun u hu => by rw [mv u hu, hA u hu])]
      unfold jX10_proves_48
      by_cases hn : oN (ffind 512 (fun s => alS nc (M.2.1 5) (lb W) s && !sat (nI k) (nI s))) = -6
      · rw [if_pos hn, if_pos hn, show (1 : Int32) = b2i true from rfl, asN, bd_some]; exact ⟨_, _, _, rfl, rfl⟩
      · rw [if_neg hn, if_neg hn, show (0 : Int32) = b2i false from rfl, asN, bd_some]; exact ⟨_, _, _, rfl, rfl⟩
theorem q_isTrue {B : Nat} {t : Nat → Int32} {M : MS} (hM : RM B t M) (wr : Nat → Int64) (v_q rch que : Nat → Int32) (p0 : Int32) : ∃ ans wr' v' r' q', fX10_isTrue (M.1 0) (M.1 1) (M.1 4) (M.2.1 0) (M.2.1 1) (M.2.1 2) (M.2.1 3) (M.2.1 4) wr v_q p0 = some (ans, wr', v') ∧ fX11_isTrue t rch que p0 = some (ans, r', q') := by
  obtain ⟨ns, nc, e4, e5, S, C⟩ := hM.ok
  obtain ⟨s0, hs0, e0, h0⟩ := hM.st
  unfold fX10_isTrue fX11_isTrue
  rw [isCode_eq, isCode_01, bd_some, bd_some, e4, e0]
  cases hv : vc p0 with
  | false => rw [if_pos (by decide), if_pos (by decide)]; exact ⟨_, _, _, _, _, rfl, rfl⟩
  | true =>
    obtain ⟨k, hk, rfl⟩ := vc_lt hv
    obtain ⟨W, Q, R, Q', f1, f2, f3, f4⟩ := reach_eq S h0 hs0 wr v_q rch que
    have hle := fb_ct_le (mem W) 512
    rw [if_neg (by decide), if_neg (by decide), f1, bd_some, f2, bd_some, setMiss_eq W hk, bd_some]
    dsimp only
    rw [if_neg (show ¬ nI (fb_ct (mem W) 512) ≤ 0 from c_ge (n := fb_ct (mem W) 512) (i := 0) rfl (by omega) (by omega))]
    unfold jX11_isTrue_22
    have key := iter_flag (g := gX11_isTrue_25 (nI k) (nI (fb_ct (mem W) 512), R, Q')) 1 0 (fun s => mem W s && !sat (nI k) (nI s)) 512 (by decide) (fun i hi hp => ?_) (fun i hi hp => ?_) (fun i hi => ?_) ?_
    · obtain ⟨e, key⟩ := key
      rw [key, bd_some, fl_10]
      unfold jX11_isTrue_65 jX10_isTrue_42 fm
      dsimp only
      cases hf : ffind 512 (fun s => mem W s && !sat (nI k) (nI s)) with
      | none => rw [oN_none, if_pos rfl, show (1 : Int32) = b2i true from rfl, asN, bd_some]; exact ⟨_, _, _, _, _, rfl, rfl⟩
      | some s => rw [oN_some, if_neg (ne6 (ff512 s hf)), show (0 : Int32) = b2i false from rfl, asN, bd_some]; exact ⟨_, _, _, _, _, rfl, rfl⟩
    · unfold gX11_isTrue_25
      dsimp only at hp ⊢
      rw [if_neg (c_ge (N := 512) (n := 512) rfl hi (by decide)), if_neg i0ne1, gd_nI hi (by decide), ixn (by omega), nI1]
      cases hm : mem W i with
      | false => rw [if_pos (show R i = 0 by rw [f3 i hi, hm]; rfl)]
      | true =>
        have : sat (nI k) (nI i) = true := by simpa [hm] using hp
        rw [if_neg (show ¬ R i = 0 by rw [f3 i hi, hm]; decide), isSo_sat, bd_some, this, if_neg (by decide)]
    · unfold gX11_isTrue_25
      dsimp only at hp ⊢
      have hm : mem W i = true := by cases hm : mem W i <;> simp [hm] at hp ⊢
      have : sat (nI k) (nI i) = false := by simpa [hm] using hp
      rw [if_neg (c_ge (N := 512) (n := 512) rfl hi (by decide)), if_neg i0ne1, gd_nI hi (by decide), ixn (by omega), nI1, if_neg (show ¬ R i = 0 by rw [f3 i hi, hm]; decide), isSo_sat, bd_some, this, if_pos (by decide)]
    · left
      unfold gX11_isTrue_25
      dsimp only
      by_cases q : (512 : Int32) ≤ nI i
      · exact ⟨_, by rw [if_pos q]⟩
      · exact ⟨_, by rw [if_neg q, if_pos rfl]⟩
    · unfold gX11_isTrue_25
      dsimp only
      exact ⟨_, by rw [if_pos (c_le (N := 512) (n := 512) rfl (Nat.le_refl _) (by decide))]⟩
theorem isSeen_eq {t : Nat → Int32} {z : Nat → Nat} {n s : Nat} (hn : n ≤ 512) (h4 : t 4 = nI n) (hz : ∀ j, j < n → t (247 + j) = nI (z j) ∧ z j < 512) (hs : s < 512) : fX11_isSeen t (nI s) = some (b2i (!(ffind n (fun j => decide (z j = s))).isNone)) := by
  have key := iter_flag (g := gX11_isSeen_4 t (nI s)) 0 1 (fun j => decide (z j = s)) n (by omega) (fun i hi hp => ?_) (fun i hi hp => ?_) (fun i hi => ?_) ?_
  · obtain ⟨e, key⟩ := key
    unfold fX11_isSeen
    rw [key, bd_some, fl_01, isB_b2i, gd_tr]
  · unfold gX11_isSeen_4
    dsimp only at hp ⊢
    obtain ⟨q1, q2⟩ := hz i hi
    rw [gg4, gd_tr, ii4, h4, if_neg (c_ge (n := n) rfl hi (by omega)), if_pos rfl, show (247 : Int32) = nI 247 from rfl, nI_add, gm rfl (by omega), ixn (by omega), q1, nI1, if_neg (fun q => by have := nI_inj (by omega) (by omega) q; simp [this] at hp)]
  · unfold gX11_isSeen_4
    dsimp only at hp ⊢
    obtain ⟨q1, q2⟩ := hz i hi
    have : z i = s := by simpa using hp
    rw [gg4, gd_tr, ii4, h4, if_neg (c_ge (n := n) rfl hi (by omega)), if_pos rfl, show (247 : Int32) = nI 247 from rfl, nI_add, gm rfl (by omega), ixn (by omega), q1, nI1, if_pos (by rw [this])]
  · left
    unfold gX11_isSeen_4
    dsimp only
    rw [gg4, gd_tr]
    by_cases q : t (ix 4) ≤ nI i
    · exact ⟨_, by rw [if_pos q]⟩
    · exact ⟨_, by rw [if_neg q, if_neg i0ne1]⟩
  · unfold gX11_isSeen_4
    dsimp only
    exact ⟨_, by rw [gg4, gd_tr, ii4, h4, if_pos (c_le (n := n) rfl (Nat.le_refl _) (by omega))]⟩
theorem RM.seen {B : Nat} {t : Nat → Int32} {M : MS} (h : RM B t M) {s : Nat} (hs : s < 512) : fX11_isSeen t (nI s) = some (b2i (mem M.2.2 s)) := by
  obtain ⟨ns, nc, n, R, z, r, ⟨a1, a2, a3, a4, a5, a6⟩, ⟨b1, b2, b3, b4, b5⟩, ⟨c1, c2, c3, c4, c5, c6, c7⟩, d, e, f, g, hm⟩ := h
  rw [isSeen_eq b4 (by rw [c5, a6]) (fun j hj => ⟨(f j hj).2.2.2.1, (f j hj).2.1⟩) hs]
  have h1 := hm s hs
  cases hf : ffind n (fun j => decide (z j = s)) with
  | none =>
    have h2 := ffind_n.mp hf
    cases h3 : mem M.2.2 s with
    | false => rfl
    | true =>
      obtain ⟨k, hk, ek⟩ := h1.mp h3
      have := h2 k hk
      simp [ek] at this
  | some j =>
    obtain ⟨q1, q2⟩ := ffind_spec hf
    have : mem M.2.2 s = true := h1.mpr ⟨j, q1, by simpa using q2⟩
    rw [this]; rfl
theorem q_ofState {B : Nat} {t : Nat → Int32} {M : MS} (hM : RM B t M) (wr : Nat → Int64) (v_q rch que : Nat → Int32) (p0 : Int32) : ∃ ans wr' v' r' q', fX10_ofState (M.1 0) (M.1 1) (M.1 4) (M.2.1 0) (M.2.1 1) (M.2.1 2) (M.2.1 3) (M.2.1 4) (M.1 5) (M.2.1 5) (M.2.1 6) M.2.2 wr v_q p0 = some (ans, wr', v') ∧ fX11_ofState t rch que p0 = some (ans, r', q') := by
  obtain ⟨ns, nc, e4, e5, S, C⟩ := hM.ok
  obtain ⟨s0, hs0, e0, h0⟩ := hM.st
  unfold fX10_ofState fX11_ofState
  rw [e4, e5, e0]
  rcases in_511 p0 with ⟨e1, e2⟩ | ⟨e1, e2, s, hs, rfl⟩
  · rw [e1, e2, bd_some, bd_some, if_pos rfl, if_pos rfl]; exact ⟨_, _, _, _, _, rfl, rfl⟩
  obtain ⟨W, Q, R, Q', f1, f2, f3, f4⟩ := reach_eq S h0 hs0 wr v_q rch que
  obtain ⟨U, eU, hU⟩ := mstand_eq C
  have hle := fb_ct_le (mem W) 512
  rw [e1, e2, bd_some, bd_some, if_neg i0ne1, if_neg i0ne1, f1, bd_some, f2, bd_some]
  dsimp only
  rw [if_neg (show ¬ nI (fb_ct (mem W) 512) ≤ 0 from c_ge (n := fb_ct (mem W) 512) (i := 0) rfl (by omega) (by omega)), gd_nI hs (by decide), ixn (by omega), show (if R s = 0 then jX11_ofState_36 t (nI s) (nI (fb_ct (mem W) 512), R, Q') else jX11_ofState_37 t (nI s) (nI (fb_ct (mem W) 512), R, Q') 1) = jX11_ofState_37 t (nI s) (nI (fb_ct (mem W) 512), R, Q') (b2i (mem W s)) from by
    rw [f3 s hs]
    cases mem W s <;> rfl, has_eq M.2.2 hs, bd_some, asN, bd_some, has_eq W hs, bd_some, asN, bd_some, allow_eq C.1 C.ks, bd_some, asN, bd_some]
  unfold jX11_ofState_37 jX11_ofState_51 jX11_ofState_60
  rw [hM.seen hs, bd_some]
  simp only [eU, bd_some, C.are]
  rw [alS_congr (S := lb U) (S' := stn (M.2.1 6)) (fun c hc => SB_lb hU C.1 hc)]
  refine ⟨_, _, _, R, Q', rfl, ?_⟩
  cases mem M.2.2 s <;> cases mem W s <;> cases alS nc (M.2.1 5) (stn (M.2.1 6)) s <;> rfl
theorem allowedMany_eq {al : Nat → Int32} {A : Nat → Bool} (ha : ∀ u, u < 512 → al u = b2i (A u)) : iter (gX11_allowedMany_12 al) FU ((0 : Int32), (0 : Int32)) = some (nI (fb_ct A 512), nI 512) := by
  refine iter_seq (fun i => (nI (fb_ct A i), nI i)) 512 _ (by decide) (fun i hi => ?_) ?_
  · unfold gX11_allowedMany_12
    dsimp only
    rw [if_neg (c_ge (N := 512) (n := 512) rfl hi (by decide)), gd_nI hi (by decide), ixn (by omega), ha i hi, fb_ct_succ, nI1, nI1, Int32.add_zero]
    cases A i with
    | true => rw [if_neg (by decide)]; rfl
    | false => rw [if_pos (by decide)]; rfl
  · unfold gX11_allowedMany_12
    dsimp only
    rw [if_pos (c_le (N := 512) (n := 512) rfl (Nat.le_refl _) (by decide))]
theorem q_count {B : Nat} {t : Nat → Int32} {M : MS} (hM : RM B t M) (h_n p_n : Int32) (wl wr : Nat → Int64) (v_q al rch que : Nat → Int32) (p0 : Int32) : ∃ ans wl' wr' v' al' r' q', fX10_count h_n (M.1 0) (M.1 1) (M.1 2) (M.1 3) (M.1 4) (M.2.1 0) (M.2.1 1) (M.2.1 2) (M.2.1 3) (M.2.1 4) (M.1 5) (M.2.1 5) (M.2.1 6) (M.1 6) wl wr v_q p_n p0 = some (ans, wl', wr', v') ∧ fX11_count t h_n p_n al rch que p0 = some (ans, al', r', q') := by
  obtain ⟨ns, nc, e4, e5, S, C⟩ := hM.ok
  obtain ⟨s0, hs0, e0, h0⟩ := hM.st
  have hM2 := hM
  obtain ⟨-, -, -, -, -, -, -, -, ⟨c1, c2, c3, c4, c5, c6, c7⟩, -⟩ := hM2
  unfold fX10_count fX11_count
  rw [gg0, gd_tr, ii0, gg2, gd_tr, ii2, gg3, gd_tr, ii3, gg4, gd_tr, ii4, gg5, gd_tr, ii5, gg6, gd_tr, ii6, show gi 1 1271 = true from gi1, gd_tr, ix1, c1, c2, c3, c4, c5, c6, c7]
  by_cases q0 : p0 = 0
  · rw [if_pos q0, if_pos q0]; exact ⟨_, _, _, _, _, _, _, rfl, rfl⟩
  rw [if_neg q0, if_neg q0]
  by_cases q1 : p0 = 1
  · rw [if_pos q1, if_pos q1]; exact ⟨_, _, _, _, _, _, _, rfl, rfl⟩
  rw [if_neg q1, if_neg q1]
  by_cases q2 : p0 = 2
  · obtain ⟨v, -, d1, w, d2, d3⟩ := cstand_eq C
    rw [if_pos q2, if_pos q2, e5, d1, bd_some, d2, bd_some, d3, bd_some]; exact ⟨_, _, _, _, _, _, _, rfl, rfl⟩
  rw [if_neg q2, if_neg q2]
  by_cases q3 : p0 = 3
  · rw [if_pos q3, if_pos q3]; exact ⟨_, _, _, _, _, _, _, rfl, rfl⟩
  rw [if_neg q3, if_neg q3]
  by_cases q4 : p0 = 4
  · rw [if_pos q4, if_pos q4]; exact ⟨_, _, _, _, _, _, _, rfl, rfl⟩
  rw [if_neg q4, if_neg q4]
  by_cases q5 : p0 = 5
  · rw [if_pos q5, if_pos q5]; exact ⟨_, _, _, _, _, _, _, rfl, rfl⟩
  rw [if_neg q5, if_neg q5]
  by_cases q6 : p0 = 6
  · rw [if_pos q6, if_pos q6]; exact ⟨_, _, _, _, _, _, _, rfl, rfl⟩
  rw [if_neg q6, if_neg q6]
  by_cases q7 : p0 = 7
  · rw [if_pos q7, if_pos q7]; exact ⟨_, _, _, _, _, _, _, rfl, rfl⟩
  rw [if_neg q7, if_neg q7]
  obtain ⟨U, eU, hU⟩ := mstand_eq C
  have hA : ∀ u, u < 512 → alS nc (M.2.1 5) (stn (M.2.1 6)) u = alS nc (M.2.1 5) (lb U) u := fun u hu => (alS_congr (fun c hc => SB_lb hU C.1 hc)).symm
  by_cases q8 : p0 = 8
  · obtain ⟨w1, f1, m1⟩ := findAllowed_eq (cf := M.2.1 6) C.1 C.ks wl
    obtain ⟨a, ea, ha⟩ := C.lays U al
    rw [if_pos q8, if_pos q8, e5, f1, bd_some, set_size, bd_some]
    unfold fX11_allowedMany
    rw [eU, bd_some, ea, bd_some, allowedMany_eq ha, bd_some, bd_some, fb_ct_cong (p := mem w1) (q := alS nc (M.2.1 5) (lb U)) (fun u hu => by rw [m1 u hu, hA u hu])]
    exact ⟨_, _, _, _, _, _, _, rfl, rfl⟩
  rw [if_neg q8, if_neg q8]
  by_cases q9 : p0 = 9
  · obtain ⟨W, Q, R, Q', f1, f2, f3, f4⟩ := reach_eq S h0 hs0 wr v_q rch que
    rw [if_pos q9, if_pos q9, e4, e0, f1, bd_some, set_size, bd_some, f2, bd_some]; exact ⟨_, _, _, _, _, _, _, rfl, rfl⟩
  rw [if_neg q9, if_neg q9]
  by_cases q10 : p0 = 10
  · obtain ⟨v, ev, mv⟩ := ckern_eq S C wl
    obtain ⟨a, ea, ma⟩ := kern_eq S C al U
    rw [if_pos q10, if_pos q10, e4, e5, ev, bd_some, eU, bd_some, ea, bd_some, kp_congr S.cl hA]
    generalize kp ns (TG (M.1 1) (M.2.1 0) (M.2.1 1) (M.2.1 2) (M.2.1 3) (M.2.1 4)) (alS nc (M.2.1 5) (lb U)) = kb
    dsimp only
    rw [asN, bd_some]
    refine ⟨_, _, _, _, a, rch, que, rfl, ?_⟩
    cases kb <;> rfl
  rw [if_neg q10, if_neg q10]
  by_cases q11 : p0 = 11
  · rw [if_pos q11, if_pos q11]; exact ⟨_, _, _, _, _, _, _, rfl, rfl⟩
  rw [if_neg q11, if_neg q11]
  by_cases q12 : p0 = 12
  · rw [if_pos q12, if_pos q12]; exact ⟨_, _, _, _, _, _, _, rfl, rfl⟩
  rw [if_neg q12, if_neg q12]
  exact ⟨_, _, _, _, _, _, _, rfl, rfl⟩
