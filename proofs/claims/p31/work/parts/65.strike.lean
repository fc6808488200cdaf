/-! ===== strike and settle ===== -/
theorem round_both {B nc : Nat} {t : Nat → Int32} {a w ru ro sn en : Int32} {g hh x y k cc cf cs cm cr eo : Nat → Int32} {we : Nat → Int64} (h : RM B t (snap a w ru ro sn g hh x y k (nI nc) cc cf cs cm cr en eo we)) (hn : nc ≤ 40) (wl : Nat → Int64) (al : Nat → Int32) :
    ∃ (v : Nat) (ro' : Int32) (f s m r : Nat → Int32) (W : Nat → Int64) (t' al' : Nat → Int32), v ≤ 40 ∧ fX3_makeRound w ro sn g hh x y k (nI nc) cc cf cs cm cr wl = some (nI v, ro', f, s, m, r, W) ∧ fX11_round t al = some (nI v, t', al') ∧ RM B t' (snap a w ru ro' sn g hh x y k (nI nc) cc f s m r en eo we) ∧ fb_ct (stn f) nc + v = fb_ct (stn cf) nc ∧ (v = 0 → ro' = ro ∧ ∀ c, c < nc → ((f c, s c, m c, r c) : Q4) = (cf c, cs c, cm c, cr c)) := by
  have h' := h
  obtain ⟨ns, nc', esn, ecn, S, C⟩ := RMok h'
  have C2 := C.1
  have : nc' = nc := (nI_inj (by omega) (by omega) ecn).symm
  subst this
  obtain ⟨ns', nc2, n, R, z, r0, ⟨a1, a2, a3, a4, a5, a6⟩, ⟨b1, b2, b3, b4, b5⟩, ⟨c1, c2, c3, c4, c5, c6, c7⟩, d, e, f0, i⟩ := RMsn h
  have : nc2 = nc' := (nI_inj (by omega) (by omega) a5).symm
  subst this
  obtain ⟨f, s, m, r, W, k1, k2⟩ := cround (ro := ro) (cs := cs) (cm := cm) (cr := cr) S hn C.ks wl
  obtain ⟨t', al', k3, k4, k5, k6⟩ := mround S C c7 al
  have hle := fb_ct_le (fun c => dn ns (TG w g hh x y k) (alS nc2 cc (stn cf)) cc cf c 512 0) nc2
  have hst : ∀ c, c < nc2 → stn f c = (stn cf c && !dn ns (TG w g hh x y k) (alS nc2 cc (stn cf)) cc cf c 512 0) := fun c hc => by
    rw [← qd_stn ro ns (TG w g hh x y k) (alS nc2 cc (stn cf)) cc cf cs cm cr c 512 0, ← k2 c hc]; rfl
  refine ⟨cn ns nc2 (TG w g hh x y k) (alS nc2 cc (stn cf)) cc cf 512 0, _, f, s, m, r, W, t', al', ?_, by rw [esn]; exact k1, k3, ?_, ?_, fun hv => ?_⟩
  · unfold cn; omega
  · refine ⟨ns', nc2, n, R, z, r0, ⟨a1, a2, a3, a4, rfl, a6⟩, ⟨b1, b2, b3, b4, b5⟩, ⟨by rw [k5 0 (by decide) (by decide), c1]; rfl, by rw [k5 1 (by decide) (by decide), c2]; rfl, by rw [k5 2 (by decide) (by decide), c3]; rfl, by rw [k5 3 (by decide) (by decide), c4]; rfl, by rw [k5 4 (by decide) (by decide), c5]; rfl, by rw [k5 5 (by decide) (by decide), c6]; rfl, k4⟩, fun v hv => ?_, fun c hc => ⟨?_, (e c hc).2⟩, fun j hj => ?_, i⟩
    · obtain ⟨⟨q0, q1, q2, q3, q4⟩, q5, q6⟩ := d v hv
      refine ⟨⟨?_, ?_, ?_, ?_, ?_⟩, q5, q6⟩
      · rw [k5 _ (by omega) (by omega)]; exact q0
      · rw [k5 _ (by omega) (by omega)]; exact q1
      · rw [k5 _ (by omega) (by omega)]; exact q2
      · rw [k5 _ (by omega) (by omega)]; exact q3
      · rw [k5 _ (by omega) (by omega)]; exact q4
    · obtain ⟨p1, p2⟩ := k6 c hc
      rw [← k2 c hc, Prod.mk.injEq, Prod.mk.injEq, Prod.mk.injEq] at p2
      exact ⟨p1, p2.1, p2.2.1, p2.2.2.1, p2.2.2.2⟩
    · obtain ⟨q0, q1, q2, q3, q4⟩ := f0 j hj
      exact ⟨q0, q1, q2, by rw [k5 _ (by omega) (by omega)]; exact q3, fun hj1 => by rw [k5 _ (by omega) (by omega)]; exact q4 hj1⟩
  · show fb_ct (stn f) nc2 + fb_ct (fun c => dn ns (TG w g hh x y k) (alS nc2 cc (stn cf)) cc cf c 512 0) nc2 = _
    rw [fb_ct_cong (p := stn f) (q := fun c => stn cf c && !dn ns (TG w g hh x y k) (alS nc2 cc (stn cf)) cc cf c 512 0) hst, ← fb_ct_or (fun c _ q => by rw [q.2] at q; simp at q)]
    refine fb_ct_cong (fun c _ => ?_)
    unfold dn
    cases stn cf c <;> cases (ffind 512 fun s' => (hS ns (TG w g hh x y k) (alS nc2 cc (stn cf)) cc c s').isSome).isSome <;> cases (ffind 0 (pr (TG w g hh x y k) (alS nc2 cc (stn cf)) cc c 512)).isSome <;> rfl
  · rw [if_pos hv]
    exact ⟨rfl, fun c hc => by rw [k2 c hc, qd_not (fb_ct_zero.mp hv c hc)]⟩
theorem RM.fates {B nc : Nat} {t : Nat → Int32} {a w ru ro sn en : Int32} {g hh x y k cc cf cs cm cr f s m r eo : Nat → Int32} {we : Nat → Int64} (h : RM B t (snap a w ru ro sn g hh x y k (nI nc) cc f s m r en eo we)) (hn : nc ≤ 40) (hf : ∀ c, c < nc → ((f c, s c, m c, r c) : Q4) = (cf c, cs c, cm c, cr c)) : RM B t (snap a w ru ro sn g hh x y k (nI nc) cc cf cs cm cr en eo we) := by
  obtain ⟨ns, nc', n, R, z, r0, ⟨a1, a2, a3, a4, a5, a6⟩, hb, hc, d, e, f0⟩ := RMsn h
  have : nc' = nc := (nI_inj (by omega) (by omega) a5).symm
  subst this
  refine ⟨ns, nc', n, R, z, r0, ⟨a1, a2, a3, a4, a5, a6⟩, hb, hc, d, fun c hc' => ?_, f0⟩
  obtain ⟨⟨q0, q1, q2, q3, q4⟩, q5⟩ := e c hc'
  have := hf c hc'
  rw [Prod.mk.injEq, Prod.mk.injEq, Prod.mk.injEq] at this
  exact ⟨⟨q0, by rw [q1]; exact this.1, by rw [q2]; exact this.2.1, by rw [q3]; exact this.2.2.1, by rw [q4]; exact this.2.2.2⟩, q5⟩
theorem op_strike {B : Nat} {t was : Nat → Int32} {sv h_n : Int32} {K : Nat → MS} {M : MS} (hM : RM B t M) (hH : RH B was sv h_n K) (wl : Nat → Int64) (al : Nat → Int32) :
    ∃ ans hn' ro f s m r W K' t' was' sv' al', fX10_strike h_n (M.1 0) (M.1 1) (M.1 2) (M.1 3) (M.1 4) (M.2.1 0) (M.2.1 1) (M.2.1 2) (M.2.1 3) (M.2.1 4) (M.1 5) (M.2.1 5) (M.2.1 6) (M.2.1 7) (M.2.1 8) (M.2.1 9) (M.1 6) (M.2.1 10) M.2.2 wl K = some (ans, hn', ro, f, s, m, r, W, K') ∧ fX11_strike t was sv 0 al = some (ans, sv', t', was', al') ∧
    RM B t' (snap (M.1 0) (M.1 1) (M.1 2) ro (M.1 4) (M.2.1 0) (M.2.1 1) (M.2.1 2) (M.2.1 3) (M.2.1 4) (M.1 5) (M.2.1 5) f s m r (M.1 6) (M.2.1 10) M.2.2) ∧ RH B was' sv' hn' K' := by
  obtain ⟨K1, k1, k2, was1, sv1, k3, k4⟩ := prep_eq hH hM.sn
  obtain ⟨ns, nc, e4, e5, S, C⟩ := hM.ok
  have hS := hM.sn
  rw [e5] at hS
  obtain ⟨v, ro', f, s, m, r, W, t', al', hv, g1, g2, g3, -, -⟩ := round_both hS C.1 wl al
  obtain ⟨h', K2, k5, k6⟩ := k4 (nI v) (by rw [le_toInt, tI0, nI_toInt (by omega)]; omega)
  unfold fX10_strike fX11_strike
  rw [k1, bd_some, k3, bd_some, g2, bd_some, e5, g1, bd_some, k5, bd_some]
  exact ⟨_, _, _, _, _, _, _, _, _, _, _, _, _, rfl, rfl, g3, k6⟩
abbrev TSa : Type := Int32 × Int32 × (Nat → Int32) × (Nat → Int32) × (Nat → Int32) × (Nat → Int32) × (Nat → Int64)
abbrev TSb : Type := Int32 × (Nat → Int32) × (Nat → Int32)
theorem settle_both {B nc : Nat} {t : Nat → Int32} {a w ru ro sn en : Int32} {g hh x y k cc cf cs cm cr eo : Nat → Int32} {we : Nat → Int64} (h : RM B t (snap a w ru ro sn g hh x y k (nI nc) cc cf cs cm cr en eo we)) (hn : nc ≤ 40) (wl : Nat → Int64) (al : Nat → Int32) :
    ∃ (b : TSa) (b' : TSb), fX3_makeRounds w ro sn g hh x y k (nI nc) cc cf cs cm cr wl = some b ∧ iter gX11_settle_6 FU ((0 : Int32), t, al) = some b' ∧ b'.1 = b.1 ∧ 0 ≤ b.1 ∧ RM B b'.2.1 (snap a w ru b.2.1 sn g hh x y k (nI nc) cc b.2.2.1 b.2.2.2.1 b.2.2.2.2.1 b.2.2.2.2.2.1 en eo we) := by
  have main := iter2 (g := gX3_makeRounds_2 w sn g hh x y k (nI nc) cc) (g' := gX11_settle_6) (fun (i : Nat) (c : TSa) (c' : TSb) => c.1 = nI i ∧ c'.1 = nI i ∧ fb_ct (stn c.2.2.1) nc + i ≤ 40 ∧ RM B c'.2.1 (snap a w ru c.2.1 sn g hh x y k (nI nc) cc c.2.2.1 c.2.2.2.1 c.2.2.2.2.1 c.2.2.2.2.2.1 en eo we))
    (fun (b : TSa) (b' : TSb) => b'.1 = b.1 ∧ 0 ≤ b.1 ∧ RM B b'.2.1 (snap a w ru b.2.1 sn g hh x y k (nI nc) cc b.2.2.1 b.2.2.2.1 b.2.2.2.2.1 b.2.2.2.2.2.1 en eo we)) 40 (fun i c c' hi hI => ?_) (fun c c' hI => ?_) 40 0 ((0 : Int32), ro, cf, cs, cm, cr, wl) ((0 : Int32), t, al) FU FU (by omega) (by decide) (by decide) ⟨rfl, rfl, by have := fb_ct_le (stn cf) nc; dsimp only; omega, h⟩
  · obtain ⟨b, b', e1, e2, hp⟩ := main
    refine ⟨b, b', ?_, e2, hp⟩
    unfold fX3_makeRounds
    rw [e1, bd_some]
  · obtain ⟨c1, c2, c3, c4, c5, c6, c7⟩ := c
    obtain ⟨d1, d2, d3⟩ := c'
    obtain ⟨e1, e2, e3, hR⟩ := hI
    dsimp only at e1 e2 e3 hR
    subst e1 e2
    have i0 : (0 : Int32) ≤ nI i := by rw [le_toInt, tI0, nI_toInt (by omega)]; omega
    obtain ⟨v, ro', f, s, m, r, W, t', al', hv, g1, g2, g3, g4, -⟩ := round_both hR hn c7 d3
    have s1 : gX3_makeRounds_2 w sn g hh x y k (nI nc) cc (nI i, c2, c3, c4, c5, c6, c7) = (if nI v ≤ 0 then some (.inr (nI i, ro', f, s, m, r, W)) else some (.inl (nI i + 1, ro', f, s, m, r, W))) := by
      unfold gX3_makeRounds_2
      dsimp only
      rw [if_neg (c_ge (N := 40) (n := 40) rfl hi (by decide)), g1, bd_some]
    have s2 : gX11_settle_6 (nI i, d2, d3) = (if nI v ≤ 0 then some (.inr (nI i, t', al')) else some (.inl (nI i + 1, t', al'))) := by
      unfold gX11_settle_6
      dsimp only
      rw [g2, bd_some]
    by_cases h0 : v = 0
    · subst h0
      rw [if_pos (show nI 0 ≤ 0 by decide)] at s1 s2
      right
      exact ⟨_, _, fun f hf => iter_e s1 (by omega), fun f hf => iter_e s2 (by omega), rfl, i0, g3⟩
    · have hv0 : ¬ nI v ≤ 0 := c_ge (n := v) (i := 0) rfl (by omega) (by omega)
      rw [if_neg hv0] at s1 s2
      left
      exact ⟨_, _, s1, s2, nI1 i, nI1 i, by dsimp only; omega, g3⟩
  · obtain ⟨c1, c2, c3, c4, c5, c6, c7⟩ := c
    obtain ⟨d1, d2, d3⟩ := c'
    obtain ⟨e1, e2, e3, hR⟩ := hI
    dsimp only at e1 e2 e3 hR
    subst e1 e2
    obtain ⟨v, ro', f, s, m, r, W, t', al', hv, g1, g2, g3, g4, g5⟩ := round_both hR hn c7 d3
    have h0 : v = 0 := by omega
    obtain ⟨q1, q2⟩ := g5 h0
    subst h0 q1
    have s2 : gX11_settle_6 (nI 40, d2, d3) = some (.inr (nI 40, t', al')) := by
      unfold gX11_settle_6
      dsimp only
      rw [g2, bd_some, if_pos (show nI 0 ≤ 0 by decide)]
    refine ⟨(nI 40, ro', c3, c4, c5, c6, c7), _, fun f hf => iter_e ?_ hf, fun f hf => iter_e s2 hf, rfl, (show (0 : Int32) ≤ nI 40 by decide), RM.fates g3 hn q2⟩
    unfold gX3_makeRounds_2
    dsimp only
    rw [if_pos (show (40 : Int32) ≤ nI 40 by decide)]
theorem op_settle {B : Nat} {t was : Nat → Int32} {sv h_n : Int32} {K : Nat → MS} {M : MS} (hM : RM B t M) (hH : RH B was sv h_n K) (wl : Nat → Int64) (al : Nat → Int32) :
    ∃ ans hn' ro f s m r W K' t' was' sv' al', fX10_settle h_n (M.1 0) (M.1 1) (M.1 2) (M.1 3) (M.1 4) (M.2.1 0) (M.2.1 1) (M.2.1 2) (M.2.1 3) (M.2.1 4) (M.1 5) (M.2.1 5) (M.2.1 6) (M.2.1 7) (M.2.1 8) (M.2.1 9) (M.1 6) (M.2.1 10) M.2.2 wl K = some (ans, hn', ro, f, s, m, r, W, K') ∧ fX11_settle t was sv 0 al = some (ans, sv', t', was', al') ∧
    RM B t' (snap (M.1 0) (M.1 1) (M.1 2) ro (M.1 4) (M.2.1 0) (M.2.1 1) (M.2.1 2) (M.2.1 3) (M.2.1 4) (M.1 5) (M.2.1 5) f s m r (M.1 6) (M.2.1 10) M.2.2) ∧ RH B was' sv' hn' K' := by
  obtain ⟨K1, k1, k2, was1, sv1, k3, k4⟩ := prep_eq hH hM.sn
  obtain ⟨ns, nc, e4, e5, S, C⟩ := hM.ok
  have hS := hM.sn
  rw [e5] at hS
  obtain ⟨b, b', g1, g2, g3, g4, g5⟩ := settle_both hS C.1 wl al
  obtain ⟨h', K2, k5, k6⟩ := k4 b.1 g4
  unfold fX10_settle fX11_settle
  rw [k1, bd_some, k3, bd_some, g2, bd_some, e5, g1, bd_some, k5, bd_some, g3]
  exact ⟨_, _, _, _, _, _, _, _, _, _, _, _, _, rfl, rfl, g5, k6⟩
