theorem qd_step {ro : Int32} {ns : Nat} {T : Nat → Nat → Option Nat} {A : Nat → Bool} {cc cf cs cm cr : Nat → Int32} {c s i u : Nat} (hA : A s = true) (e : T i s = some u) :
    qd ro ns T A cc cf cs cm cr c s (i + 1) = (if (decide ((qd ro ns T A cc cf cs cm cr c s i).1 = 0) && !sat (cc c) (nI u)) = true then (3, nI s, nI i, ro + 1) else qd ro ns T A cc cf cs cm cr c s i) ∧ dn ns T A cc cf c s (i + 1) = (dn ns T A cc cf c s i || (decide ((qd ro ns T A cc cf cs cm cr c s i).1 = 0) && !sat (cc c) (nI u))) ∧ ¬ (dn ns T A cc cf c s i = true ∧ (decide ((qd ro ns T A cc cf cs cm cr c s i).1 = 0) && !sat (cc c) (nI u)) = true) := by
  have hp : pr T A cc c s i = !sat (cc c) (nI u) := by unfold pr; rw [hA, e]; rfl
  rw [qd_stn]
  cases h1 : stn cf c with
  | false =>
    obtain ⟨q1, q2⟩ := qd_f (ro := ro) (ns := ns) (cs := cs) (cm := cm) (cr := cr) (T := T) (A := A) (cc := cc) (s := s) (i := i) (show stn cf c = true → pr T A cc c s i = false from fun q => by rw [h1] at q; cases q)
    rw [q1, q2]; simp
  | true =>
    cases h2 : dn ns T A cc cf c s i with
    | true =>
      obtain ⟨q1, q2⟩ := qd_o (ro := ro) (cs := cs) (cm := cm) (cr := cr) h2
      rw [q1, q2]; simp
    | false =>
      cases h3 : sat (cc c) (nI u) with
      | true =>
        rw [h3] at hp
        obtain ⟨q1, q2⟩ := qd_f (ro := ro) (ns := ns) (cf := cf) (cs := cs) (cm := cm) (cr := cr) (T := T) (A := A) (cc := cc) (s := s) (i := i) (fun _ => hp)
        rw [q1, q2, h2]; simp
      | false =>
        rw [h3] at hp
        obtain ⟨q1, q2⟩ := qd_t (ro := ro) (cs := cs) (cm := cm) (cr := cr) h1 h2 hp
        rw [q1, q2]; simp
theorem qd_fs {ro : Int32} {ns : Nat} {T : Nat → Nat → Option Nat} {A : Nat → Bool} {cc cf cs cm cr : Nat → Int32} {c s : Nat} : ∀ {n : Nat}, (∀ i, i < n → pr T A cc c s i = false) → qd ro ns T A cc cf cs cm cr c s n = qd ro ns T A cc cf cs cm cr c s 0 ∧ dn ns T A cc cf c s n = dn ns T A cc cf c s 0
  | 0, _ => ⟨rfl, rfl⟩
  | n + 1, h => by
    obtain ⟨a1, a2⟩ := qd_fs (ro := ro) (ns := ns) (cf := cf) (cs := cs) (cm := cm) (cr := cr) (n := n) (fun i hi => h i (by omega))
    obtain ⟨b1, b2⟩ := qd_f (ro := ro) (ns := ns) (cf := cf) (cs := cs) (cm := cm) (cr := cr) (fun _ => h n (by omega))
    exact ⟨by rw [b1, a1], by rw [b2, a2]⟩
/-- how many are struck out before a pair -/
def cn (ns nc : Nat) (T : Nat → Nat → Option Nat) (A : Nat → Bool) (cc cf : Nat → Int32) (s i : Nat) : Nat := fb_ct (fun c => dn ns T A cc cf c s i) nc
theorem cinner {t : Nat → Int32} {w ro : Int32} {g hh x y k cc cf cs cm cr : Nat → Int32} {ns nc s : Nat} {W : Nat → Int64} (S : SOK t w g hh x y k ns) (hn : nc ≤ 40) (hk : ∀ c, c < nc → ∃ k : Nat, k < 1350 ∧ cc c = nI k) (hW : ∀ u, u < 512 → mem W u = alS nc cc (stn cf) u) (hs : s < 512)
    (f0 s0 m0 r0 : Nat → Int32) (h0 : ∀ c, c < nc → ((f0 c, s0 c, m0 c, r0 c) : Q4) = qd ro ns (TG w g hh x y k) (alS nc cc (stn cf)) cc cf cs cm cr c s 0) (z1 : Int32) (z2 z3 z4 z5 : Nat → Int32) :
    ∃ b : SA, iter (gX3_makeRound_19 w ro (nI ns) g hh x y k (nI nc) cc W (z1, nI s, z2, z3, z4, z5)) FU (nI (cn ns nc (TG w g hh x y k) (alS nc cc (stn cf)) cc cf s 0), (0 : Int32), f0, s0, m0, r0) = some b ∧ b.1 = nI (cn ns nc (TG w g hh x y k) (alS nc cc (stn cf)) cc cf (s + 1) 0) ∧ ∀ c, c < nc → ((b.2.2.1 c, b.2.2.2.1 c, b.2.2.2.2.1 c, b.2.2.2.2.2 c) : Q4) = qd ro ns (TG w g hh x y k) (alS nc cc (stn cf)) cc cf cs cm cr c (s + 1) 0 := by
  have h8 := S.1
  have rowc : cn ns nc (TG w g hh x y k) (alS nc cc (stn cf)) cc cf (s + 1) 0 = cn ns nc (TG w g hh x y k) (alS nc cc (stn cf)) cc cf s ns := fb_ct_cong (fun c _ => (qd_row (ro := 0) (cs := cs) (cm := cm) (cr := cr)).2)
  rw [rowc]
  cases hA : alS nc cc (stn cf) s with
  | false =>
    have z : ∀ c, qd ro ns (TG w g hh x y k) (alS nc cc (stn cf)) cc cf cs cm cr c s ns = qd ro ns (TG w g hh x y k) (alS nc cc (stn cf)) cc cf cs cm cr c s 0 ∧ dn ns (TG w g hh x y k) (alS nc cc (stn cf)) cc cf c s ns = dn ns (TG w g hh x y k) (alS nc cc (stn cf)) cc cf c s 0 := fun c => qd_fs (fun i _ => by unfold pr; rw [hA]; rfl)
    refine ⟨(nI (cn ns nc (TG w g hh x y k) (alS nc cc (stn cf)) cc cf s 0), (0 : Int32), f0, s0, m0, r0), iter_e ?_ (by decide), ?_, fun c hc => ?_⟩
    · unfold gX3_makeRound_19
      dsimp only
      by_cases hz : ns = 0
      · subst hz
        rw [if_pos (show nI 0 ≤ (0 : Int32) by decide)]
      · rw [if_neg (show ¬ nI ns ≤ (0 : Int32) from c_ge (n := ns) (i := 0) rfl (by omega) (by omega)), has_eq W hs, hW s hs, hA, bd_some, if_pos (by decide)]
    · show nI _ = nI _
      congr 1
      exact fb_ct_cong (fun c _ => ((z c).2).symm)
    · show (f0 c, s0 c, m0 c, r0 c) = _
      rw [qd_row.1, (z c).1]; exact h0 c hc
  | true =>
    refine iter0 (fun (i : Nat) (b : SA) => b.1 = nI (cn ns nc (TG w g hh x y k) (alS nc cc (stn cf)) cc cf s i) ∧ b.2.1 = nI i ∧ ∀ c, c < nc → ((b.2.2.1 c, b.2.2.2.1 c, b.2.2.2.2.1 c, b.2.2.2.2.2 c) : Q4) = qd ro ns (TG w g hh x y k) (alS nc cc (stn cf)) cc cf cs cm cr c s i)
      (fun (b : SA) => b.1 = nI (cn ns nc (TG w g hh x y k) (alS nc cc (stn cf)) cc cf s ns) ∧ ∀ c, c < nc → ((b.2.2.1 c, b.2.2.2.1 c, b.2.2.2.2.1 c, b.2.2.2.2.2 c) : Q4) = qd ro ns (TG w g hh x y k) (alS nc cc (stn cf)) cc cf cs cm cr c (s + 1) 0) ns _ (by omega) ⟨rfl, rfl, h0⟩ (fun i a hi hI => Or.inl ?_) (fun a hI => ?_)
    · obtain ⟨c1, c2, c3, c4, c5, c6⟩ := a
      obtain ⟨e1, e2, e3⟩ := hI
      dsimp only at e1 e2 e3
      subst e1 e2
      unfold gX3_makeRound_19
      dsimp only
      rw [if_neg (c_ge (n := ns) rfl hi (by omega)), has_eq W hs, hW s hs, hA, bd_some, if_neg (by decide), tgt_eq S hi hs, bd_some]
      cases e : TG w g hh x y k i s with
      | none =>
        have hp : ∀ c, pr (TG w g hh x y k) (alS nc cc (stn cf)) cc c s i = false := fun c => by unfold pr; rw [e, hA]; rfl
        rw [oN_none, if_pos rfl]
        refine ⟨_, rfl, ?_, nI1 i, fun c hc => ?_⟩
        · show nI _ = nI _
          congr 1
          exact fb_ct_cong (fun c _ => ((qd_f (ro := 0) (cs := cs) (cm := cm) (cr := cr) (fun _ => hp c)).2).symm)
        · show (c3 c, c4 c, c5 c, c6 c) = _
          rw [(qd_f (fun _ => hp c)).1]; exact e3 c hc
      | some u =>
        have hu := TG_lt S hi hs e
        rw [oN_some, if_neg (ne6 (by omega)), has_eq W hu, hW u hu, bd_some]
        cases hU : alS nc cc (stn cf) u with
        | true =>
          have hsat := alS_t.mp hU
          have hp : ∀ c, c < nc → stn cf c = true → pr (TG w g hh x y k) (alS nc cc (stn cf)) cc c s i = false := fun c hc hst => by unfold pr; rw [e, hA]; show (true && !sat (cc c) (nI u)) = false; rw [hsat c hc hst]; rfl
          rw [if_neg (by decide)]
          refine ⟨_, rfl, ?_, nI1 i, fun c hc => ?_⟩
          · show nI _ = nI _
            congr 1
            exact fb_ct_cong (fun c hc => ((qd_f (ro := 0) (cs := cs) (cm := cm) (cr := cr) (hp c hc)).2).symm)
          · show (c3 c, c4 c, c5 c, c6 c) = _
            rw [(qd_f (hp c hc)).1]; exact e3 c hc
        | false =>
          obtain ⟨f, sx, m, r, k1, k2⟩ := sbs_eq (u := u) hn hk ro (nI i) (nI s) c3 c4 c5 c6
          rw [if_pos (by decide), k1, bd_some]
          have hst : ∀ c, c < nc → stn c3 c = decide ((qd ro ns (TG w g hh x y k) (alS nc cc (stn cf)) cc cf cs cm cr c s i).1 = 0) := fun c hc => by
            rw [← e3 c hc]; rfl
          refine ⟨_, rfl, ?_, nI1 i, fun c hc => ?_⟩
          · show nI _ + nI _ = nI _
            rw [nI_add]
            congr 1
            unfold cn
            rw [fb_ct_cong (p := fun c => stn c3 c && !sat (cc c) (nI u)) (q := fun c => decide ((qd ro ns (TG w g hh x y k) (alS nc cc (stn cf)) cc cf cs cm cr c s i).1 = 0) && !sat (cc c) (nI u)) (fun c hc => by rw [hst c hc]), ← fb_ct_or (fun c _ => (qd_step hA e).2.2)]
            exact fb_ct_cong (fun c _ => ((qd_step (ro := ro) (cs := cs) (cm := cm) (cr := cr) hA e).2.1).symm)
          · show (f c, sx c, m c, r c) = _
            rw [k2 c hc, hst c hc, (qd_step hA e).1, e3 c hc]
    · obtain ⟨c1, c2, c3, c4, c5, c6⟩ := a
      obtain ⟨e1, e2, e3⟩ := hI
      dsimp only at e1 e2 e3
      subst e1 e2
      unfold gX3_makeRound_19
      dsimp only
      rw [if_pos (c_le (n := ns) rfl (Nat.le_refl _) (by omega))]
      refine ⟨_, rfl, rfl, fun c hc => ?_⟩
      show (c3 c, c4 c, c5 c, c6 c) = _
      rw [qd_row.1]; exact e3 c hc
/-- a round of the class -/
theorem cround {t : Nat → Int32} {w ro : Int32} {g hh x y k cc cf cs cm cr : Nat → Int32} {ns nc : Nat} (S : SOK t w g hh x y k ns) (hn : nc ≤ 40) (hk : ∀ c, c < nc → ∃ k : Nat, k < 1350 ∧ cc c = nI k) (wl : Nat → Int64) :
    ∃ f s m r W, fX3_makeRound w ro (nI ns) g hh x y k (nI nc) cc cf cs cm cr wl = some (nI (cn ns nc (TG w g hh x y k) (alS nc cc (stn cf)) cc cf 512 0), (if cn ns nc (TG w g hh x y k) (alS nc cc (stn cf)) cc cf 512 0 = 0 then ro else ro + 1), f, s, m, r, W) ∧ ∀ c, c < nc → ((f c, s c, m c, r c) : Q4) = qd ro ns (TG w g hh x y k) (alS nc cc (stn cf)) cc cf cs cm cr c 512 0 := by
  obtain ⟨W, eW, hW⟩ := findAllowed_eq (cf := cf) hn hk wl
  have z0 : cn ns nc (TG w g hh x y k) (alS nc cc (stn cf)) cc cf 0 0 = 0 := fb_ct_zero.mpr (fun c _ => (qd_0 (ro := 0) (cs := cs) (cm := cm) (cr := cr)).2)
  have key : ∃ b : SA, iter (gX3_makeRound_9 w ro (nI ns) g hh x y k (nI nc) cc W) FU ((0 : Int32), (0 : Int32), cf, cs, cm, cr) = some b ∧ b.1 = nI (cn ns nc (TG w g hh x y k) (alS nc cc (stn cf)) cc cf 512 0) ∧ ∀ c, c < nc → ((b.2.2.1 c, b.2.2.2.1 c, b.2.2.2.2.1 c, b.2.2.2.2.2 c) : Q4) = qd ro ns (TG w g hh x y k) (alS nc cc (stn cf)) cc cf cs cm cr c 512 0 := by
    refine iter0 (fun (s : Nat) (b : SA) => b.1 = nI (cn ns nc (TG w g hh x y k) (alS nc cc (stn cf)) cc cf s 0) ∧ b.2.1 = nI s ∧ ∀ c, c < nc → ((b.2.2.1 c, b.2.2.2.1 c, b.2.2.2.2.1 c, b.2.2.2.2.2 c) : Q4) = qd ro ns (TG w g hh x y k) (alS nc cc (stn cf)) cc cf cs cm cr c s 0)
      (fun (b : SA) => b.1 = nI (cn ns nc (TG w g hh x y k) (alS nc cc (stn cf)) cc cf 512 0) ∧ ∀ c, c < nc → ((b.2.2.1 c, b.2.2.2.1 c, b.2.2.2.2.1 c, b.2.2.2.2.2 c) : Q4) = qd ro ns (TG w g hh x y k) (alS nc cc (stn cf)) cc cf cs cm cr c 512 0) 512 _ (by decide) ⟨by rw [z0]; rfl, rfl, fun c hc => qd_0.1.symm⟩ (fun s a hs hI => Or.inl ?_) (fun a hI => ?_)
    · obtain ⟨c1, c2, c3, c4, c5, c6⟩ := a
      obtain ⟨e1, e2, e3⟩ := hI
      dsimp only at e1 e2 e3
      subst e1 e2
      obtain ⟨b, k1, k2, k3⟩ := cinner S hn hk hW hs c3 c4 c5 c6 e3 (nI (cn ns nc (TG w g hh x y k) (alS nc cc (stn cf)) cc cf s 0)) c3 c4 c5 c6
      unfold gX3_makeRound_9
      dsimp only
      rw [if_neg (c_ge (N := 512) (n := 512) rfl hs (by decide)), k1, bd_some]
      exact ⟨_, rfl, k2, nI1 s, k3⟩
    · obtain ⟨c1, c2, c3, c4, c5, c6⟩ := a
      obtain ⟨e1, e2, e3⟩ := hI
      dsimp only at e1 e2 e3
      subst e1 e2
      unfold gX3_makeRound_9
      dsimp only
      rw [if_pos (c_le (N := 512) (n := 512) rfl (Nat.le_refl _) (by decide))]
      exact ⟨_, rfl, rfl, e3⟩
  obtain ⟨b, hb, h1, h2⟩ := key
  have hle := fb_ct_le (fun c => dn ns (TG w g hh x y k) (alS nc cc (stn cf)) cc cf c 512 0) nc
  unfold fX3_makeRound
  rw [eW, bd_some, hb, bd_some, h1]
  refine ⟨b.2.2.1, b.2.2.2.1, b.2.2.2.2.1, b.2.2.2.2.2, W, ?_, h2⟩
  generalize hv : cn ns nc (TG w g hh x y k) (alS nc cc (stn cf)) cc cf 512 0 = v
  have hv2 : v ≤ nc := by rw [← hv]; exact hle
  by_cases h : v = 0
  · subst h; rw [if_pos (show nI 0 ≤ 0 by decide), if_pos rfl]
  · rw [if_neg (show ¬ nI v ≤ 0 from c_ge (n := v) (i := 0) rfl (by omega) (by omega)), if_neg h]
