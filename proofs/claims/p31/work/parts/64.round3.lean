theorem SOK.congr {t t' : Nat → Int32} {w : Int32} {g h x y k : Nat → Int32} {ns : Nat} (S : SOK t w g h x y k ns) (ht : ∀ j, j < 47 → ¬ j = 4 → ¬ j = 5 → ¬ j = 6 → t' j = t j) : SOK t' w g h x y k ns := by
  obtain ⟨h1, h2, h3, h4, h5⟩ := S
  refine ⟨h1, h2, by rw [ht 1 (by decide) (by decide) (by decide) (by decide), h3], by rw [ht 2 (by decide) (by decide) (by decide) (by decide), h4], fun i hi => ?_⟩
  obtain ⟨⟨q0, q1, q2, q3, q4⟩, q5, q6⟩ := h5 i hi
  refine ⟨⟨?_, ?_, ?_, ?_, ?_⟩, q5, q6⟩
  · rw [ht _ (by omega) (by omega) (by omega) (by omega)]; exact q0
  · rw [ht _ (by omega) (by omega) (by omega) (by omega)]; exact q1
  · rw [ht _ (by omega) (by omega) (by omega) (by omega)]; exact q2
  · rw [ht _ (by omega) (by omega) (by omega) (by omega)]; exact q3
  · rw [ht _ (by omega) (by omega) (by omega) (by omega)]; exact q4
theorem mstr11 {t : Nat → Int32} {w : Int32} {g h x y k cc : Nat → Int32} {ns c s : Nat} {A : Nat → Bool} {al : Nat → Int32} (S : SOK t w g h x y k ns) (ha : ∀ u, u < 512 → al u = b2i (A u)) (hc40 : c < 40) (hc : t (47 + 5 * c) = cc c) (hs : s < 512) (z : Nat → Int32) :
    (∃ e, iter (gX11_strikes_11 al (nI c) (nI s, z)) FU ((0 : Int32), t) = some (.inl (e, t)) ∧ hS ns (TG w g h x y k) A cc c s = none) ∨ (∃ i, i < ns ∧ iter (gX11_strikes_11 al (nI c) (nI s, z)) FU ((0 : Int32), t) = some (.inr (1, jrow t c (3, nI s, nI i, t 6 + 1))) ∧ hS ns (TG w g h x y k) A cc c s = some i) := by
  have h8 := S.1
  have h2 := S.2.2.2.1
  cases hA : A s with
  | false =>
    left
    refine ⟨0, iter_e ?_ (by decide), ffind_none (fun i _ => by unfold pr; rw [hA]; rfl)⟩
    unfold gX11_strikes_11
    dsimp only
    rw [gg2, gd_tr, ii2]
    by_cases hz : t 2 ≤ 0
    · rw [if_pos hz]
    · rw [if_neg hz, gd_nI hs (by decide), ixn (by omega), ha s hs, hA, if_pos (by decide)]
  | true =>
    have key := iter_ffG (g := gX11_strikes_11 al (nI c) (nI s, z)) (fun i => (nI i, t)) (pr (TG w g h x y k) A cc c s) (fun i => ((1 : Int32), jrow t c (3, nI s, nI i, t 6 + 1))) ns (nI ns, t) (by omega) (fun i hi hp => ?_) (fun i hi hp => ?_) ?_
    · rcases key with ⟨e, hf⟩ | ⟨i, hi, e, hf⟩
      · exact Or.inl ⟨_, e, hf⟩
      · exact Or.inr ⟨i, hi, e, hf⟩
    · unfold gX11_strikes_11
      dsimp only
      rw [gg2, gd_tr, ii2, if_neg (show ¬ t 2 ≤ nI i by rw [h2]; exact c_ge (n := ns) rfl hi (by omega)), gd_nI hs (by decide), ixn (by omega), ha s hs, hA, if_neg (by decide), nex_eq S hi hs, bd_some]
      cases e : TG w g h x y k i s with
      | none => rw [oN_none, if_pos rfl, nI1]
      | some u =>
        have hu := TG_lt S hi hs e
        unfold pr at hp
        rw [hA, e] at hp
        have hsat : sat (cc c) (nI u) = true := by simpa [esc] using hp
        rw [oN_some, if_neg (ne6 (by omega)), of_eq (j := 0) (J := 0) rfl hc40 (by decide), bd_some, Nat.add_zero, hc, isSo_sat, bd_some, hsat, if_neg (by decide), nI1]
    · unfold gX11_strikes_11
      dsimp only
      rw [gg2, gd_tr, ii2, if_neg (show ¬ t 2 ≤ nI i by rw [h2]; exact c_ge (n := ns) rfl hi (by omega)), gd_nI hs (by decide), ixn (by omega), ha s hs, hA, if_neg (by decide), nex_eq S hi hs, bd_some]
      unfold pr at hp
      rw [hA] at hp
      cases e : TG w g h x y k i s with
      | none => rw [e] at hp; exact absurd (show (true && false) = true from hp) (by decide)
      | some u =>
        have hu := TG_lt S hi hs e
        rw [e] at hp
        have hsat : sat (cc c) (nI u) = false := by simpa [esc] using hp
        rw [oN_some, if_neg (ne6 (by omega)), of_eq (j := 0) (J := 0) rfl hc40 (by decide), bd_some, Nat.add_zero, hc, isSo_sat, bd_some, hsat, if_pos (by decide), gg6, gd_tr, ii6, judges_eq _ hc40, bd_some]
    · unfold gX11_strikes_11
      dsimp only
      rw [gg2, gd_tr, ii2, if_pos (show t 2 ≤ nI ns by rw [h2]; exact c_le (n := ns) rfl (Nat.le_refl _) (by omega))]
theorem mstrikes {t : Nat → Int32} {w : Int32} {g h x y k cc : Nat → Int32} {ns c : Nat} {A : Nat → Bool} {al : Nat → Int32} (S : SOK t w g h x y k ns) (ha : ∀ u, u < 512 → al u = b2i (A u)) (hc40 : c < 40) (hc : t (47 + 5 * c) = cc c) :
    (fX11_strikes t al (nI c) = some (0, t) ∧ ffind 512 (fun s => (hS ns (TG w g h x y k) A cc c s).isSome) = none) ∨ (∃ s, fX11_strikes t al (nI c) = some (1, jrow t c (3, nI s, oN (hS ns (TG w g h x y k) A cc c s), t 6 + 1)) ∧ ffind 512 (fun s => (hS ns (TG w g h x y k) A cc c s).isSome) = some s) := by
  have key := iter_ffG (g := gX11_strikes_2 al (nI c)) (fun s => (nI s, t)) (fun s => (hS ns (TG w g h x y k) A cc c s).isSome) (fun s => ((1 : Int32), jrow t c (3, nI s, oN (hS ns (TG w g h x y k) A cc c s), t 6 + 1))) 512 (nI 512, t) (by decide) (fun s hs hp => ?_) (fun s hs hp => ?_) ?_
  · have e0 : fX11_strikes t al (nI c) = bd (iter (gX11_strikes_2 al (nI c)) FU (nI 0, t)) fun b_2 : (Int32 × (Nat → Int32)) ⊕ (Int32 × (Nat → Int32)) => Sum.elim (fun e_2 : Int32 × (Nat → Int32) => some ((0 : Int32), e_2.2)) (fun o_2 : Int32 × (Nat → Int32) => some o_2) b_2 := rfl
    rw [e0]
    rcases key with ⟨e, hf⟩ | ⟨s, hs, e, hf⟩
    · left; rw [e, bd_some, se_l]; exact ⟨rfl, hf⟩
    · right; exact ⟨s, by rw [e, bd_some, se_r], hf⟩
  · unfold gX11_strikes_2
    dsimp only
    rw [if_neg (c_ge (N := 512) (n := 512) rfl hs (by decide))]
    rcases mstr11 S ha hc40 hc hs t with ⟨e, q, -⟩ | ⟨i, hi, -, q⟩
    · rw [q, bd_some, se_l, nI1]
    · rw [q] at hp; exact absurd hp (by simp)
  · unfold gX11_strikes_2
    dsimp only
    rw [if_neg (c_ge (N := 512) (n := 512) rfl hs (by decide))]
    rcases mstr11 S ha hc40 hc hs t with ⟨e, -, q⟩ | ⟨i, hi, q, q2⟩
    · rw [q] at hp; exact absurd hp (by simp)
    · rw [q, bd_some, se_r, q2]; rfl
  · unfold gX11_strikes_2
    dsimp only
    rw [if_pos (c_le (N := 512) (n := 512) rfl (Nat.le_refl _) (by decide))]
theorem qd_end {ro : Int32} {ns : Nat} {T : Nat → Nat → Option Nat} {A : Nat → Bool} {cc cf cs cm cr : Nat → Int32} {c : Nat} :
    (stn cf c = true → ffind 512 (fun s => (hS ns T A cc c s).isSome) = none → dn ns T A cc cf c 512 0 = false) ∧ (∀ s, stn cf c = true → ffind 512 (fun s => (hS ns T A cc c s).isSome) = some s → dn ns T A cc cf c 512 0 = true ∧ qd ro ns T A cc cf cs cm cr c 512 0 = (3, nI s, oN (hS ns T A cc c s), ro + 1)) ∧ (stn cf c = false → dn ns T A cc cf c 512 0 = false) := by
  refine ⟨fun h1 h2 => ?_, fun s h1 h2 => ?_, fun h1 => ?_⟩
  · unfold dn; rw [h1, h2, ffind_z]; rfl
  · unfold dn qd
    rw [h1, h2, if_pos rfl]
    exact ⟨rfl, rfl⟩
  · unfold dn; rw [h1]; rfl
/-- a round of the model -/
theorem mround {t : Nat → Int32} {w ro : Int32} {g hh x y k cc cf cs cm cr : Nat → Int32} {ns nc : Nat} (S : SOK t w g hh x y k ns) (C : COK t cc cf cs cm cr nc) (h6 : t 6 = ro) (al : Nat → Int32) :
    ∃ t' al', fX11_round t al = some (nI (cn ns nc (TG w g hh x y k) (alS nc cc (stn cf)) cc cf 512 0), t', al') ∧ t' 6 = (if cn ns nc (TG w g hh x y k) (alS nc cc (stn cf)) cc cf 512 0 = 0 then ro else ro + 1) ∧ (∀ j, (j < 47 ∨ 247 ≤ j) → ¬ j = 6 → t' j = t j) ∧ ∀ d, d < nc → t' (47 + 5 * d) = cc d ∧ ((t' (47 + 5 * d + 1), t' (47 + 5 * d + 2), t' (47 + 5 * d + 3), t' (47 + 5 * d + 4)) : Q4) = qd ro ns (TG w g hh x y k) (alS nc cc (stn cf)) cc cf cs cm cr d 512 0 := by
  obtain ⟨U, eU, hU⟩ := mstand_eq C
  obtain ⟨a, ea, ha0⟩ := C.lays U al
  have ha : ∀ u, u < 512 → a u = b2i (alS nc cc (stn cf) u) := fun u hu => by rw [ha0 u hu, alS_congr (S := lb U) (S' := stn cf) (fun c hc => SB_lb hU C.1 hc)]
  obtain ⟨hn, h3, hC⟩ := C
  have key : ∃ b : Int32 × Int32 × (Nat → Int32), iter (gX11_round_12 a) FU ((0 : Int32), (0 : Int32), t) = some b ∧ b.1 = nI (cn ns nc (TG w g hh x y k) (alS nc cc (stn cf)) cc cf 512 0) ∧ (∀ j, (j < 47 ∨ 247 ≤ j) → b.2.2 j = t j) ∧ ∀ d, d < nc → b.2.2 (47 + 5 * d) = cc d ∧ ((b.2.2 (47 + 5 * d + 1), b.2.2 (47 + 5 * d + 2), b.2.2 (47 + 5 * d + 3), b.2.2 (47 + 5 * d + 4)) : Q4) = qd ro ns (TG w g hh x y k) (alS nc cc (stn cf)) cc cf cs cm cr d 512 0 := by
    refine iter0 (fun (c : Nat) (b : Int32 × Int32 × (Nat → Int32)) => b.1 = nI (fb_ct (fun d => dn ns (TG w g hh x y k) (alS nc cc (stn cf)) cc cf d 512 0) c) ∧ b.2.1 = nI c ∧ (∀ j, (j < 47 ∨ 247 ≤ j) → b.2.2 j = t j) ∧ ∀ d, d < nc → b.2.2 (47 + 5 * d) = cc d ∧ ((b.2.2 (47 + 5 * d + 1), b.2.2 (47 + 5 * d + 2), b.2.2 (47 + 5 * d + 3), b.2.2 (47 + 5 * d + 4)) : Q4) = if d < c then qd ro ns (TG w g hh x y k) (alS nc cc (stn cf)) cc cf cs cm cr d 512 0 else (cf d, cs d, cm d, cr d))
      (fun (b : Int32 × Int32 × (Nat → Int32)) => b.1 = nI (cn ns nc (TG w g hh x y k) (alS nc cc (stn cf)) cc cf 512 0) ∧ (∀ j, (j < 47 ∨ 247 ≤ j) → b.2.2 j = t j) ∧ ∀ d, d < nc → b.2.2 (47 + 5 * d) = cc d ∧ ((b.2.2 (47 + 5 * d + 1), b.2.2 (47 + 5 * d + 2), b.2.2 (47 + 5 * d + 3), b.2.2 (47 + 5 * d + 4)) : Q4) = qd ro ns (TG w g hh x y k) (alS nc cc (stn cf)) cc cf cs cm cr d 512 0) nc _ (by omega) ⟨rfl, rfl, fun j _ => rfl, fun d hd => by
        obtain ⟨⟨q0, q1, q2, q3, q4⟩, -⟩ := hC d hd
        rw [if_neg (Nat.not_lt_zero _)]
        exact ⟨q0, by dsimp only; rw [q1, q2, q3, q4]⟩⟩ (fun c b hc hI => Or.inl ?_) (fun b hI => ?_)
    · obtain ⟨b1, b2, b3⟩ := b
      obtain ⟨e1, e2, e3, e4⟩ := hI
      dsimp only at e1 e2 e3 e4
      subst e1 e2
      obtain ⟨f0, f1⟩ := e4 c hc
      rw [if_neg (Nat.lt_irrefl _), Prod.mk.injEq] at f1
      have q3 : b3 3 = nI nc := by rw [e3 3 (Or.inl (by decide)), h3]
      have q6 : b3 6 = ro := by rw [e3 6 (Or.inl (by decide)), h6]
      have S' : SOK b3 w g hh x y k ns := S.congr (fun j hj _ _ _ => e3 j (Or.inl hj))
      unfold gX11_round_12
      dsimp only
      rw [gg3, gd_tr, ii3, if_neg (show ¬ b3 3 ≤ nI c by rw [q3]; exact c_ge (n := nc) rfl hc (by omega)), of_eq (j := 1) (J := 1) rfl (by omega) (by decide), bd_some, f1.1, fb_ct_succ]
      have keep : ∀ d, d < nc → qd ro ns (TG w g hh x y k) (alS nc cc (stn cf)) cc cf cs cm cr c 512 0 = (cf c, cs c, cm c, cr c) → b3 (47 + 5 * d) = cc d ∧ ((b3 (47 + 5 * d + 1), b3 (47 + 5 * d + 2), b3 (47 + 5 * d + 3), b3 (47 + 5 * d + 4)) : Q4) = if d < c + 1 then qd ro ns (TG w g hh x y k) (alS nc cc (stn cf)) cc cf cs cm cr d 512 0 else (cf d, cs d, cm d, cr d) := fun d hd hq => by
        refine ⟨(e4 d hd).1, ?_⟩
        rw [(e4 d hd).2]
        by_cases q : d = c
        · subst q; rw [if_neg (Nat.lt_irrefl _), if_pos (Nat.lt_succ_self _), hq]
        · have : (d < c) = (d < c + 1) := by simp only [eq_iff_iff]; omega
          simp only [this]
      by_cases hf : cf c = 0
      · have hst : stn cf c = true := by simp [stn, hf]
        rw [if_pos hf]
        rcases mstrikes S' ha (show c < 40 by omega) f0 with ⟨k1, k2⟩ | ⟨s, k1, k2⟩
        · have hd := qd_end (ro := ro) (cs := cs) (cm := cm) (cr := cr) |>.1 hst k2
          rw [k1, bd_some, if_pos rfl, hd, Int32.add_zero]
          exact ⟨_, rfl, by simp, nI1 c, e3, fun d hd' => keep d hd' (qd_not hd)⟩
        · obtain ⟨hd, hq⟩ := qd_end (ro := ro) (cs := cs) (cm := cm) (cr := cr) |>.2.1 s hst k2
          rw [k1, bd_some, if_neg (show ¬ (1 : Int32) = 0 from i0ne1), hd]
          refine ⟨_, rfl, by dsimp only; rw [nI1]; rfl, nI1 c, fun j hj => ?_, fun d hd' => ?_⟩
          · dsimp only; rw [jrow_o (by omega)]; exact e3 j hj
          · dsimp only
            by_cases q : d = c
            · subst q
              rw [if_pos (Nat.lt_succ_self _), hq, q6]
              refine ⟨by rw [jrow_o (by omega)]; exact f0, ?_⟩
              unfold jrow
              rw [if_neg (by omega), if_neg (by omega), if_neg (by omega), if_pos rfl, if_neg (by omega), if_neg (by omega), if_pos rfl, if_neg (by omega), if_pos rfl, if_pos rfl]
            · rw [jrow_o (by omega), jrow_o (by omega), jrow_o (by omega), jrow_o (by omega), jrow_o (by omega)]
              refine ⟨(e4 d hd').1, ?_⟩
              rw [(e4 d hd').2]
              have : (d < c) = (d < c + 1) := by simp only [eq_iff_iff]; omega
              simp only [this]
      · have hst : stn cf c = false := by simp [stn, hf]
        have hd := qd_end (ro := ro) (ns := ns) (T := TG w g hh x y k) (A := alS nc cc (stn cf)) (cc := cc) (cs := cs) (cm := cm) (cr := cr) |>.2.2 hst
        rw [if_neg hf, hd, Int32.add_zero]
        exact ⟨_, rfl, by simp, nI1 c, e3, fun d hd' => keep d hd' (qd_not hd)⟩
    · obtain ⟨b1, b2, b3⟩ := b
      obtain ⟨e1, e2, e3, e4⟩ := hI
      dsimp only at e1 e2 e3 e4
      subst e1 e2
      have q3 : b3 3 = nI nc := by rw [e3 3 (Or.inl (by decide)), h3]
      unfold gX11_round_12
      dsimp only
      rw [gg3, gd_tr, ii3, if_pos (show b3 3 ≤ nI nc by rw [q3]; exact c_le (n := nc) rfl (Nat.le_refl _) (by omega))]
      refine ⟨_, rfl, rfl, e3, fun d hd => ?_⟩
      have := e4 d hd
      rw [if_pos hd] at this
      exact this
  obtain ⟨b, hb, p1, p2, p3⟩ := key
  have hle := fb_ct_le (fun c => dn ns (TG w g hh x y k) (alS nc cc (stn cf)) cc cf c 512 0) nc
  have q6 : b.2.2 6 = ro := by rw [p2 6 (Or.inl (by decide)), h6]
  unfold fX11_round
  rw [eU, bd_some, ea, bd_some, hb, bd_some, gg6, gd_tr, gd_tr, gd_tr, ii6, q6, p1]
  generalize hv : cn ns nc (TG w g hh x y k) (alS nc cc (stn cf)) cc cf 512 0 = v
  have hv2 : v ≤ nc := by rw [← hv]; exact hle
  have fin : ∀ (q : Int32), (∀ j, (j < 47 ∨ 247 ≤ j) → ¬ j = 6 → upd b.2.2 6 q j = t j) ∧ ∀ d, d < nc → upd b.2.2 6 q (47 + 5 * d) = cc d ∧ ((upd b.2.2 6 q (47 + 5 * d + 1), upd b.2.2 6 q (47 + 5 * d + 2), upd b.2.2 6 q (47 + 5 * d + 3), upd b.2.2 6 q (47 + 5 * d + 4)) : Q4) = qd ro ns (TG w g hh x y k) (alS nc cc (stn cf)) cc cf cs cm cr d 512 0 := fun q => ⟨fun j hj hj6 => by rw [upd_o hj6, p2 j hj], fun d hd => by
    rw [upd_o (by omega), upd_o (by omega), upd_o (by omega), upd_o (by omega), upd_o (by omega)]; exact p3 d hd⟩
  by_cases h : v = 0
  · subst h
    rw [if_pos (show nI 0 ≤ 0 by decide), if_pos rfl, Int32.add_zero]
    exact ⟨_, a, rfl, upd_s, fin ro⟩
  · rw [if_neg (show ¬ nI v ≤ 0 from c_ge (n := v) (i := 0) rfl (by omega) (by omega)), if_neg h]
    exact ⟨_, a, rfl, upd_s, fin (ro + 1)⟩
