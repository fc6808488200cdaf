/-! ===== a loop with a flag ===== -/
theorem iter_flag {g : Int32 × Int32 → Option ((Int32 × Int32) ⊕ (Int32 × Int32))} (f0 f1 : Int32) (P : Nat → Bool) (n : Nat) (hn : n < 100000)
    (h1 : ∀ i, i < n → P i = false → g (f0, nI i) = some (.inl (f0, nI (i + 1)))) (h2 : ∀ i, i < n → P i = true → g (f0, nI i) = some (.inl (f1, nI (i + 1))))
    (h0 : ∀ i, i ≤ n → (∃ e, g (f1, nI i) = some (.inr (f1, e))) ∨ (i < n ∧ g (f1, nI i) = some (.inl (f1, nI (i + 1))))) (h3 : ∃ e, g (f0, nI n) = some (.inr (f0, e))) :
    ∃ e, iter g FU (f0, (0 : Int32)) = some (if (ffind n P).isNone = true then f0 else f1, e) := by
  have key : ∃ b, iter g FU (f0, (0 : Int32)) = some b ∧ b.1 = (if (ffind n P).isNone = true then f0 else f1) := by
    refine iter0 (fun (i : Nat) (a : Int32 × Int32) => a.2 = nI i ∧ ((a.1 = f0 ∧ ∀ u, u < i → P u = false) ∨ (a.1 = f1 ∧ (ffind n P).isNone = false))) (fun (b : Int32 × Int32) => b.1 = (if (ffind n P).isNone = true then f0 else f1)) n _ hn ⟨rfl, Or.inl ⟨rfl, fun u hu => absurd hu (Nat.not_lt_zero _)⟩⟩ (fun i a hi hI => ?_) (fun a hI => ?_)
    · obtain ⟨x, y⟩ := a
      obtain ⟨e, h⟩ := hI
      dsimp only at e h
      subst e
      rcases h with ⟨rfl, h⟩ | ⟨rfl, h⟩
      · cases hp : P i with
        | false =>
          refine Or.inl ⟨_, h1 i hi hp, rfl, Or.inl ⟨rfl, fun u hu => ?_⟩⟩
          by_cases c : u = i
          · subst c; exact hp
          · exact h u (by omega)
        | true =>
          refine Or.inl ⟨_, h2 i hi hp, rfl, Or.inr ⟨rfl, ?_⟩⟩
          rw [ffind_some hi hp h]; rfl
      · rcases h0 i (by omega) with ⟨e, q⟩ | ⟨_, q⟩
        · exact Or.inr ⟨_, q, by dsimp only; rw [if_neg (by rw [h]; decide)]⟩
        · exact Or.inl ⟨_, q, rfl, Or.inr ⟨rfl, h⟩⟩
    · obtain ⟨x, y⟩ := a
      obtain ⟨e, h⟩ := hI
      dsimp only at e h
      subst e
      rcases h with ⟨rfl, h⟩ | ⟨rfl, h⟩
      · obtain ⟨e, q⟩ := h3
        exact ⟨_, q, by dsimp only; rw [if_pos (by rw [ffind_none h]; rfl)]⟩
      · rcases h0 n (Nat.le_refl _) with ⟨e, q⟩ | ⟨q, _⟩
        · exact ⟨_, q, by dsimp only; rw [if_neg (by rw [h]; decide)]⟩
        · exact absurd q (Nat.lt_irrefl _)
  obtain ⟨⟨b, e⟩, hb, hp⟩ := key
  exact ⟨e, by rw [hb]; dsimp only at hp; rw [hp]⟩
theorem fl_10 (b : Bool) : (if b = true then (1 : Int32) else 0) = b2i b := rfl
theorem fl_01 (b : Bool) : (if b = true then (0 : Int32) else 1) = b2i (!b) := by cases b <;> rfl
theorem nar_b (v : Bool) : vp_nar .boolean (b2i v) = b2i v := by cases v <;> decide
theorem b2i_ne {b : Bool} : ¬ b2i b = 0 ↔ b = true := by cases b <;> simp [b2i]
/-! ===== candidates that stand; states in which all of a set hold ===== -/
def stn (f : Nat → Int32) (c : Nat) : Bool := decide (f c = 0)
def alS (nc : Nat) (cc : Nat → Int32) (S : Nat → Bool) (s : Nat) : Bool := (ffind nc (fun c => S c && !sat (cc c) (nI s))).isNone
theorem alS_congr {nc : Nat} {cc : Nat → Int32} {S S' : Nat → Bool} {s : Nat} (h : ∀ c, c < nc → S c = S' c) : alS nc cc S s = alS nc cc S' s := by
  unfold alS
  rw [ffind_congr (fun u hu => by rw [h u hu])]
theorem alS_t {nc : Nat} {cc : Nat → Int32} {S : Nat → Bool} {s : Nat} : alS nc cc S s = true ↔ ∀ c, c < nc → S c = true → sat (cc c) (nI s) = true := by
  unfold alS
  rw [Option.isNone_iff_eq_none, ffind_n]
  constructor
  · intro h c hc hS
    have := h c hc
    rw [hS] at this
    simpa using this
  · intro h c hc
    cases hS : S c with
    | false => rfl
    | true => rw [h c hc hS]; rfl
def COK (t cc cf cs cm cr : Nat → Int32) (nc : Nat) : Prop := nc ≤ 40 ∧ t 3 = nI nc ∧ ∀ c, c < nc → CRel t cc cf cs cm cr c ∧ ∃ k : Nat, k < 1350 ∧ cc c = nI k
def SB (w : Int64) (nc : Nat) (f : Nat → Int32) : Prop := ∀ u, u < 64 → lb w u = (decide (u < nc) && stn f u)
theorem SB_lb {w : Int64} {nc : Nat} {f : Nat → Int32} (h : SB w nc f) (hn : nc ≤ 40) {c : Nat} (hc : c < nc) : lb w c = stn f c := by
  rw [h c (by omega)]; simp [hc]
theorem fstand_eq {nc : Nat} (hn : nc ≤ 40) (f : Nat → Int32) : ∃ w, fX0_findStanding (nI nc) f = some w ∧ SB w nc f := by
  have key : ∃ b, iter (gX0_findStanding_4 (nI nc) f) FU ((0 : Int64), (0 : Int32)) = some b ∧ SB b.1 nc f := by
    refine iter0 (fun (i : Nat) (a : Int64 × Int32) => a.2 = nI i ∧ SB a.1 i f) (fun (b : Int64 × Int32) => SB b.1 nc f) nc _ (by omega) ⟨rfl, fun u hu => by rw [lb_0]; rfl⟩ (fun i a hi hI => Or.inl ?_) (fun a hI => ?_)
    · obtain ⟨x, y⟩ := a
      obtain ⟨e, h⟩ := hI
      dsimp only at e h
      subst e
      unfold gX0_findStanding_4
      dsimp only
      rw [if_neg (c_ge (n := nc) rfl hi (by omega)), gd_nI (show i < 40 by omega) (by decide), ixn (by omega)]
      by_cases hf : f i = 0
      · rw [if_pos hf]
        refine ⟨_, rfl, nI1 i, fun u hu => ?_⟩
        dsimp only
        rw [lb_put (by omega), h u hu]
        by_cases c : u = i
        · subst c
          simp [stn, hf]
        · have : (u < i) = (u < i + 1) := by simp only [eq_iff_iff]; omega
          simp [c, this]
      · rw [if_neg hf]
        refine ⟨_, rfl, nI1 i, fun u hu => ?_⟩
        dsimp only
        rw [h u hu]
        by_cases c : u = i
        · subst c
          simp [stn, hf]
        · have : (u < i) = (u < i + 1) := by simp only [eq_iff_iff]; omega
          simp [this]
    · obtain ⟨x, y⟩ := a
      obtain ⟨e, h⟩ := hI
      dsimp only at e h
      subst e
      unfold gX0_findStanding_4
      dsimp only
      rw [if_pos (c_le (n := nc) rfl (Nat.le_refl _) (by omega))]
      exact ⟨_, rfl, h⟩
  obtain ⟨b, hb, hp⟩ := key
  unfold fX0_findStanding
  rw [hb, bd_some]
  exact ⟨_, rfl, hp⟩
theorem mstand_eq {t cc cf cs cm cr : Nat → Int32} {nc : Nat} (C : COK t cc cf cs cm cr nc) : ∃ w, fX11_standing t = some w ∧ SB w nc cf := by
  obtain ⟨hn, h3, hC⟩ := C
  have key : ∃ b, iter (gX11_standing_4 t) FU ((0 : Int64), (0 : Int32)) = some b ∧ SB b.1 nc cf := by
    refine iter0 (fun (i : Nat) (a : Int64 × Int32) => a.2 = nI i ∧ SB a.1 i cf) (fun (b : Int64 × Int32) => SB b.1 nc cf) nc _ (by omega) ⟨rfl, fun u hu => by rw [lb_0]; rfl⟩ (fun i a hi hI => Or.inl ?_) (fun a hI => ?_)
    · obtain ⟨x, y⟩ := a
      obtain ⟨e, h⟩ := hI
      dsimp only at e h
      subst e
      unfold gX11_standing_4
      dsimp only
      rw [gg3, gd_tr, ii3, h3, if_neg (c_ge (n := nc) rfl hi (by omega)), of_eq (j := 1) (J := 1) rfl (by omega) (by decide), bd_some, (hC i hi).1.2.1]
      by_cases hf : cf i = 0
      · rw [if_pos hf]
        refine ⟨_, rfl, nI1 i, fun u hu => ?_⟩
        dsimp only
        rw [lb_put (by omega), h u hu]
        by_cases c : u = i
        · subst c
          simp [stn, hf]
        · have : (u < i) = (u < i + 1) := by simp only [eq_iff_iff]; omega
          simp [c, this]
      · rw [if_neg hf]
        refine ⟨_, rfl, nI1 i, fun u hu => ?_⟩
        dsimp only
        rw [lb_or, lb_0, Bool.or_false, h u hu]
        by_cases c : u = i
        · subst c
          simp [stn, hf]
        · have : (u < i) = (u < i + 1) := by simp only [eq_iff_iff]; omega
          simp [this]
    · obtain ⟨x, y⟩ := a
      obtain ⟨e, h⟩ := hI
      dsimp only at e h
      subst e
      unfold gX11_standing_4
      dsimp only
      rw [gg3, gd_tr, ii3, h3, if_pos (c_le (n := nc) rfl (Nat.le_refl _) (by omega))]
      exact ⟨_, rfl, h⟩
  obtain ⟨b, hb, hp⟩ := key
  unfold fX11_standing
  rw [hb, bd_some]
  exact ⟨_, rfl, hp⟩
theorem stand_both {t cc cf cs cm cr : Nat → Int32} {nc : Nat} (C : COK t cc cf cs cm cr nc) : ∃ w, fX0_findStanding (nI nc) cf = some w ∧ fX11_standing t = some w ∧ SB w nc cf := by
  obtain ⟨w, e, h⟩ := fstand_eq C.1 cf
  obtain ⟨w', e', h'⟩ := mstand_eq C
  have : w' = w := lb_ext (fun u hu => by rw [h u hu, h' u hu])
  subst this
  exact ⟨_, e, e', h⟩
theorem cstand_eq {t cc cf cs cm cr : Nat → Int32} {nc : Nat} (C : COK t cc cf cs cm cr nc) : ∃ v : Nat, v ≤ 40 ∧ fX0_countStanding (nI nc) cf = some (nI v) ∧ ∃ w, fX11_standing t = some w ∧ fX11_size w = some (nI v) := by
  obtain ⟨w, e, e', h⟩ := stand_both C
  have hz : fb_ct (lb w) 64 = fb_ct (lb w) 40 := by
    have hz : fb_ct (fun k => lb w (40 + k)) 24 = 0 := fb_ct_zero.mpr (fun k hk => by
      rw [h _ (by omega)]
      have : ¬ 40 + k < nc := by have := C.1; omega
      simp [this])
    rw [show fb_ct (lb w) 64 = fb_ct (lb w) (40 + 24) from rfl, fb_ct_split, hz, Nat.add_zero]
  refine ⟨fb_ct (lb w) 40, fb_ct_le _ _, ?_, w, e', size_eq w⟩
  unfold fX0_countStanding
  rw [e, bd_some, bitCount_eq, bd_some, hz]
theorem against0_eq {cc cf : Nat → Int32} {c : Nat} (hc : c < 40) (hk : ∃ k : Nat, k < 1350 ∧ cc c = nI k) (s : Int32) : fX0_standsAgainst cc cf (nI c) s = some (b2i (stn cf c && !sat (cc c) s)) := by
  obtain ⟨k, hk, e⟩ := hk
  unfold fX0_standsAgainst
  rw [gd_nI hc (by decide), gd_nI hc (by decide), ixn (by omega), e, isMet_sat hk, bd_some]
  unfold stn
  by_cases hf : cf c = 0
  · rw [if_pos hf]
    cases sat (nI k) s <;> simp [b2i, hf]
  · rw [if_neg hf]
    simp [b2i, hf]
theorem allow_eq {cc cf : Nat → Int32} {nc : Nat} (hn : nc ≤ 40) (hk : ∀ c, c < nc → ∃ k : Nat, k < 1350 ∧ cc c = nI k) (s : Nat) : fX0_allow (nI nc) cc cf (nI s) = some (b2i (alS nc cc (stn cf) s)) := by
  have key := iter_ff (g := gX0_allow_2 (nI nc) cc cf (nI s)) (fun c => stn cf c && !sat (cc c) (nI s)) (fun _ => (0 : Int32)) nc (by omega) (fun i hi hp => ?_) (fun i hi hp => ?_) ?_
  · unfold fX0_allow alS
    rcases key with ⟨e, h, hf⟩ | ⟨i, hi, h, hf⟩
    · rw [h, bd_some, se_l, hf]; rfl
    · rw [h, bd_some, se_r, hf]; rfl
  · obtain ⟨k, hk, e⟩ := hk i hi
    unfold gX0_allow_2
    rw [if_neg (c_ge (n := nc) rfl hi (by omega)), gd_nI (show i < 40 by omega) (by decide), gd_nI (show i < 40 by omega) (by decide), ixn (by omega), e, isMet_sat hk, bd_some, nI1]
    try dsimp only at hp
    rw [e] at hp
    by_cases hf : cf i = 0
    · have : sat (nI k) (nI s) = true := by simpa [stn, hf] using hp
      rw [if_pos hf, this, if_neg (by decide)]
    · rw [if_neg hf]
  · obtain ⟨k, hk, e⟩ := hk i hi
    unfold gX0_allow_2
    rw [if_neg (c_ge (n := nc) rfl hi (by omega)), gd_nI (show i < 40 by omega) (by decide), gd_nI (show i < 40 by omega) (by decide), ixn (by omega), e, isMet_sat hk, bd_some]
    try dsimp only at hp
    rw [e] at hp
    have hf : cf i = 0 := by
      by_cases hf : cf i = 0
      · exact hf
      · simp [stn, hf] at hp
    have : sat (nI k) (nI s) = false := by simpa [stn, hf] using hp
    rw [if_pos hf, this, if_pos (by decide)]
  · unfold gX0_allow_2
    exact ⟨_, by rw [if_pos (c_le (n := nc) rfl (Nat.le_refl _) (by omega))]⟩
theorem nextMiss_eq {cc cf : Nat → Int32} {nc i0 : Nat} (hn : nc ≤ 40) (hi0 : i0 ≤ nc) (hk : ∀ c, c < nc → ∃ k : Nat, k < 1350 ∧ cc c = nI k) (s : Nat) :
    (fX0_nextMiss (nI nc) cc cf (nI s) (nI i0) = some (nI nc) ∧ ∀ u, i0 ≤ u → u < nc → (stn cf u && !sat (cc u) (nI s)) = false) ∨ (∃ i, fX0_nextMiss (nI nc) cc cf (nI s) (nI i0) = some (nI i) ∧ i0 ≤ i ∧ i < nc ∧ (stn cf i && !sat (cc i) (nI s)) = true ∧ ∀ u, i0 ≤ u → u < i → (stn cf u && !sat (cc u) (nI s)) = false) := by
  have key := iter_find (g := gX0_nextMiss_2 (nI nc) cc cf (nI s)) (fun c => stn cf c && !sat (cc c) (nI s)) (fun i => nI i) nc i0 (by omega) hi0 (fun i _ hi hp => ?_) (fun i _ hi hp => ?_) ?_
  · unfold fX0_nextMiss
    rcases key with ⟨e, h, hf⟩ | ⟨i, h, hf⟩
    · rw [h, bd_some, se_l]; exact Or.inl ⟨rfl, hf⟩
    · rw [h, bd_some, se_r]; exact Or.inr ⟨i, rfl, hf⟩
  · unfold gX0_nextMiss_2
    try dsimp only at hp
    rw [if_neg (c_ge (n := nc) rfl hi (by omega)), against0_eq (by omega) (hk i hi), bd_some, hp, if_pos (by decide), nI1]
  · unfold gX0_nextMiss_2
    try dsimp only at hp
    rw [if_neg (c_ge (n := nc) rfl hi (by omega)), against0_eq (by omega) (hk i hi), bd_some, hp, if_neg (by decide)]
  · unfold gX0_nextMiss_2
    exact ⟨_, by rw [if_pos (c_le (n := nc) rfl (Nat.le_refl _) (by omega))]⟩
theorem areSo_eq {t cc : Nat → Int32} {nc : Nat} (hn : nc ≤ 40) (h3 : t 3 = nI nc) (hc : ∀ c, c < nc → t (47 + 5 * c) = cc c) (w : Int64) (s : Nat) : fX11_areSo t w (nI s) = some (b2i (alS nc cc (lb w) s)) := by
  have key := iter_flag (g := gX11_areSo_6 t w (nI s)) 1 0 (fun c => lb w c && !sat (cc c) (nI s)) nc (by omega) (fun i hi hp => ?_) (fun i hi hp => ?_) (fun i hi => ?_) ?_
  · obtain ⟨e, key⟩ := key
    unfold fX11_areSo
    rw [key, bd_some, fl_10, isB_b2i, gd_tr]
    rfl
  · unfold gX11_areSo_6
    dsimp only at hp ⊢
    rw [gg3, gd_tr, ii3, h3, if_neg (c_ge (n := nc) rfl hi (by omega)), if_neg i0ne1, has_lb w (by omega), bd_some, of_eq (j := 0) (J := 0) rfl (by omega) (by decide), Nat.add_zero, hc i hi, nI1]
    cases hw : lb w i with
    | false => rw [if_pos (by decide)]
    | true =>
      have : sat (cc i) (nI s) = true := by simpa [hw] using hp
      rw [if_neg (by decide), bd_some, isSo_sat, bd_some, this, if_neg (by decide)]
  · unfold gX11_areSo_6
    dsimp only at hp ⊢
    have hw : lb w i = true := by cases hw : lb w i <;> simp [hw] at hp ⊢
    have hs : sat (cc i) (nI s) = false := by simpa [hw] using hp
    rw [gg3, gd_tr, ii3, h3, if_neg (c_ge (n := nc) rfl hi (by omega)), if_neg i0ne1, has_lb w (by omega), bd_some, of_eq (j := 0) (J := 0) rfl (by omega) (by decide), Nat.add_zero, hc i hi, nI1, hw, if_neg (by decide), bd_some, isSo_sat, bd_some, hs, if_pos (by decide)]
  · left
    unfold gX11_areSo_6
    dsimp only
    rw [gg3, gd_tr]
    by_cases q : t (ix 3) ≤ nI i
    · exact ⟨_, by rw [if_pos q]⟩
    · exact ⟨_, by rw [if_neg q, if_pos rfl]⟩
  · unfold gX11_areSo_6
    dsimp only
    exact ⟨_, by rw [gg3, gd_tr, ii3, h3, if_pos (c_le (n := nc) rfl (Nat.le_refl _) (by omega))]⟩
theorem COK.are {t cc cf cs cm cr : Nat → Int32} {nc : Nat} (C : COK t cc cf cs cm cr nc) (w : Int64) (s : Nat) : fX11_areSo t w (nI s) = some (b2i (alS nc cc (lb w) s)) := areSo_eq C.1 C.2.1 (fun c hc => (C.2.2 c hc).1.1) w s
theorem findAllowed_eq {cc cf : Nat → Int32} {nc : Nat} (hn : nc ≤ 40) (hk : ∀ c, c < nc → ∃ k : Nat, k < 1350 ∧ cc c = nI k) (ow : Nat → Int64) : ∃ w, fX3_findAllowed (nI nc) cc cf ow = some w ∧ ∀ u, u < 512 → mem w u = alS nc cc (stn cf) u := by
  obtain ⟨w0, e0, h0⟩ := clear_eq ow
  have key : ∃ b, iter (gX3_findAllowed_6 (nI nc) cc cf) FU ((0 : Int32), w0) = some b ∧ ∀ u, u < 512 → mem b.2 u = alS nc cc (stn cf) u := by
    refine iter0 (fun (i : Nat) (a : Int32 × (Nat → Int64)) => a.1 = nI i ∧ ∀ u, u < 512 → mem a.2 u = (decide (u < i) && alS nc cc (stn cf) u)) (fun (b : Int32 × (Nat → Int64)) => ∀ u, u < 512 → mem b.2 u = alS nc cc (stn cf) u) 512 _ (by decide) ⟨rfl, fun u hu => by dsimp only; rw [h0 u hu]; simp⟩ (fun i a hi hI => Or.inl ?_) (fun a hI => ?_)
    · obtain ⟨x, w⟩ := a
      obtain ⟨e, h⟩ := hI
      dsimp only at e h
      subst e
      unfold gX3_findAllowed_6
      dsimp only
      rw [if_neg (c_ge (N := 512) (n := 512) rfl hi (by decide)), allow_eq hn hk, bd_some]
      cases ha : alS nc cc (stn cf) i with
      | false =>
        rw [if_pos (by decide)]
        refine ⟨_, rfl, nI1 i, fun u hu => ?_⟩
        dsimp only
        rw [h u hu]
        by_cases c : u = i
        · subst c; simp [ha]
        · have : (u < i) = (u < i + 1) := by simp only [eq_iff_iff]; omega
          simp [this]
      | true =>
        obtain ⟨w', e', h'⟩ := add_eq w hi
        rw [if_neg (by decide), e', bd_some]
        refine ⟨_, rfl, nI1 i, fun u hu => ?_⟩
        dsimp only
        rw [h' u hu, h u hu]
        by_cases c : u = i
        · subst c; simp [ha]
        · have : (u < i) = (u < i + 1) := by simp only [eq_iff_iff]; omega
          simp [this, c]
    · obtain ⟨x, w⟩ := a
      obtain ⟨e, h⟩ := hI
      dsimp only at e h
      subst e
      unfold gX3_findAllowed_6
      dsimp only
      rw [if_pos (c_le (N := 512) (n := 512) rfl (Nat.le_refl _) (by decide))]
      exact ⟨_, rfl, fun u hu => by dsimp only; rw [h u hu]; simp [hu]⟩
  obtain ⟨b, hb, hp⟩ := key
  unfold fX3_findAllowed
  rw [e0, bd_some, hb, bd_some]
  exact ⟨_, rfl, hp⟩
theorem lays_eq {t cc : Nat → Int32} {nc : Nat} (hn : nc ≤ 40) (h3 : t 3 = nI nc) (hc : ∀ c, c < nc → t (47 + 5 * c) = cc c) (w : Int64) (al : Nat → Int32) : ∃ a, fX11_laysAllowed t al w = some a ∧ ∀ u, u < 512 → a u = b2i (alS nc cc (lb w) u) := by
  have key : ∃ b, iter (gX11_laysAllowed_2 t w) FU ((0 : Int32), al) = some b ∧ ∀ u, u < 512 → b.2 u = b2i (alS nc cc (lb w) u) := by
    refine iter0 (fun (i : Nat) (a : Int32 × (Nat → Int32)) => a.1 = nI i ∧ ∀ u, u < i → a.2 u = b2i (alS nc cc (lb w) u)) (fun (b : Int32 × (Nat → Int32)) => ∀ u, u < 512 → b.2 u = b2i (alS nc cc (lb w) u)) 512 _ (by decide) ⟨rfl, fun u hu => absurd hu (Nat.not_lt_zero _)⟩ (fun i a hi hI => Or.inl ?_) (fun a hI => ?_)
    · obtain ⟨x, f⟩ := a
      obtain ⟨e, h⟩ := hI
      dsimp only at e h
      subst e
      unfold gX11_laysAllowed_2
      dsimp only
      rw [if_neg (c_ge (N := 512) (n := 512) rfl hi (by decide)), areSo_eq hn h3 hc, bd_some, gd_nI hi (by decide), ixn (by omega), nar_b]
      refine ⟨_, rfl, nI1 i, fun u hu => ?_⟩
      dsimp only
      by_cases c : u = i
      · subst c; rw [upd_s]
      · rw [upd_o c]; exact h u (by omega)
    · obtain ⟨x, f⟩ := a
      obtain ⟨e, h⟩ := hI
      dsimp only at e h
      subst e
      unfold gX11_laysAllowed_2
      dsimp only
      rw [if_pos (c_le (N := 512) (n := 512) rfl (Nat.le_refl _) (by decide))]
      exact ⟨_, rfl, h⟩
  obtain ⟨b, hb, hp⟩ := key
  unfold fX11_laysAllowed
  rw [hb, bd_some]
  exact ⟨_, rfl, hp⟩
theorem COK.lays {t cc cf cs cm cr : Nat → Int32} {nc : Nat} (C : COK t cc cf cs cm cr nc) (w : Int64) (al : Nat → Int32) : ∃ a, fX11_laysAllowed t al w = some a ∧ ∀ u, u < 512 → a u = b2i (alS nc cc (lb w) u) := lays_eq C.1 C.2.1 (fun c hc => (C.2.2 c hc).1.1) w al
theorem against_eq {t cc : Nat → Int32} {nc : Nat} (hn : nc ≤ 40) (h3 : t 3 = nI nc) (hc : ∀ c, c < nc → t (47 + 5 * c) = cc c) (w : Int64) (k : Int32) : fX11_against t w k = some (oN (ffind 512 (fun s => alS nc cc (lb w) s && !sat k (nI s)))) := by
  have key := iter_ff (g := gX11_against_3 t w k) (fun s => alS nc cc (lb w) s && !sat k (nI s)) (fun s => nI s) 512 (by decide) (fun i hi hp => ?_) (fun i hi hp => ?_) ?_
  · unfold fX11_against
    rcases key with ⟨e, h, hf⟩ | ⟨i, hi, h, hf⟩
    · rw [h, bd_some, se_l, hf]; rfl
    · rw [h, bd_some, se_r, hf]; rfl
  · unfold gX11_against_3
    try dsimp only at hp
    rw [if_neg (c_ge (N := 512) (n := 512) rfl hi (by decide)), isSo_sat, bd_some, areSo_eq hn h3 hc, bd_some, nI1]
    cases hs : sat k (nI i) with
    | true => rw [if_neg (by decide)]
    | false =>
      have : alS nc cc (lb w) i = false := by simpa [hs] using hp
      rw [if_pos (by decide), this, if_pos (by decide)]
  · unfold gX11_against_3
    try dsimp only at hp
    have hs : sat k (nI i) = false := by cases hs : sat k (nI i) <;> simp [hs] at hp ⊢
    have ha : alS nc cc (lb w) i = true := by simpa [hs] using hp
    rw [if_neg (c_ge (N := 512) (n := 512) rfl hi (by decide)), isSo_sat, bd_some, areSo_eq hn h3 hc, bd_some, hs, if_pos (by decide), ha, if_neg (by decide)]
  · unfold gX11_against_3
    exact ⟨_, by rw [if_pos (c_le (N := 512) (n := 512) rfl (Nat.le_refl _) (by decide))]⟩
theorem COK.ag {t cc cf cs cm cr : Nat → Int32} {nc : Nat} (C : COK t cc cf cs cm cr nc) (w : Int64) (k : Int32) : fX11_against t w k = some (oN (ffind 512 (fun s => alS nc cc (lb w) s && !sat k (nI s)))) := against_eq C.1 C.2.1 (fun c hc => (C.2.2 c hc).1.1) w k
