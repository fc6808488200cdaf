/-! ===== needless ===== -/
theorem ffn_s (n : Nat) (P : Nat → Bool) : (ffind (n + 1) P).isNone = ((ffind n P).isNone && !P n) := by
  rw [ffind_succ]
  cases ffind n P with
  | some j => rfl
  | none => cases P n <;> rfl
def ms (cc cf : Nat → Int32) (c s : Nat) : Bool := stn cf c && !sat (cc c) (nI s)
def um (nc : Nat) (cc cf : Nat → Int32) (s u : Nat) : Bool := ms cc cf u s && (ffind nc (fun v => !decide (v = u) && ms cc cf v s)).isNone
theorem um_none {nc s u : Nat} {cc cf : Nat → Int32} (h : ms cc cf u s = false) : um nc cc cf s u = false := by unfold um; rw [h]; rfl
theorem um_two {nc s u v : Nat} {cc cf : Nat → Int32} (hv : v < nc) (hm : ms cc cf v s = true) (h : ¬ v = u) : um nc cc cf s u = false := by
  unfold um
  cases e : ffind nc (fun v => !decide (v = u) && ms cc cf v s) with
  | some j => simp
  | none =>
    have := ffind_n.mp e v hv
    simp [hm, h] at this
theorem um_one {nc s u : Nat} {cc cf : Nat → Int32} (hm : ms cc cf u s = true) (h : ∀ v, v < nc → ¬ v = u → ms cc cf v s = false) : um nc cc cf s u = true := by
  unfold um
  rw [hm, ffind_none (fun v hv => by
    by_cases e : v = u
    · simp [e]
    · rw [h v hv e]; simp)]
  rfl
theorem needC {cc cf : Nat → Int32} {nc : Nat} (hn : nc ≤ 40) (hk : ∀ c, c < nc → ∃ k : Nat, k < 1350 ∧ cc c = nI k) : ∃ b, fX0_findNeedless (nI nc) cc cf = some b ∧ ∀ u, u < 64 → lb b u = (decide (u < nc) && stn cf u && (ffind 512 (fun s => um nc cc cf s u)).isNone) := by
  obtain ⟨w0, e0, h0⟩ := fstand_eq hn cf
  have key : ∃ b : Int64 × Int32, iter (gX0_findNeedless_7 (nI nc) cc cf) FU (w0, (0 : Int32)) = some b ∧ ∀ u, u < 64 → lb b.1 u = (decide (u < nc) && stn cf u && (ffind 512 (fun s => um nc cc cf s u)).isNone) := by
    refine iter0 (fun (i : Nat) (a : Int64 × Int32) => a.2 = nI i ∧ ∀ u, u < 64 → lb a.1 u = (decide (u < nc) && stn cf u && (ffind i (fun s => um nc cc cf s u)).isNone)) (fun (b : Int64 × Int32) => ∀ u, u < 64 → lb b.1 u = (decide (u < nc) && stn cf u && (ffind 512 (fun s => um nc cc cf s u)).isNone)) 512 _ (by decide) ⟨rfl, fun u hu => by dsimp only; rw [h0 u hu, ffind_z]; simp⟩ (fun i a hi hI => Or.inl ?_) (fun a hI => ?_)
    · obtain ⟨x, y⟩ := a
      obtain ⟨e, h⟩ := hI
      dsimp only at e h
      subst e
      have same : (∀ u, u < nc → um nc cc cf i u = false) → ∀ u, u < 64 → lb x u = (decide (u < nc) && stn cf u && (ffind (i + 1) (fun s => um nc cc cf s u)).isNone) := fun q u hu => by
        rw [h u hu, ffn_s]
        by_cases hc : u < nc
        · rw [q u hc]; simp
        · simp [hc]
      unfold gX0_findNeedless_7
      dsimp only
      rw [if_neg (c_ge (N := 512) (n := 512) rfl hi (by decide))]
      rcases nextMiss_eq (cf := cf) (i0 := 0) hn (Nat.zero_le _) hk i with ⟨k1, k2⟩ | ⟨j, k1, -, k2, k3, k4⟩
      · rw [show (0 : Int32) = nI 0 from rfl, k1, bd_some, if_pos (c_le (n := nc) rfl (Nat.le_refl _) (by omega))]
        exact ⟨_, rfl, nI1 i, same (fun u hu => um_none (k2 u (Nat.zero_le _) hu))⟩
      · rw [show (0 : Int32) = nI 0 from rfl, k1, bd_some, if_neg (c_ge (n := nc) rfl k2 (by omega)), nI1 j]
        rcases nextMiss_eq (cf := cf) (i0 := j + 1) hn k2 hk i with ⟨l1, l2⟩ | ⟨j2, l1, l5, l2, l3, l4⟩
        · rw [l1, bd_some, if_pos rfl]
          refine ⟨_, rfl, nI1 i, fun u hu => ?_⟩
          dsimp only
          rw [lb_del (by omega) hu, h u hu, ffn_s]
          by_cases hc : u < nc
          · by_cases q : u = j
            · subst q
              rw [um_one k3 (fun v hv hne => by
                by_cases hlt : v < u
                · exact k4 v (Nat.zero_le _) hlt
                · exact l2 v (by omega) hv)]
              simp
            · rw [um_two (u := u) k2 k3 (fun e => q e.symm)]
              simp [q]
          · simp [hc]
        · rw [l1, bd_some, if_neg (show ¬ nI j2 = nI nc from fun q => by have := nI_inj (by omega) (by omega) q; omega)]
          refine ⟨_, rfl, nI1 i, same (fun u hu => ?_)⟩
          by_cases q : j = u
          · exact um_two l2 l3 (by omega)
          · exact um_two k2 k3 q
    · obtain ⟨x, y⟩ := a
      obtain ⟨e, h⟩ := hI
      dsimp only at e h
      subst e
      unfold gX0_findNeedless_7
      dsimp only
      rw [if_pos (c_le (N := 512) (n := 512) rfl (Nat.le_refl _) (by decide))]
      exact ⟨_, rfl, h⟩
  obtain ⟨b, hb, hp⟩ := key
  unfold fX0_findNeedless
  rw [e0, bd_some, hb, bd_some]
  exact ⟨_, rfl, hp⟩
theorem needM {t cc cf cs cm cr : Nat → Int32} {nc : Nat} (C : COK t cc cf cs cm cr nc) : ∃ b, fX11_needless t = some b ∧ ∀ u, u < 64 → lb b u = (decide (u < nc) && stn cf u && (ffind 512 (fun s => um nc cc cf s u)).isNone) := by
  obtain ⟨w0, e0, h0⟩ := mstand_eq C
  have hn := C.1
  have h3 := C.2.1
  have key : ∃ b : Int64 × Int32, iter (gX11_needless_10 t w0) FU ((0 : Int64), (0 : Int32)) = some b ∧ ∀ u, u < 64 → lb b.1 u = (decide (u < nc) && stn cf u && (ffind 512 (fun s => um nc cc cf s u)).isNone) := by
    refine iter0 (fun (i : Nat) (a : Int64 × Int32) => a.2 = nI i ∧ ∀ u, u < 64 → lb a.1 u = (decide (u < i) && stn cf u && (ffind 512 (fun s => um nc cc cf s u)).isNone)) (fun (b : Int64 × Int32) => ∀ u, u < 64 → lb b.1 u = (decide (u < nc) && stn cf u && (ffind 512 (fun s => um nc cc cf s u)).isNone)) nc _ (by omega) ⟨rfl, fun u hu => by dsimp only; rw [lb_0]; simp⟩ (fun i a hi hI => Or.inl ?_) (fun a hI => ?_)
    · obtain ⟨x, y⟩ := a
      obtain ⟨e, h⟩ := hI
      dsimp only at e h
      subst e
      have no : (stn cf i && (ffind 512 (fun s => um nc cc cf s i)).isNone) = false → ∀ u, u < 64 → lb (x ||| 0) u = (decide (u < i + 1) && stn cf u && (ffind 512 (fun s => um nc cc cf s u)).isNone) := fun q u hu => by
        rw [lb_or, lb_0, Bool.or_false, h u hu]
        by_cases c : u = i
        · subst c; rw [Bool.and_assoc, Bool.and_assoc, q]; simp
        · have : (u < i) = (u < i + 1) := by simp only [eq_iff_iff]; omega
          simp only [this]
      have yes : (stn cf i && (ffind 512 (fun s => um nc cc cf s i)).isNone) = true → ∀ u, u < 64 → lb (x ||| ((1 : Int64) <<< ((nI i).toInt64 &&& 63))) u = (decide (u < i + 1) && stn cf u && (ffind 512 (fun s => um nc cc cf s u)).isNone) := fun q u hu => by
        rw [lb_put (by omega), h u hu]
        by_cases c : u = i
        · subst c; rw [Bool.and_assoc, Bool.and_assoc, q]; simp
        · have : (u < i) = (u < i + 1) := by simp only [eq_iff_iff]; omega
          simp [this, c]
      have hl : lb w0 i = stn cf i := SB_lb h0 hn hi
      unfold gX11_needless_10
      dsimp only
      rw [gg3, gd_tr, ii3, h3, if_neg (c_ge (n := nc) rfl hi (by omega)), has_lb w0 (by omega), bd_some, hl]
      cases hst : stn cf i with
      | false =>
        rw [if_pos (by decide)]
        unfold jX11_needless_10b60 jX11_needless_10b61
        rw [if_pos rfl]
        exact ⟨_, rfl, nI1 i, no (by rw [hst]; rfl)⟩
      | true =>
        have hu : ∀ s, s < 512 → (alS nc cc (lb (w0 &&& (((1 : Int64) <<< ((nI i).toInt64 &&& 63)) ^^^ (-1)))) s && !sat (cc i) (nI s)) = um nc cc cf s i := fun s _ => by
          unfold um alS ms
          rw [hst, ffind_congr (P' := fun v => !decide (v = i) && (stn cf v && !sat (cc v) (nI s))) (fun v hv => by
            rw [lb_del (by omega) (by omega), SB_lb h0 hn hv]
            cases stn cf v <;> cases decide (v = i) <;> rfl)]
          cases sat (cc i) (nI s) <;> simp
        rw [if_neg (by decide), of_eq (j := 0) (J := 0) rfl (by omega) (by decide), bd_some, Nat.add_zero, (C.2.2 i hi).1.1, C.ag, bd_some, ffind_congr hu]
        cases hf : ffind 512 (fun s => um nc cc cf s i) with
        | none =>
          rw [oN_none, if_pos rfl]
          unfold jX11_needless_10b61
          rw [if_neg i0ne1]
          exact ⟨_, rfl, nI1 i, yes (by rw [hst, hf]; rfl)⟩
        | some s =>
          rw [oN_some, if_neg (ne6 (ff512 s hf))]
          unfold jX11_needless_10b60 jX11_needless_10b61
          rw [if_pos rfl]
          exact ⟨_, rfl, nI1 i, no (by rw [hf]; simp)⟩
    · obtain ⟨x, y⟩ := a
      obtain ⟨e, h⟩ := hI
      dsimp only at e h
      subst e
      unfold gX11_needless_10
      dsimp only
      rw [gg3, gd_tr, ii3, h3, if_pos (c_le (n := nc) rfl (Nat.le_refl _) (by omega))]
      exact ⟨_, rfl, h⟩
  obtain ⟨b, hb, hp⟩ := key
  unfold fX11_needless
  rw [e0, bd_some, hb, bd_some]
  exact ⟨_, rfl, hp⟩
theorem q_needless {B : Nat} {t : Nat → Int32} {M : MS} (hM : RM B t M) : ∃ ans, fX10_needless (M.1 5) (M.2.1 5) (M.2.1 6) = some ans ∧ fX11_needless t = some ans := by
  obtain ⟨ns, nc, e4, e5, S, C⟩ := hM.ok
  obtain ⟨b, e, h⟩ := needC (cf := M.2.1 6) C.1 C.ks
  obtain ⟨b', e', h'⟩ := needM C
  have : b' = b := lb_ext (fun u hu => by rw [h u hu, h' u hu])
  subst this
  unfold fX10_needless
  rw [e5, e, bd_some]
  exact ⟨_, rfl, e'⟩
/-! ===== core ===== -/
/-- how many of a set of candidates do not hold in a state -/
def cms (nc : Nat) (cc : Nat → Int32) (S : Nat → Bool) (s : Nat) : Nat := fb_ct (fun c => S c && !sat (cc c) (nI s)) nc
theorem cms_0 {nc s : Nat} {cc : Nat → Int32} {S : Nat → Bool} : cms nc cc S s = 0 ↔ alS nc cc S s = true := by
  unfold cms alS
  rw [fb_ct_zero, Option.isNone_iff_eq_none, ffind_n]
theorem addMisses_eq {v : Nat → Int32} {q : Nat} (hq : q < 1350) (p1 : Int32) : ∃ v', fX9_addMisses v (nI q) p1 = some v' ∧ ∀ s, s < 512 → v' s = if sat (nI q) (nI s) = true then v s else v s + p1 := by
  have key : ∃ b : Int32 × (Nat → Int32), iter (gX9_addMisses_2 (nI q) p1) FU ((0 : Int32), v) = some b ∧ ∀ s, s < 512 → b.2 s = if sat (nI q) (nI s) = true then v s else v s + p1 := by
    refine iter0 (fun (i : Nat) (a : Int32 × (Nat → Int32)) => a.1 = nI i ∧ ∀ s, s < 512 → a.2 s = if s < i ∧ sat (nI q) (nI s) = false then v s + p1 else v s) (fun (b : Int32 × (Nat → Int32)) => ∀ s, s < 512 → b.2 s = if sat (nI q) (nI s) = true then v s else v s + p1) 512 _ (by decide) ⟨rfl, fun s hs => by rw [if_neg (fun z => absurd z.1 (Nat.not_lt_zero _))]⟩ (fun i a hi hI => Or.inl ?_) (fun a hI => ?_)
    · obtain ⟨x, w⟩ := a
      obtain ⟨e, h⟩ := hI
      dsimp only at e h
      subst e
      have hi0 := h i hi
      rw [if_neg (fun z => absurd z.1 (Nat.lt_irrefl _))] at hi0
      unfold gX9_addMisses_2
      dsimp only
      rw [if_neg (c_ge (N := 512) (n := 512) rfl hi (by decide)), isMet_sat hq, bd_some, gd_nI hi (by decide), gd_nI hi (by decide), ixn (by omega), hi0]
      cases hs : sat (nI q) (nI i) with
      | true =>
        rw [if_neg (by decide)]
        refine ⟨_, rfl, nI1 i, fun s hs' => ?_⟩
        dsimp only
        rw [h s hs']
        by_cases c : s = i
        · subst c; simp [hs]
        · have : (s < i) = (s < i + 1) := by simp only [eq_iff_iff]; omega
          simp only [this]
      | false =>
        rw [if_pos (by decide)]
        refine ⟨_, rfl, nI1 i, fun s hs' => ?_⟩
        dsimp only
        by_cases c : s = i
        · subst c; rw [upd_s, if_pos ⟨Nat.lt_succ_self _, hs⟩]
        · rw [upd_o c, h s hs']
          have : (s < i) = (s < i + 1) := by simp only [eq_iff_iff]; omega
          simp only [this]
    · obtain ⟨x, w⟩ := a
      obtain ⟨e, h⟩ := hI
      dsimp only at e h
      subst e
      unfold gX9_addMisses_2
      dsimp only
      rw [if_pos (c_le (N := 512) (n := 512) rfl (Nat.le_refl _) (by decide))]
      refine ⟨_, rfl, fun s hs => ?_⟩
      dsimp only
      rw [h s hs]
      cases sat (nI q) (nI s) <;> simp [hs]
  obtain ⟨b, hb, hp⟩ := key
  unfold fX9_addMisses
  rw [hb, bd_some]
  exact ⟨_, rfl, hp⟩
theorem countMisses_eq {cc cf : Nat → Int32} {nc : Nat} (hn : nc ≤ 40) (hk : ∀ c, c < nc → ∃ k : Nat, k < 1350 ∧ cc c = nI k) (v : Nat → Int32) : ∃ v', fX9_countMisses v (nI nc) cc cf = some v' ∧ ∀ s, s < 512 → v' s = nI (cms nc cc (stn cf) s) := by
  have key1 : ∃ b : Int32 × (Nat → Int32), iter gX9_countMisses_2 FU ((0 : Int32), v) = some b ∧ ∀ s, s < 512 → b.2 s = 0 := by
    refine iter0 (fun (i : Nat) (a : Int32 × (Nat → Int32)) => a.1 = nI i ∧ ∀ s, s < i → a.2 s = 0) (fun (b : Int32 × (Nat → Int32)) => ∀ s, s < 512 → b.2 s = 0) 512 _ (by decide) ⟨rfl, fun s hs => absurd hs (Nat.not_lt_zero _)⟩ (fun i a hi hI => Or.inl ?_) (fun a hI => ?_)
    · obtain ⟨x, w⟩ := a
      obtain ⟨e, h⟩ := hI
      dsimp only at e h
      subst e
      unfold gX9_countMisses_2
      dsimp only
      rw [if_neg (c_ge (N := 512) (n := 512) rfl hi (by decide)), gd_nI hi (by decide), ixn (by omega)]
      refine ⟨_, rfl, nI1 i, fun s hs => ?_⟩
      dsimp only
      by_cases c : s = i
      · subst c; rw [upd_s]
      · rw [upd_o c]; exact h s (by omega)
    · obtain ⟨x, w⟩ := a
      obtain ⟨e, h⟩ := hI
      dsimp only at e h
      subst e
      unfold gX9_countMisses_2
      dsimp only
      rw [if_pos (c_le (N := 512) (n := 512) rfl (Nat.le_refl _) (by decide))]
      exact ⟨_, rfl, h⟩
  obtain ⟨b1, e1, z1⟩ := key1
  have key2 : ∃ b : Int32 × (Nat → Int32), iter (gX9_countMisses_24 (nI nc) cc cf) FU ((0 : Int32), b1.2) = some b ∧ ∀ s, s < 512 → b.2 s = nI (cms nc cc (stn cf) s) := by
    refine iter0 (fun (i : Nat) (a : Int32 × (Nat → Int32)) => a.1 = nI i ∧ ∀ s, s < 512 → a.2 s = nI (cms i cc (stn cf) s)) (fun (b : Int32 × (Nat → Int32)) => ∀ s, s < 512 → b.2 s = nI (cms nc cc (stn cf) s)) nc _ (by omega) ⟨rfl, z1⟩ (fun i a hi hI => Or.inl ?_) (fun a hI => ?_)
    · obtain ⟨x, w⟩ := a
      obtain ⟨e, h⟩ := hI
      dsimp only at e h
      subst e
      obtain ⟨q, hq, eq⟩ := hk i hi
      unfold gX9_countMisses_24
      dsimp only
      rw [if_neg (c_ge (n := nc) rfl hi (by omega)), gd_nI (show i < 40 by omega) (by decide), gd_nI (show i < 40 by omega) (by decide), ixn (by omega), eq]
      by_cases hf : cf i = 0
      · obtain ⟨v', f1, f2⟩ := addMisses_eq (v := w) hq 1
        rw [if_pos hf, f1, bd_some]
        refine ⟨_, rfl, nI1 i, fun s hs => ?_⟩
        dsimp only
        unfold cms
        rw [f2 s hs, h s hs, fb_ct_succ, eq]
        unfold cms
        cases hsat : sat (nI q) (nI s) with
        | true => rw [if_pos rfl]; simp
        | false => rw [if_neg (by decide), nI1]; simp [stn, hf]
      · rw [if_neg hf]
        refine ⟨_, rfl, nI1 i, fun s hs => ?_⟩
        dsimp only
        unfold cms
        rw [h s hs, fb_ct_succ]
        unfold cms
        simp [stn, hf]
    · obtain ⟨x, w⟩ := a
      obtain ⟨e, h⟩ := hI
      dsimp only at e h
      subst e
      unfold gX9_countMisses_24
      dsimp only
      rw [if_pos (c_le (n := nc) rfl (Nat.le_refl _) (by omega))]
      exact ⟨_, rfl, h⟩
  obtain ⟨b2, e2, z2⟩ := key2
  unfold fX9_countMisses
  rw [e1, bd_some, e2, bd_some]
  exact ⟨_, rfl, z2⟩
theorem isEnough_eq {t : Nat → Int32} {w : Int32} {g h x y k cc : Nat → Int32} {ns nc q : Nat} {S' : Nat → Bool} {v : Nat → Int32} (S : SOK t w g h x y k ns) (hn : nc ≤ 40) (hq : q < 1350) (hv : ∀ s, s < 512 → v s = nI (cms nc cc S' s)) (wl : Nat → Int64) :
    ∃ W, fX9_isEnough wl v w (nI ns) g h x y k (nI q) = some (b2i ((ffind 512 (fun s => alS nc cc S' s && !sat (nI q) (nI s))).isNone && kp ns (TG w g h x y k) (alS nc cc S')), W) := by
  obtain ⟨w0, e0, h0⟩ := clear_eq wl
  have hv0 : ∀ s, s < 512 → (v s = 0 ↔ alS nc cc S' s = true) := fun s hs => by
    have := fb_ct_le (fun c => S' c && !sat (cc c) (nI s)) nc
    rw [hv s hs, ← cms_0]
    constructor
    · intro z; exact nI_inj (b := 0) (by unfold cms; omega) (by decide) z
    · intro z; rw [z]; rfl
  have key : ∃ b, iter (gX9_isEnough_9 v) FU ((0 : Int32), w0) = some b ∧ ∀ u, u < 512 → mem b.2 u = alS nc cc S' u := by
    refine iter0 (fun (i : Nat) (a : Int32 × (Nat → Int64)) => a.1 = nI i ∧ ∀ u, u < 512 → mem a.2 u = (decide (u < i) && alS nc cc S' u)) (fun (b : Int32 × (Nat → Int64)) => ∀ u, u < 512 → mem b.2 u = alS nc cc S' u) 512 _ (by decide) ⟨rfl, fun u hu => by dsimp only; rw [h0 u hu]; simp⟩ (fun i a hi hI => Or.inl ?_) (fun a hI => ?_)
    · obtain ⟨x, W⟩ := a
      obtain ⟨e, h⟩ := hI
      dsimp only at e h
      subst e
      unfold gX9_isEnough_9
      dsimp only
      rw [if_neg (c_ge (N := 512) (n := 512) rfl hi (by decide)), gd_nI hi (by decide), ixn (by omega)]
      cases ha : alS nc cc S' i with
      | false =>
        rw [if_neg (fun z => by rw [(hv0 i hi).mp z] at ha; exact absurd ha (by decide))]
        refine ⟨_, rfl, nI1 i, fun u hu => ?_⟩
        dsimp only
        rw [h u hu]
        by_cases c : u = i
        · subst c; simp [ha]
        · have : (u < i) = (u < i + 1) := by simp only [eq_iff_iff]; omega
          simp [this]
      | true =>
        obtain ⟨w', e', h'⟩ := add_eq W hi
        rw [if_pos ((hv0 i hi).mpr ha), e', bd_some]
        refine ⟨_, rfl, nI1 i, fun u hu => ?_⟩
        dsimp only
        rw [h' u hu, h u hu]
        by_cases c : u = i
        · subst c; simp [ha]
        · have : (u < i) = (u < i + 1) := by simp only [eq_iff_iff]; omega
          simp [this, c]
    · obtain ⟨x, W⟩ := a
      obtain ⟨e, h⟩ := hI
      dsimp only at e h
      subst e
      unfold gX9_isEnough_9
      dsimp only
      rw [if_pos (c_le (N := 512) (n := 512) rfl (Nat.le_refl _) (by decide))]
      exact ⟨_, rfl, fun u hu => by dsimp only; rw [h u hu]; simp [hu]⟩
  obtain ⟨b, hb, hp⟩ := key
  unfold fX9_isEnough
  rw [e0, bd_some, hb, bd_some, setMiss_eq b.2 hq, bd_some, fm_eq hp]
  refine ⟨b.2, ?_⟩
  cases hf : ffind 512 (fun s => alS nc cc S' s && !sat (nI q) (nI s)) with
  | none =>
    rw [oN_none, if_pos rfl, keeps_eq S, bd_some, kp_congr S.cl hp]
    cases kp ns (TG w g h x y k) (alS nc cc S') with
    | true => rw [if_neg (by decide)]; rfl
    | false => rw [if_pos (by decide)]; rfl
  | some s => rw [oN_some, if_neg (ne6 (ff512 s hf))]; rfl
