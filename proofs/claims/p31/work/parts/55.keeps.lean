/-! ===== where steps lead; sets that all steps keep ===== -/
theorem oN_some (s : Nat) : oN (some s) = nI s := rfl
theorem oN_none : oN none = (-6 : Int32) := rfl
theorem ne6 {s : Nat} (hs : s < 2 ^ 31) : ¬ nI s = (-6 : Int32) := fun e => nI_ne6 hs e
def TG (w : Int32) (g h x y k : Nat → Int32) (i s : Nat) : Option Nat := nxt (g i) (h i) (ix (x i)) (ix (y i)) (k i) w s
def SOK (t : Nat → Int32) (w : Int32) (g h x y k : Nat → Int32) (ns : Nat) : Prop := ns ≤ 8 ∧ (w = 0 ∨ w = 1) ∧ t 1 = w ∧ t 2 = nI ns ∧ ∀ i, i < ns → SRel t g h x y k i
theorem TG_lt {t : Nat → Int32} {w : Int32} {g h x y k : Nat → Int32} {ns i s u : Nat} (S : SOK t w g h x y k ns) (hi : i < ns) (hs : s < 512) (e : TG w g h x y k i s = some u) : u < 512 := by
  obtain ⟨-, -, a, b, ha, hb, ex, ey, -⟩ := S.2.2.2.2 i hi
  refine nxt_lt ?_ ?_ hs e
  · rw [ex, ixn (by omega)]; exact ha
  · rw [ey, ixn (by omega)]; exact hb
theorem tgt_eq {t : Nat → Int32} {w : Int32} {g h x y k : Nat → Int32} {ns i s : Nat} (S : SOK t w g h x y k ns) (hi : i < ns) (hs : s < 512) : fX3_target w (nI ns) g h x y k (nI i) (nI s) = some (oN (TG w g h x y k i s)) := by
  obtain ⟨-, q5, q6⟩ := S.2.2.2.2 i hi
  have h8 := S.1
  unfold fX3_target fX8_has jX3_target_30
  rw [if_neg (c_lt0 (by omega)), if_neg (c_ge (n := ns) rfl hi (by omega)), bd_some, if_neg i0ne1]
  rcases S.2.1 with rfl | rfl
  · rw [if_neg (by decide), target_eq (w := 0) (W := 0) (by omega) hs q5 q6 (by decide), bd_some]; rfl
  · rw [if_pos rfl, target_eq (w := 1) (W := 1) (by omega) hs q5 q6 (by decide), bd_some]; rfl
theorem nex_eq {t : Nat → Int32} {w : Int32} {g h x y k : Nat → Int32} {ns i s : Nat} (S : SOK t w g h x y k ns) (hi : i < ns) (hs : s < 512) : fX11_next t (nI i) (nI s) = some (oN (TG w g h x y k i s)) := by
  obtain ⟨⟨q0, q1, q2, q3, q4⟩, q5, q6⟩ := S.2.2.2.2 i hi
  have h8 := S.1
  rw [next_eq (by omega) hs q0 q1 q2 q3 q4 q6, S.2.2.1]; rfl
def esc (A : Nat → Bool) : Option Nat → Bool
  | none => false
  | some u => !A u
def ksb (ns : Nat) (T : Nat → Nat → Option Nat) (A : Nat → Bool) (s : Nat) : Bool := A s && (ffind ns (fun i => esc A (T i s))).isSome
def kp (ns : Nat) (T : Nat → Nat → Option Nat) (A : Nat → Bool) : Bool := (ffind 512 (ksb ns T A)).isNone
theorem kp_congr {ns : Nat} {T : Nat → Nat → Option Nat} {A A' : Nat → Bool} (hT : ∀ i s u, i < ns → s < 512 → T i s = some u → u < 512) (h : ∀ u, u < 512 → A u = A' u) : kp ns T A = kp ns T A' := by
  unfold kp
  rw [ffind_congr (P' := ksb ns T A')]
  intro s hs
  unfold ksb
  rw [h s hs, ffind_congr (P' := fun i => esc A' (T i s))]
  intro i hi
  cases e : T i s with
  | none => rfl
  | some u =>
    show (!A u) = !A' u
    rw [h u (hT i s u hi hs e)]
theorem keeps11 {t : Nat → Int32} {w : Int32} {g h x y k : Nat → Int32} {ns s : Nat} (S : SOK t w g h x y k ns) (ow : Nat → Int64) (hs : s < 512) :
    (∃ e, iter (gX3_keeps_11 w (nI ns) g h x y k ow (nI s)) FU (0 : Int32) = some (.inl e) ∧ ksb ns (TG w g h x y k) (mem ow) s = false) ∨ (iter (gX3_keeps_11 w (nI ns) g h x y k ow (nI s)) FU (0 : Int32) = some (.inr 0) ∧ ksb ns (TG w g h x y k) (mem ow) s = true) := by
  have h8 := S.1
  cases hm : mem ow s with
  | false =>
    left
    have hk : ksb ns (TG w g h x y k) (mem ow) s = false := by unfold ksb; rw [hm]; rfl
    by_cases h0 : ns = 0
    · subst h0
      exact ⟨_, iter_e (by unfold gX3_keeps_11; rw [if_pos (show nI 0 ≤ (0 : Int32) by decide)]) (by decide), hk⟩
    · exact ⟨_, iter_e (by unfold gX3_keeps_11; rw [if_neg (show ¬ nI ns ≤ (0 : Int32) from c_ge (n := ns) (i := 0) rfl (by omega) (by omega)), has_eq ow hs, hm, bd_some, if_pos (by decide)]) (by decide), hk⟩
  | true =>
    have key := iter_ff (g := gX3_keeps_11 w (nI ns) g h x y k ow (nI s)) (fun i => esc (mem ow) (TG w g h x y k i s)) (fun _ => (0 : Int32)) ns (by omega) (fun i hi hp => ?_) (fun i hi hp => ?_) ?_
    · rcases key with ⟨e, q, hf⟩ | ⟨i, hi, q, hf⟩
      · exact Or.inl ⟨e, q, by unfold ksb; rw [hm, hf]; rfl⟩
      · exact Or.inr ⟨q, by unfold ksb; rw [hm, hf]; rfl⟩
    · unfold gX3_keeps_11
      try dsimp only at hp
      rw [if_neg (c_ge (n := ns) rfl hi (by omega)), has_eq ow hs, hm, bd_some, if_neg (by decide), tgt_eq S hi hs, bd_some]
      cases e : TG w g h x y k i s with
      | none => rw [oN_none, if_pos rfl, nI1]
      | some u =>
        have hu := TG_lt S hi hs e
        rw [e] at hp
        have hmu : mem ow u = true := by simpa [esc] using hp
        show (if nI u = (-6 : Int32) then _ else _) = _
        rw [if_neg (ne6 (by omega))]
        show (bd (fX7_has ow (nI u)) _) = _
        rw [has_eq ow hu, hmu, bd_some, if_neg (by decide), nI1]
    · unfold gX3_keeps_11
      try dsimp only at hp
      rw [if_neg (c_ge (n := ns) rfl hi (by omega)), has_eq ow hs, hm, bd_some, if_neg (by decide), tgt_eq S hi hs, bd_some]
      cases e : TG w g h x y k i s with
      | none => rw [e] at hp; exact absurd (show false = true from hp) (by decide)
      | some u =>
        have hu := TG_lt S hi hs e
        rw [e] at hp
        have hmu : mem ow u = false := by simpa [esc] using hp
        show (if nI u = (-6 : Int32) then _ else _) = _
        rw [if_neg (ne6 (by omega))]
        show (bd (fX7_has ow (nI u)) _) = _
        rw [has_eq ow hu, hmu, bd_some, if_pos (by decide)]
    · unfold gX3_keeps_11
      exact ⟨_, by rw [if_pos (c_le (n := ns) rfl (Nat.le_refl _) (by omega))]⟩
theorem keeps_eq {t : Nat → Int32} {w : Int32} {g h x y k : Nat → Int32} {ns : Nat} (S : SOK t w g h x y k ns) (ow : Nat → Int64) : fX3_keeps w (nI ns) g h x y k ow = some (b2i (kp ns (TG w g h x y k) (mem ow))) := by
  have key := iter_ff (g := gX3_keeps_2 w (nI ns) g h x y k ow) (ksb ns (TG w g h x y k) (mem ow)) (fun _ => (0 : Int32)) 512 (by decide) (fun i hi hp => ?_) (fun i hi hp => ?_) ?_
  · unfold fX3_keeps kp
    rcases key with ⟨e, q, hf⟩ | ⟨i, hi, q, hf⟩
    · rw [q, bd_some, se_l, hf]; rfl
    · rw [q, bd_some, se_r, hf]; rfl
  · unfold gX3_keeps_2
    rw [if_neg (c_ge (N := 512) (n := 512) rfl hi (by decide))]
    rcases keeps11 S ow hi with ⟨e, q, -⟩ | ⟨-, q⟩
    · rw [q, bd_some, se_l, nI1]
    · rw [q] at hp; exact absurd hp (by decide)
  · unfold gX3_keeps_2
    rw [if_neg (c_ge (N := 512) (n := 512) rfl hi (by decide))]
    rcases keeps11 S ow hi with ⟨e, -, q⟩ | ⟨q, -⟩
    · rw [q] at hp; exact absurd hp (by decide)
    · rw [q, bd_some, se_r]
  · unfold gX3_keeps_2
    exact ⟨_, by rw [if_pos (c_le (N := 512) (n := 512) rfl (Nat.le_refl _) (by decide))]⟩
theorem kern25 {t : Nat → Int32} {w : Int32} {g h x y k : Nat → Int32} {ns s : Nat} {A : Nat → Bool} {al : Nat → Int32} (S : SOK t w g h x y k ns) (ha : ∀ u, u < 512 → al u = b2i (A u)) (hs : s < 512) (f : Int32) :
    ∃ e, iter (gX11_isKernel_25 t al (f, nI s)) FU ((1 : Int32), (0 : Int32)) = some (b2i (!ksb ns (TG w g h x y k) A s), e) := by
  have h8 := S.1
  have h2 := S.2.2.2.1
  cases hm : A s with
  | false =>
    have hk : ksb ns (TG w g h x y k) A s = false := by unfold ksb; rw [hm]; rfl
    rw [hk]
    by_cases h0 : ns = 0
    · subst h0
      exact ⟨_, iter_e (by unfold gX11_isKernel_25; dsimp only; rw [gg2, gd_tr, ii2, h2, if_pos (show nI 0 ≤ (0 : Int32) by decide)]; rfl) (by decide)⟩
    · exact ⟨_, iter_e (by
        unfold gX11_isKernel_25; dsimp only
        rw [gg2, gd_tr, ii2, h2, if_neg (show ¬ nI ns ≤ (0 : Int32) from c_ge (n := ns) (i := 0) rfl (by omega) (by omega)), if_neg i0ne1, gd_nI hs (by decide), ixn (by omega), ha s hs, hm, if_pos (by decide)]; rfl) (by decide)⟩
  | true =>
    have key := iter_flag (g := gX11_isKernel_25 t al (f, nI s)) 1 0 (fun i => esc A (TG w g h x y k i s)) ns (by omega) (fun i hi hp => ?_) (fun i hi hp => ?_) (fun i hi => ?_) ?_
    · obtain ⟨e, key⟩ := key
      refine ⟨e, ?_⟩
      rw [key, fl_10]
      unfold ksb
      rw [hm]
      cases ffind ns (fun i => esc A (TG w g h x y k i s)) <;> rfl
    · unfold gX11_isKernel_25
      dsimp only at hp ⊢
      rw [gg2, gd_tr, ii2, h2, if_neg (c_ge (n := ns) rfl hi (by omega)), if_neg i0ne1, gd_nI hs (by decide), ixn (by omega), ha s hs, hm, if_neg (by decide), nex_eq S hi hs, bd_some]
      cases e : TG w g h x y k i s with
      | none => rw [oN_none, if_pos rfl, nI1]
      | some u =>
        have hu := TG_lt S hi hs e
        rw [e] at hp
        have hmu : A u = true := by simpa [esc] using hp
        show (if nI u = (-6 : Int32) then _ else gd (gi (nI u) 512) (if al (ix (nI u)) = 0 then _ else _)) = _
        rw [if_neg (ne6 (by omega)), gd_nI hu (by decide), ixn (by omega), ha u hu, hmu, if_neg (by decide), nI1]
    · unfold gX11_isKernel_25
      dsimp only at hp ⊢
      rw [gg2, gd_tr, ii2, h2, if_neg (c_ge (n := ns) rfl hi (by omega)), if_neg i0ne1, gd_nI hs (by decide), ixn (by omega), ha s hs, hm, if_neg (by decide), nex_eq S hi hs, bd_some]
      cases e : TG w g h x y k i s with
      | none => rw [e] at hp; exact absurd (show false = true from hp) (by decide)
      | some u =>
        have hu := TG_lt S hi hs e
        rw [e] at hp
        have hmu : A u = false := by simpa [esc] using hp
        show (if nI u = (-6 : Int32) then _ else gd (gi (nI u) 512) (if al (ix (nI u)) = 0 then _ else _)) = _
        rw [if_neg (ne6 (by omega)), gd_nI hu (by decide), ixn (by omega), ha u hu, hmu, if_pos (by decide), nI1]
    · left
      unfold gX11_isKernel_25
      dsimp only
      rw [gg2, gd_tr]
      by_cases q : t (ix 2) ≤ nI i
      · exact ⟨_, by rw [if_pos q]⟩
      · exact ⟨_, by rw [if_neg q, if_pos rfl]⟩
    · unfold gX11_isKernel_25
      dsimp only
      exact ⟨_, by rw [gg2, gd_tr, ii2, h2, if_pos (c_le (n := ns) rfl (Nat.le_refl _) (by omega))]⟩
theorem kern_eq {t : Nat → Int32} {w : Int32} {g h x y k cc cf cs cm cr : Nat → Int32} {ns nc : Nat} (S : SOK t w g h x y k ns) (C : COK t cc cf cs cm cr nc) (al : Nat → Int32) (v : Int64) :
    ∃ a, fX11_isKernel t al v = some (b2i (kp ns (TG w g h x y k) (alS nc cc (lb v))), a) ∧ ∀ u, u < 512 → a u = b2i (alS nc cc (lb v) u) := by
  obtain ⟨a, ea, ha⟩ := C.lays v al
  have key := iter_flag (g := gX11_isKernel_10 t a) 1 0 (ksb ns (TG w g h x y k) (alS nc cc (lb v))) 512 (by decide) (fun i hi hp => ?_) (fun i hi hp => ?_) (fun i hi => ?_) ?_
  · obtain ⟨e, key⟩ := key
    refine ⟨a, ?_, ha⟩
    unfold fX11_isKernel kp
    rw [ea, bd_some, key, bd_some, fl_10, isB_b2i, gd_tr]
  · obtain ⟨e, q⟩ := kern25 S ha hi 1
    unfold gX11_isKernel_10
    dsimp only
    rw [if_neg (c_ge (N := 512) (n := 512) rfl hi (by decide)), if_neg i0ne1, q, bd_some, hp, nI1]
    rfl
  · obtain ⟨e, q⟩ := kern25 S ha hi 1
    unfold gX11_isKernel_10
    dsimp only
    rw [if_neg (c_ge (N := 512) (n := 512) rfl hi (by decide)), if_neg i0ne1, q, bd_some, hp, nI1]
    rfl
  · left
    unfold gX11_isKernel_10
    dsimp only
    by_cases q : (512 : Int32) ≤ nI i
    · exact ⟨_, by rw [if_pos q]⟩
    · exact ⟨_, by rw [if_neg q, if_pos rfl]⟩
  · unfold gX11_isKernel_10
    dsimp only
    exact ⟨_, by rw [if_pos (c_le (N := 512) (n := 512) rfl (Nat.le_refl _) (by decide))]⟩
theorem SOK.cl {t : Nat → Int32} {w : Int32} {g h x y k : Nat → Int32} {ns : Nat} (S : SOK t w g h x y k ns) : ∀ i s u, i < ns → s < 512 → TG w g h x y k i s = some u → u < 512 := fun _ _ _ hi hs e => TG_lt S hi hs e
theorem COK.ks {t cc cf cs cm cr : Nat → Int32} {nc : Nat} (C : COK t cc cf cs cm cr nc) : ∀ c, c < nc → ∃ k : Nat, k < 1350 ∧ cc c = nI k := fun c hc => (C.2.2 c hc).2
theorem ckern_eq {t : Nat → Int32} {w : Int32} {g h x y k cc cf cs cm cr : Nat → Int32} {ns nc : Nat} (S : SOK t w g h x y k ns) (C : COK t cc cf cs cm cr nc) (wl : Nat → Int64) :
    ∃ v, fX9_isKernel wl w (nI ns) g h x y k (nI nc) cc cf = some (b2i (kp ns (TG w g h x y k) (alS nc cc (stn cf))), v) ∧ ∀ u, u < 512 → mem v u = alS nc cc (stn cf) u := by
  obtain ⟨v, e, hv⟩ := findAllowed_eq (cf := cf) C.1 C.ks wl
  refine ⟨v, ?_, hv⟩
  unfold fX9_isKernel
  rw [e, bd_some, keeps_eq S, bd_some, isB_b2i, gd_tr, kp_congr S.cl hv]
