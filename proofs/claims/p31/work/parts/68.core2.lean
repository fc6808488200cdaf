theorem cms_del {nc s i : Nat} {cc : Nat → Int32} {L : Int64} (hn : nc ≤ 40) (hi : i < nc) (hL : lb L i = true) : cms nc cc (lb (L &&& (((1 : Int64) <<< ((nI i).toInt64 &&& 63)) ^^^ (-1)))) s + (if sat (cc i) (nI s) = true then 0 else 1) = cms nc cc (lb L) s := by
  have e := fb_ct_upd (fun c => lb L c && !sat (cc c) (nI s)) false hi
  have e2 : fb_ct (fun c => if c = i then false else (lb L c && !sat (cc c) (nI s))) nc = cms nc cc (lb (L &&& (((1 : Int64) <<< ((nI i).toInt64 &&& 63)) ^^^ (-1)))) s := by
    unfold cms
    refine fb_ct_cong (fun c hc => ?_)
    rw [lb_del (by omega) (by omega)]
    by_cases q : c = i
    · simp [q]
    · simp [q]
  rw [e2] at e
  unfold cms at e ⊢
  rw [hL] at e
  cases hs : sat (cc i) (nI s) with
  | true => rw [hs] at e; simpa using e
  | false => rw [hs] at e; simpa using e
abbrev KA : Type := Int64 × Int32 × (Nat → Int64) × (Nat → Int32)
abbrev KB : Type := Int64 × Int32 × (Nat → Int32)
theorem core_loop {t : Nat → Int32} {w : Int32} {g h x y k cc cf cs cm cr : Nat → Int32} {ns nc q : Nat} {L0 : Int64} {v0 : Nat → Int32} (S : SOK t w g h x y k ns) (C : COK t cc cf cs cm cr nc) (hq : q < 1350) (h0 : SB L0 nc cf) (hv : ∀ s, s < 512 → v0 s = nI (cms nc cc (stn cf) s)) (wl : Nat → Int64) (al : Nat → Int32) :
    ∃ (b : KA) (b' : KB), iter (gX9_findCore_19 w (nI ns) g h x y k (nI nc) cc cf (nI q)) FU (L0, (0 : Int32), wl, v0) = some b ∧ iter (gX11_core_46 t (nI q)) FU (L0, (0 : Int32), al) = some b' ∧ b'.1 = b.1 := by
  have hn := C.1
  have h3 := C.2.1
  have hv1 : ∀ s, s < 512 → v0 s = nI (cms nc cc (lb L0) s) := fun s hs => by
    rw [hv s hs]
    unfold cms
    rw [fb_ct_cong (fun c hc => by rw [SB_lb h0 hn hc] : ∀ c, c < nc → (lb L0 c && !sat (cc c) (nI s)) = (stn cf c && !sat (cc c) (nI s)))]
  refine iter2 (g := gX9_findCore_19 w (nI ns) g h x y k (nI nc) cc cf (nI q)) (g' := gX11_core_46 t (nI q)) (fun (i : Nat) (c : KA) (c' : KB) => c'.1 = c.1 ∧ c.2.1 = nI i ∧ c'.2.1 = nI i ∧ (∀ u, i ≤ u → u < nc → lb c.1 u = stn cf u) ∧ ∀ s, s < 512 → c.2.2.2 s = nI (cms nc cc (lb c.1) s)) (fun (b : KA) (b' : KB) => b'.1 = b.1) nc (fun i c c' hi hI => Or.inl ?_) (fun c c' hI => ?_) nc 0 _ _ FU FU (by omega) (show nc < 100000 by omega) (show nc < 100000 by omega) ⟨rfl, rfl, rfl, fun u _ hu => SB_lb h0 hn hu, hv1⟩
  · obtain ⟨L, c2, c3, v⟩ := c
    obtain ⟨d1, d2, d3⟩ := c'
    obtain ⟨e1, e2, e3, hb, hv⟩ := hI
    dsimp only at e1 e2 e3 hb hv
    subst e1 e2 e3
    obtain ⟨r, hr, er⟩ := C.ks i hi
    have hbi := hb i (Nat.le_refl _) hi
    unfold gX9_findCore_19 gX11_core_46
    simp only [gg3, gd_tr, ii3, h3, if_neg (c_ge (n := nc) rfl hi (show nc < 2 ^ 31 by omega)), gd_nI (show i < 40 by omega) (show 40 < 2 ^ 31 by decide), ixn (show i < 2 ^ 31 by omega), has_lb d1 (show i < 64 by omega), bd_some, hbi, er]
    cases hst : stn cf i with
    | false =>
      have hf : ¬ cf i = 0 := by simpa [stn] using hst
      rw [if_neg hf, if_pos (by decide)]
      exact ⟨_, _, rfl, rfl, rfl, nI1 i, nI1 i, fun u hu hu2 => hb u (by omega) hu2, hv⟩
    | true =>
      have hf : cf i = 0 := by simpa [stn] using hst
      rw [hst] at hbi
      have hdel : ∀ s, cms nc cc (lb (d1 &&& (((1 : Int64) <<< ((nI i).toInt64 &&& 63)) ^^^ (-1)))) s + (if sat (cc i) (nI s) = true then 0 else 1) = cms nc cc (lb d1) s := fun s => cms_del hn hi hbi
      obtain ⟨v1, f1, z1⟩ := addMisses_eq (v := v) hr (-1)
      have hv1 : ∀ s, s < 512 → v1 s = nI (cms nc cc (lb (d1 &&& (((1 : Int64) <<< ((nI i).toInt64 &&& 63)) ^^^ (-1)))) s) := fun s hs => by
        rw [z1 s hs, hv s hs, ← hdel s, er]
        cases sat (nI r) (nI s) with
        | true => simp
        | false => simp only [Bool.false_eq_true, if_false]; exact nI_m _
      obtain ⟨W, k1⟩ := isEnough_eq S hn hq hv1 c3
      obtain ⟨al', k2, -⟩ := kern_eq S C d3 (d1 &&& (((1 : Int64) <<< ((nI i).toInt64 &&& 63)) ^^^ (-1)))
      rw [if_pos hf, if_neg (by decide), f1, bd_some, k1, bd_some, C.ag, bd_some]
      have back : ∃ v2, fX9_addMisses v1 (nI r) 1 = some v2 ∧ ∀ s, s < 512 → v2 s = nI (cms nc cc (lb d1) s) := by
        obtain ⟨v2, f2, z2⟩ := addMisses_eq (v := v1) hr 1
        refine ⟨v2, f2, fun s hs => ?_⟩
        rw [z2 s hs, hv1 s hs, ← hdel s, er]
        cases sat (nI r) (nI s) with
        | true => simp
        | false => simp only [Bool.false_eq_true, if_false]; exact nI1 _
      obtain ⟨v2, f2, z2⟩ := back
      cases hf2 : ffind 512 (fun s => alS nc cc (lb (d1 &&& (((1 : Int64) <<< ((nI i).toInt64 &&& 63)) ^^^ (-1)))) s && !sat (nI q) (nI s)) with
      | some s =>
        rw [oN_some, if_neg (ne6 (ff512 s hf2)), Option.isNone_some, Bool.false_and, if_pos (show b2i false = 0 by decide), f2, bd_some]
        exact ⟨_, _, rfl, rfl, rfl, nI1 i, nI1 i, fun u hu hu2 => hb u (by omega) hu2, z2⟩
      | none =>
        rw [oN_none, if_pos rfl, k2, bd_some, Option.isNone_none, Bool.true_and]
        cases kp ns (TG w g h x y k) (alS nc cc (lb (d1 &&& (((1 : Int64) <<< ((nI i).toInt64 &&& 63)) ^^^ (-1))))) with
        | false =>
          rw [if_pos (show b2i false = 0 by decide), if_pos (show b2i false = 0 by decide), f2, bd_some]
          exact ⟨_, _, rfl, rfl, rfl, nI1 i, nI1 i, fun u hu hu2 => hb u (by omega) hu2, z2⟩
        | true =>
          rw [if_neg (show ¬ b2i true = 0 by decide), if_neg (show ¬ b2i true = 0 by decide)]
          refine ⟨_, _, rfl, rfl, rfl, nI1 i, nI1 i, fun u hu hu2 => ?_, hv1⟩
          dsimp only
          have hne : ¬ u = i := by omega
          rw [lb_del (by omega) (by omega), hb u (by omega) hu2]
          simp [hne]
  · obtain ⟨L, c2, c3, v⟩ := c
    obtain ⟨d1, d2, d3⟩ := c'
    obtain ⟨e1, e2, e3, hb, hv⟩ := hI
    dsimp only at e1 e2 e3 hb hv
    subst e1 e2 e3
    refine ⟨(d1, nI nc, c3, v), (d1, nI nc, d3), fun f hf => iter_e ?_ hf, fun f hf => iter_e ?_ hf, rfl⟩
    · unfold gX9_findCore_19
      dsimp only
      rw [if_pos (c_le (n := nc) rfl (Nat.le_refl _) (by omega))]
    · unfold gX11_core_46
      dsimp only
      rw [gg3, gd_tr, ii3, h3, if_pos (c_le (n := nc) rfl (Nat.le_refl _) (by omega))]
theorem q_core {B : Nat} {t : Nat → Int32} {M : MS} (hM : RM B t M) (wl : Nat → Int64) (v_m al : Nat → Int32) (p0 : Int32) : ∃ ans wl' v' al', fX10_core (M.1 1) (M.1 4) (M.2.1 0) (M.2.1 1) (M.2.1 2) (M.2.1 3) (M.2.1 4) (M.1 5) (M.2.1 5) (M.2.1 6) wl v_m p0 = some (ans, wl', v') ∧ fX11_core t al p0 = some (ans, al') := by
  obtain ⟨ns, nc, e4, e5, S, C⟩ := hM.ok
  unfold fX10_core fX11_core
  rw [isCode_eq, isCode_01, bd_some, bd_some, e4, e5]
  cases hv : vc p0 with
  | false => rw [if_pos (by decide), if_pos (by decide)]; exact ⟨_, _, _, _, rfl, rfl⟩
  | true =>
    obtain ⟨k, hk, rfl⟩ := vc_lt hv
    obtain ⟨W, eF, eW, hW⟩ := stand_both C
    obtain ⟨v, ev, mv⟩ := ckern_eq S C wl
    obtain ⟨a, ea, ma⟩ := kern_eq S C al W
    have hA : ∀ u, u < 512 → alS nc (M.2.1 5) (stn (M.2.1 6)) u = alS nc (M.2.1 5) (lb W) u := fun u hu => (alS_congr (fun c hc => SB_lb hW C.1 hc)).symm
    rw [if_neg (by decide), if_neg (by decide), ev, bd_some, eW, bd_some, ea, bd_some, kp_congr S.cl hA]
    dsimp only
    cases hk2 : kp ns (TG (M.1 1) (M.2.1 0) (M.2.1 1) (M.2.1 2) (M.2.1 3) (M.2.1 4)) (alS nc (M.2.1 5) (lb W)) with
    | false => rw [if_pos (by decide), if_pos (by decide)]; exact ⟨_, _, _, _, rfl, rfl⟩
    | true =>
      rw [if_neg (by decide), if_neg (by decide), setMiss_eq v hk, bd_some, C.ag, bd_some, fm_eq (A := alS nc (M.2.1 5) (lb W)) (fun u hu => by rw [mv u hu, hA u hu])]
      by_cases hn : oN (ffind 512 (fun s => alS nc (M.2.1 5) (lb W) s && !sat (nI k) (nI s))) = -6
      · obtain ⟨v1, f1, z1⟩ := countMisses_eq (cf := M.2.1 6) C.1 C.ks v_m
        obtain ⟨b, b', g1, g2, g3⟩ := core_loop S C hk hW z1 v a
        rw [if_pos hn, if_pos hn]
        unfold fX9_findCore
        rw [eF, bd_some, f1, bd_some, g1, bd_some, bd_some, g2, bd_some, g3]
        exact ⟨_, _, _, _, rfl, rfl⟩
      · rw [if_neg hn, if_neg hn]; exact ⟨_, _, _, _, rfl, rfl⟩
