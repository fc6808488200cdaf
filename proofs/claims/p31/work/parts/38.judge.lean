/-! ===== judging by the states seen, in the class ===== -/
theorem setFate_eq {c_f c_s c_m c_r : Nat → Int32} {c : Nat} (hc : c < 40) (f s m r : Int32) : fX0_setFate c_f c_s c_m c_r (nI c) f s m r = some (upd c_f c f, upd c_s c s, upd c_m c m, upd c_r c r) := by
  unfold fX0_setFate
  rw [gd_nI hc (by decide), gd_nI hc (by decide), gd_nI hc (by decide), gd_nI hc (by decide), ixn (by omega)]
theorem fms_lt {n : Nat} {z : Nat → Nat} {k : Int32} {j : Nat} (h : fms n z k = some j) : j < n := (ffind_spec h).1
theorem judge_eq {c_c c_f c_s c_m c_r o : Nat → Int32} {z r : Nat → Nat} {n c k : Nat} (hc : c < 40) (hk : k < 1350) (hn : n ≤ 512) (hcc : c_c c = nI k) (ho : ∀ j, j < n → o j = nI (512 * r j + z j) ∧ z j < 512 ∧ r j < 4000000) : fX3_judgeBySeen (nI (z 0)) c_c c_f c_s c_m c_r (nI n) o (nI c) = some (upd c_f c (vd z r (fms n z (nI k))).1, upd c_s c (vd z r (fms n z (nI k))).2.1, upd c_m c (vd z r (fms n z (nI k))).2.2.1, upd c_r c (vd z r (fms n z (nI k))).2.2.2) := by
  unfold fX3_judgeBySeen
  rw [gd_nI hc (by decide), ixn (by omega), hcc, seenMiss_eq hk hn ho, bd_some]
  cases hf : fms n z (nI k) with
  | none =>
    rw [show oN none = (-6 : Int32) from rfl, if_neg (by decide), setFate_eq hc, bd_some]
    rfl
  | some j =>
    have hj := fms_lt hf
    obtain ⟨h1, h2, h3⟩ := ho j hj
    rw [show oN (some j) = nI j from rfl, if_pos (show 0 ≤ nI j by rw [le_toInt, nI_toInt (by omega), tI0]; omega)]
    by_cases h0 : j = 0
    · subst h0
      rw [if_pos (by decide : nI 0 = 0), setFate_eq hc, bd_some]
      rfl
    · have hj0 : ¬ nI j = 0 := fun e => h0 (nI_inj (b := 0) (by omega) (by decide) e)
      rw [if_neg hj0, stateAt_eq h1 (by omega) h2 h3, bd_some, runAt_eq h1 (by omega) h2 h3, bd_some, setFate_eq hc, bd_some]
      show _ = some (upd c_f c (if j = 0 then 1 else 2), upd c_s c (nI (z j)), upd c_m c (if j = 0 then -6 else nI (r j)), upd c_r c (-6))
      rw [if_neg h0, if_neg h0]
/-- candidate c's cells of the model and the class agree -/
def CRel (t c_c c_f c_s c_m c_r : Nat → Int32) (c : Nat) : Prop := t (47 + 5 * c) = c_c c ∧ t (47 + 5 * c + 1) = c_f c ∧ t (47 + 5 * c + 2) = c_s c ∧ t (47 + 5 * c + 3) = c_m c ∧ t (47 + 5 * c + 4) = c_r c
theorem upd_s {f : Nat → Int32} {k : Nat} {x : Int32} : upd f k x k = x := by unfold upd; rw [if_pos rfl]
theorem upd_o {f : Nat → Int32} {k j : Nat} {x : Int32} (h : ¬ j = k) : upd f k x j = f j := by unfold upd; rw [if_neg h]
theorem crel_s {t c_c c_f c_s c_m c_r : Nat → Int32} {c : Nat} {q : Int32 × Int32 × Int32 × Int32} (h : t (47 + 5 * c) = c_c c) : CRel (jrow t c q) c_c (upd c_f c q.1) (upd c_s c q.2.1) (upd c_m c q.2.2.1) (upd c_r c q.2.2.2) c := by
  refine ⟨by rw [jrow_o (by omega), h], ?_, ?_, ?_, ?_⟩
  · rw [upd_s]; unfold jrow; rw [if_neg (by omega), if_neg (by omega), if_neg (by omega), if_pos rfl]
  · rw [upd_s]; unfold jrow; rw [if_neg (by omega), if_neg (by omega), if_pos rfl]
  · rw [upd_s]; unfold jrow; rw [if_neg (by omega), if_pos rfl]
  · rw [upd_s]; unfold jrow; rw [if_pos rfl]
theorem crel_o {t c_c c_f c_s c_m c_r : Nat → Int32} {c d : Nat} {q : Int32 × Int32 × Int32 × Int32} (hd : ¬ d = c) (h : CRel t c_c c_f c_s c_m c_r d) : CRel (jrow t c q) c_c (upd c_f c q.1) (upd c_s c q.2.1) (upd c_m c q.2.2.1) (upd c_r c q.2.2.2) d := by
  obtain ⟨h0, h1, h2, h3, h4⟩ := h
  refine ⟨by rw [jrow_o (by omega), h0], ?_, ?_, ?_, ?_⟩
  · rw [jrow_o (by omega), upd_o hd, h1]
  · rw [jrow_o (by omega), upd_o hd, h2]
  · rw [jrow_o (by omega), upd_o hd, h3]
  · rw [jrow_o (by omega), upd_o hd, h4]
/-- the first states of an order, and a set of words -/
theorem beginAt_eq (o : Nat → Int32) (w : Nat → Int64) {s : Nat} (hs : s < 512) : ∃ o' w', fX6_beginAt o w (nI s) = some (1, o', w') ∧ o' 0 = nI s ∧ ∀ u, u < 512 → mem w' u = decide (u = s) := by
  obtain ⟨w1, e1, h1⟩ := clear_eq w
  obtain ⟨w2, e2, h2⟩ := add_eq w1 hs
  unfold fX6_beginAt fX6_add
  rw [e1, bd_some, has_eq w1 hs, h1 s hs, bd_some, if_pos (by decide : b2i false = 0), if_pos (by decide), show gi 0 512 = true from gi_nI (i := 0) (n := 512) (by decide) (by decide), gd_tr, e2, bd_some, bd_some]
  refine ⟨_, _, rfl, ?_, fun u hu => ?_⟩
  · show upd o (ix 0) ((512 : Int32) * 0 + nI s) 0 = _
    rw [show ix 0 = 0 from ixn (k := 0) (by decide), upd_s, show (512 : Int32) * 0 = 0 by decide, Int32.zero_add]
  · show mem w2 u = _
    rw [h2 u hu, h1 u hu, Bool.false_or]
