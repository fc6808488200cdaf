/-! ===== steps: where one leads ===== -/
/-- a number of a state; a state with another number -/
def pt (s w : Nat) : Nat := s / 8 ^ (2 - w) % 8
def setp (s w v : Nat) : Nat := s - (s / 8 ^ (2 - w) % 8) * 8 ^ (2 - w) + v * 8 ^ (2 - w)
theorem part_pt : ∀ s, s < 512 → ∀ w, w < 3 → fX11_part (nI s) (nI w) = some (nI (pt s w)) := by decide +kernel
theorem pt_lt (s w : Nat) : pt s w < 8 := Nat.mod_lt _ (by decide)
theorem repl_setp : ∀ w, w < 3 → ∀ s, s < 512 → ∀ v, v < 8 → fX8_replace (nI s) (nI w) (nI v) = some (nI (setp s w v)) := by decide +kernel
theorem with_setp : ∀ w, w < 3 → ∀ s, s < 512 → ∀ v, v < 8 → fX11_with (nI s) (nI w) (nI v) = some (nI (setp s w v)) := by decide +kernel
theorem setp_lt : ∀ w, w < 3 → ∀ s, s < 512 → ∀ v, v < 8 → setp s w v < 512 := by decide +kernel
theorem setp_swap : ∀ x, x < 3 → ∀ y, y < 3 → ¬ y = x → ∀ s, s < 512 → setp (setp s x (pt s y)) y (pt s x) = setp (setp s y (pt s x)) x (pt s y) := by decide +kernel
/-- what a step makes the number, before it is looked at -/
def nxv (h k : Int32) (p : Nat) : Int32 := k + (if h = 1 then nI p else 0)
def nxt (g h : Int32) (x y : Nat) (k w : Int32) (s : Nat) : Option Nat :=
  if sat g (nI s) = true then
    if h = 2 then some (setp (setp s x (pt s y)) y (pt s x))
    else if ((nxv h k (pt s y)).toInt < 0 ∨ 7 < (nxv h k (pt s y)).toInt) ∧ w = 0 then none else some (setp s x (ix (nxv h k (pt s y) &&& 7)))
  else none
def oN : Option Nat → Int32
  | none => N6
  | some s => nI s
/-- an action as the document tells -/
def okA (h x y k : Int32) : Prop := ∃ a b : Nat, a < 3 ∧ b < 3 ∧ x = nI a ∧ y = nI b ∧ ((h = 0 ∧ ∃ j : Nat, j < 8 ∧ k = nI j) ∨ h = 1 ∨ (h = 2 ∧ ¬ b = a))
theorem and7 (z : Int32) : ∃ j : Nat, j < 8 ∧ z &&& 7 = nI j := pk_andE z (m := 7) 3 (by decide)
theorem nxt_lt {g h k w : Int32} {x y s s' : Nat} (hx : x < 3) (hy : y < 3) (hs : s < 512) (hh : nxt g h x y k w s = some s') : s' < 512 := by
  unfold nxt at hh
  split at hh
  · split at hh
    · cases hh
      exact setp_lt y hy _ (setp_lt x hx s hs _ (pt_lt _ _)) _ (pt_lt _ _)
    · split at hh
      · cases hh
      · cases hh
        obtain ⟨j, hj, e⟩ := and7 (nxv h k (pt s y))
        rw [e, ixn (by omega)]
        exact setp_lt x hx s hs j hj
  · cases hh
theorem gi1 : gi 1 1271 = true := gi_nI (i := 1) (n := 1271) (by decide) (by decide)
theorem ix1 : ix 1 = 1 := ixn (k := 1) (by decide)
theorem ofRow_eq {t : Nat → Int32} {i j : Nat} {J : Int32} (hJ : J = nI j) (hi : i < 8) (hj : j < 5) : fX11_ofRow t (nI i) J = some (t (7 + 5 * i + j)) := by
  subst hJ
  unfold fX11_ofRow
  rw [show (7 : Int32) = nI 7 from rfl, show (5 : Int32) = nI 5 from rfl, pk_mul, nI_add, nI_add, gd_nI (by omega) (by decide), ixn (by omega)]
set_option maxHeartbeats 1000000 in
theorem next_eq {t : Nat → Int32} {i s : Nat} {g h x y k : Int32} (hi : i < 8) (hs : s < 512) (e0 : t (7 + 5 * i) = g) (e1 : t (7 + 5 * i + 1) = h) (e2 : t (7 + 5 * i + 2) = x) (e3 : t (7 + 5 * i + 3) = y) (e4 : t (7 + 5 * i + 4) = k) (ok : okA h x y k) : fX11_next t (nI i) (nI s) = some (oN (nxt g h (ix x) (ix y) k (t 1) s)) := by
  obtain ⟨a, b, ha, hb, rfl, rfl, hk⟩ := ok
  unfold fX11_next jX11_next_89 jX11_next_115
  have gz : ∀ k : Option Int32, gd (gi 1 1271) k = k := fun k => gd_t gi1
  simp only [gz, ix1]
  clear gz
  rw [ofRow_eq (j := 0) (J := 0) rfl hi (by decide), ofRow_eq (j := 1) (J := 1) rfl hi (by decide), ofRow_eq (j := 2) (J := 2) rfl hi (by decide), ofRow_eq (j := 3) (J := 3) rfl hi (by decide), ofRow_eq (j := 4) (J := 4) rfl hi (by decide), Nat.add_zero, e0, e1, e2, e3, e4]
  simp only [bd_some, isSo_sat]
  rw [ixn (by omega), ixn (by omega)]
  unfold nxt
  by_cases hg : sat g (nI s) = true
  · rw [hg, if_neg (by decide : ¬ b2i true = 0), if_pos rfl]
    have pb := pt_lt s b
    have pa := pt_lt s a
    simp only [part_pt s hs b hb, part_pt s hs a ha, bd_some]
    by_cases h2 : h = 2
    · rw [if_pos h2, if_pos h2]
      simp only [with_setp a ha s hs _ pb, bd_some, with_setp b hb _ (setp_lt a ha s hs _ pb) _ pa]
      rfl
    · rw [if_neg h2, if_neg h2]
      have key : ∀ u : Int32, u = (if h = 1 then nI (pt s b) else 0) → (bd (fX11_in (k + u) 0 7) fun y_97 => if y_97 = 0 then (if t 1 = 0 then some (-6) else bd (fX11_with (nI s) (nI a) ((k + u) &&& 7)) fun y_122 => some y_122) else bd (fX11_with (nI s) (nI a) ((k + u) &&& 7)) fun y_122 => some y_122) = some (oN (if ((nxv h k (pt s b)).toInt < 0 ∨ 7 < (nxv h k (pt s b)).toInt) ∧ t 1 = 0 then none else some (setp s a (ix (nxv h k (pt s b) &&& 7))))) := by
        intro u hu
        have hv : nxv h k (pt s b) = k + u := by unfold nxv; rw [hu]
        rw [hv]
        obtain ⟨j, hj, ej⟩ := and7 (k + u)
        rw [ej, ixn (by omega), with_setp a ha s hs j hj]
        rcases in_01 (k + u) 0 7 with ⟨e, q⟩ | ⟨e, q1, q2⟩
        · rw [e, bd_some, if_pos rfl]
          rw [tI0, tI7] at q
          by_cases hw : t 1 = 0
          · rw [if_pos hw, if_pos ⟨q, hw⟩]; rfl
          · rw [if_neg hw, if_neg (fun z => hw z.2)]; rfl
        · rw [e, bd_some, if_neg i0ne1]
          rw [tI0] at q1; rw [tI7] at q2
          rw [if_neg (fun z => by rcases z.1 with z | z <;> omega)]; rfl
      by_cases h1 : h = 1
      · rw [if_pos h1]
        exact key (nI (pt s b)) (by rw [if_pos h1])
      · rw [if_neg h1]
        exact key 0 (by rw [if_neg h1])
  · have hg' : sat g (nI s) = false := by simpa using hg
    rw [hg', if_pos (by decide : b2i false = 0), if_neg (by decide)]
    rfl
theorem nI8 : ∀ j, j < 8 → (nI j + 0) &&& 7 = nI j ∧ ¬ (nI j + 0).toInt < 0 ∧ ¬ 7 < (nI j + 0).toInt := by decide +kernel
set_option maxHeartbeats 1000000 in
theorem target_eq {s_g s_h s_x s_y s_k : Nat → Int32} {i s : Nat} {w W : Int32} (hi : i < 8) (hs : s < 512) (hg : ∃ q : Nat, q < 1350 ∧ s_g i = nI q) (ok : okA (s_h i) (s_x i) (s_y i) (s_k i)) (hW : W = 0 ↔ w = 0) : fX8_target s_g s_h s_x s_y s_k (nI i) (nI s) W = some (oN (nxt (s_g i) (s_h i) (ix (s_x i)) (ix (s_y i)) (s_k i) w s)) := by
  obtain ⟨q, hq, eg⟩ := hg
  obtain ⟨a, b, ha, hb, ex, ey, hk⟩ := ok
  unfold fX8_target jX8_target_100
  rw [gd_nI hi (by decide), ixn (by omega), eg, isMet_sat hq, bd_some]
  unfold nxt
  by_cases hgs : sat (nI q) (nI s) = true
  · rw [hgs, if_neg (by decide : ¬ b2i true = 0), if_pos rfl]
    simp only [gd_nI hi (show 8 < 2 ^ 31 by decide)]
    have pb := pt_lt s b
    have pa := pt_lt s a
    rw [ex, ey, ixn (by omega), ixn (by omega)]
    simp only [part_eq, part_pt s hs b hb, part_pt s hs a ha, bd_some]
    rcases hk with ⟨h0, j, hj, ek⟩ | h1 | ⟨h2, hab⟩
    · have n2 : ¬ s_h i = 2 := by rw [h0]; decide
      have n1 : ¬ s_h i = 1 := by rw [h0]; decide
      obtain ⟨f1, f2, f3⟩ := nI8 j hj
      have hv : nxv (s_h i) (s_k i) (pt s b) = nI j + 0 := by unfold nxv; rw [if_neg n1, ek]
      rw [if_pos h0, if_neg n2, hv, f1, ek, repl_setp a ha s hs j hj, if_neg (fun z => by rcases z.1 with z | z <;> contradiction), ixn (by omega)]
      rfl
    · have n2 : ¬ s_h i = 2 := by rw [h1]; decide
      have n0 : ¬ s_h i = 0 := by rw [h1]; decide
      have hv : nxv (s_h i) (s_k i) (pt s b) = nI (pt s b) + s_k i := by unfold nxv; rw [if_pos h1, Int32.add_comm]
      rw [if_neg n0, if_pos h1, if_neg n2, hv]
      obtain ⟨j, hj, ej⟩ := and7 (nI (pt s b) + s_k i)
      rw [ej, ixn (by omega), repl_setp a ha s hs j hj, digit_01]
      by_cases hW0 : W = 0
      · rw [if_pos hW0]
        rcases in_01 (nI (pt s b) + s_k i) 0 7 with ⟨e, q⟩ | ⟨e, q1, q2⟩
        · rw [tI0, tI7] at q
          rw [e, bd_some, if_pos rfl, if_pos ⟨q, hW.mp hW0⟩]; rfl
        · rw [tI0] at q1; rw [tI7] at q2
          rw [e, bd_some, if_neg i0ne1, if_neg (fun z => by rcases z.1 with z | z <;> omega)]; rfl
      · rw [if_neg hW0, if_neg (fun z => hW0 (hW.mpr z.2))]; rfl
    · have n1 : ¬ s_h i = 1 := by rw [h2]; decide
      have n0 : ¬ s_h i = 0 := by rw [h2]; decide
      rw [if_neg n0, if_neg n1, if_pos h2, repl_setp b hb s hs _ pa, bd_some, repl_setp a ha _ (setp_lt b hb s hs _ pa) _ pb, setp_swap a ha b hb hab s hs]
      rfl
  · have hg' : sat (nI q) (nI s) = false := by simpa using hgs
    rw [hg', if_pos (by decide : b2i false = 0), if_neg (by decide)]
    rfl
