/-! ===== what beginning anew leaves ===== -/
theorem begin_RM {B : Nat} {t s_g s_h s_x s_y s_k c_c c_f c_s c_m c_r e_o : Nat → Int32} {we : Nat → Int64} {w : Int32} {s ns nc : Nat} (hs : s < 512) (hw : w = 0 ∨ w = 1) (hns : ns ≤ 8) (hc : nc ≤ 40) (h0 : t 0 = nI s) (h1 : t 1 = w) (h2 : t 2 = nI ns) (h3 : t 3 = nI nc) (hS : ∀ i, i < ns → SRel t s_g s_h s_x s_y s_k i) (hk : ∀ c, c < nc → t (47 + 5 * c) = c_c c ∧ ∃ k, k < 1350 ∧ c_c c = nI k) :
    ∃ t' f' s' m' r' o' w', fX11_begins t = some t' ∧ fX3_beginAnew (nI s) (nI nc) c_c c_f c_s c_m c_r e_o we = some (0, 0, f', s', m', r', 1, o', w') ∧ (∀ j, j < 4 → t' j = t j) ∧ RM B t' (snap (nI s) w 0 0 (nI ns) s_g s_h s_x s_y s_k (nI nc) c_c f' s' m' r' 1 o' w') := by
  obtain ⟨t', f', s', m', r', o', w', e1, e2, e3, e4, e5, e6, e7, e8, e9, e10⟩ := begin_eq (c_f := c_f) (c_s := c_s) (c_m := c_m) (c_r := c_r) (e_o := e_o) (we := we) hs hc h0 h3 hk
  refine ⟨t', f', s', m', r', o', w', e1, e2, fun j hj => e9 j (by omega) (by omega) (by omega) (by omega), ns, nc, 1, 0, (fun _ => s), (fun _ => 0), ⟨rfl, hw, rfl, rfl, rfl, rfl⟩, ⟨hns, hc, by decide, by decide, Nat.zero_le _⟩, ⟨?_, ?_, ?_, ?_, e5, e6, e7⟩, fun i hi => ?_, fun c hc' => ⟨e10 c hc', (hk c hc').2⟩, fun j hj => ?_, fun i j hi hj _ => by omega, fun u hu => ?_⟩
  · rw [e9 0 (by decide) (by decide) (by decide) (by decide), h0]; rfl
  · rw [e9 1 (by decide) (by decide) (by decide) (by decide), h1]; rfl
  · rw [e9 2 (by decide) (by decide) (by decide) (by decide), h2]; rfl
  · rw [e9 3 (by decide) (by decide) (by decide) (by decide), h3]; rfl
  · obtain ⟨⟨q0, q1, q2, q3, q4⟩, q5, q6⟩ := hS i hi
    refine ⟨⟨?_, ?_, ?_, ?_, ?_⟩, q5, q6⟩
    · rw [e9 _ (by omega) (by omega) (by omega) (by omega)]; exact q0
    · rw [e9 _ (by omega) (by omega) (by omega) (by omega)]; exact q1
    · rw [e9 _ (by omega) (by omega) (by omega) (by omega)]; exact q2
    · rw [e9 _ (by omega) (by omega) (by omega) (by omega)]; exact q3
    · rw [e9 _ (by omega) (by omega) (by omega) (by omega)]; exact q4
  · have : j = 0 := by omega
    subst this
    refine ⟨?_, hs, Nat.zero_le _, e8, fun h => absurd h (by decide)⟩
    show o' 0 = _
    rw [e3, show 512 * 0 + s = s by omega]
  · show mem w' u = true ↔ _
    rw [e4 u hu, decide_eq_true_eq]
    constructor
    · intro h; exact ⟨0, by decide, h.symm⟩
    · rintro ⟨k, -, h⟩; exact h.symm
theorem srel_o {t s_g s_h s_x s_y s_k : Nat → Int32} {i j : Nat} {v : Int32} (hj : j < 7 ∨ 47 ≤ j) (hi : i < 8) (h : SRel t s_g s_h s_x s_y s_k i) : SRel (upd t j v) s_g s_h s_x s_y s_k i := by
  obtain ⟨⟨q0, q1, q2, q3, q4⟩, q5, q6⟩ := h
  refine ⟨⟨?_, ?_, ?_, ?_, ?_⟩, q5, q6⟩
  · rw [upd_o (by omega)]; exact q0
  · rw [upd_o (by omega)]; exact q1
  · rw [upd_o (by omega)]; exact q2
  · rw [upd_o (by omega)]; exact q3
  · rw [upd_o (by omega)]; exact q4
theorem dig_lt {p : Int32} (h : fX11_in p 0 7 = some 1) : ∃ d : Nat, d < 8 ∧ p = nI d := by
  rcases in_01 p 0 7 with ⟨e, -⟩ | ⟨-, h1, h2⟩
  · rw [e] at h; exact absurd h (by decide)
  · rw [tI0] at h1; rw [tI7] at h2
    obtain ⟨d, hd, rfl⟩ : ∃ d : Nat, d < 2 ^ 31 ∧ p = nI d := nI_of (by rw [lt_toInt, tI0]; omega)
    rw [nI_toInt hd] at h2
    exact ⟨d, by omega, rfl⟩
/-- start, in both machines -/
theorem start_eq {B : Nat} {t : Nat → Int32} {M : MS} (h : RM B t M) (p0 p1 p2 : Int32) :
    (fX11_in p0 0 7 = some 0 ∨ fX11_in p1 0 7 = some 0 ∨ fX11_in p2 0 7 = some 0) ∧ fX3_setStart (M.1 0) (M.1 2) (M.1 3) (M.1 5) (M.2.1 5) (M.2.1 6) (M.2.1 7) (M.2.1 8) (M.2.1 9) (M.1 6) (M.2.1 10) M.2.2 p0 p1 p2 = some (-2, M.1 0, M.1 2, M.1 3, M.2.1 6, M.2.1 7, M.2.1 8, M.2.1 9, M.1 6, M.2.1 10, M.2.2) ∨
    (fX11_in p0 0 7 = some 1 ∧ fX11_in p1 0 7 = some 1 ∧ fX11_in p2 0 7 = some 1) ∧ 0 ≤ M.1 0 ∧ t 0 = M.1 0 ∧ ∃ a t' f' s' m' r' o' w', fX11_begins (upd t 0 ((((64 : Int32) * p0) + ((8 : Int32) * p1)) + p2)) = some t' ∧ fX3_setStart (M.1 0) (M.1 2) (M.1 3) (M.1 5) (M.2.1 5) (M.2.1 6) (M.2.1 7) (M.2.1 8) (M.2.1 9) (M.1 6) (M.2.1 10) M.2.2 p0 p1 p2 = some (M.1 0, a, 0, 0, f', s', m', r', 1, o', w') ∧ RM B t' (snap a (M.1 1) 0 0 (M.1 4) (M.2.1 0) (M.2.1 1) (M.2.1 2) (M.2.1 3) (M.2.1 4) (M.1 5) (M.2.1 5) f' s' m' r' 1 o' w') := by
  unfold fX3_setStart
  rw [digit_01, digit_01, digit_01]
  rcases in_01 p0 0 7 with ⟨e0, -⟩ | ⟨e0, -⟩
  · left; rw [e0, bd_some, if_pos rfl]; exact ⟨Or.inl rfl, rfl⟩
  rcases in_01 p1 0 7 with ⟨e1, -⟩ | ⟨e1, -⟩
  · left; rw [e0, e1, bd_some, if_neg i0ne1, bd_some, if_pos rfl]; exact ⟨Or.inr (Or.inl rfl), rfl⟩
  rcases in_01 p2 0 7 with ⟨e2, -⟩ | ⟨e2, -⟩
  · left; rw [e0, e1, e2, bd_some, if_neg i0ne1, bd_some, if_neg i0ne1, bd_some, if_pos rfl]; exact ⟨Or.inr (Or.inr rfl), rfl⟩
  right
  obtain ⟨ns, nc, n, R, z, r, ⟨a1, a2, a3, a4, a5, a6⟩, ⟨b1, b2, b3, b4, b5⟩, ⟨c1, c2, c3, c4, c5, c6, c7⟩, d, e, f, -⟩ := h
  obtain ⟨x, hx, rfl⟩ := dig_lt e0
  obtain ⟨y, hy, rfl⟩ := dig_lt e1
  obtain ⟨v, hv, rfl⟩ := dig_lt e2
  have ea : (((64 : Int32) * nI x) + ((8 : Int32) * nI y)) + nI v = nI (64 * x + 8 * y + v) := by
    rw [show (64 : Int32) = nI 64 from rfl, show (8 : Int32) = nI 8 from rfl, pk_mul, pk_mul, nI_add, nI_add]
  rw [ea]
  obtain ⟨t', f', s', m', r', o', w', g1, g2, g3, g4⟩ := begin_RM (B := B) (t := upd t 0 (nI (64 * x + 8 * y + v))) (s := 64 * x + 8 * y + v) (ns := ns) (nc := nc) (w := M.1 1) (s_g := M.2.1 0) (s_h := M.2.1 1) (s_x := M.2.1 2) (s_y := M.2.1 3) (s_k := M.2.1 4) (c_c := M.2.1 5) (c_f := M.2.1 6) (c_s := M.2.1 7) (c_m := M.2.1 8) (c_r := M.2.1 9) (e_o := M.2.1 10) (we := M.2.2) (by omega) a2 b1 b2 upd_s (by rw [upd_o (by decide), c2]) (by rw [upd_o (by decide), c3, a4]) (by rw [upd_o (by decide), c4, a5]) (fun i hi => srel_o (Or.inl (by decide)) (by omega) (d i hi)) (fun c hc => ⟨by rw [upd_o (by omega)]; exact (e c hc).1.1, (e c hc).2⟩)
  refine ⟨⟨e0, e1, e2⟩, ?_, c1, _, t', f', s', m', r', o', w', g1, ?_, by rw [a4, a5]; exact g4⟩
  · rw [a1, le_toInt, tI0, nI_toInt (by have := (f 0 (by omega)).2.1; omega)]; omega
  · rw [e0, e1, e2, bd_some, if_neg i0ne1, bd_some, if_neg i0ne1, bd_some, if_neg i0ne1, a5, g2, bd_some]
