/-! ===== whole operations, with their record ===== -/
theorem RM.sn {B : Nat} {t : Nat → Int32} {M : MS} (h : RM B t M) : RM B t (snap (M.1 0) (M.1 1) (M.1 2) (M.1 3) (M.1 4) (M.2.1 0) (M.2.1 1) (M.2.1 2) (M.2.1 3) (M.2.1 4) (M.1 5) (M.2.1 5) (M.2.1 6) (M.2.1 7) (M.2.1 8) (M.2.1 9) (M.1 6) (M.2.1 10) M.2.2) := by
  refine h.congr (fun j _ => rfl) (fun i hi => ?_) (fun w hw i hi => ?_) (fun w hw1 hw2 i hi => ?_) (fun n' _ hn' i hi => rfl) (fun j hj => rfl)
  · rcases (show i = 0 ∨ i = 1 ∨ i = 2 ∨ i = 3 ∨ i = 4 ∨ i = 5 ∨ i = 6 by omega) with rfl | rfl | rfl | rfl | rfl | rfl | rfl <;> rfl
  · rcases (show w = 0 ∨ w = 1 ∨ w = 2 ∨ w = 3 ∨ w = 4 by omega) with rfl | rfl | rfl | rfl | rfl <;> rfl
  · rcases (show w = 5 ∨ w = 6 ∨ w = 7 ∨ w = 8 ∨ w = 9 by omega) with rfl | rfl | rfl | rfl | rfl <;> rfl
theorem op_start {B : Nat} {t was : Nat → Int32} {sv h_n : Int32} {K : Nat → MS} {M : MS} (hM : RM B t M) (hH : RH B was sv h_n K) (p0 p1 p2 : Int32) :
    ∃ ans hn' a ru ro f s m r en o w K' t' was' sv', fX10_start h_n (M.1 0) (M.1 1) (M.1 2) (M.1 3) (M.1 4) (M.2.1 0) (M.2.1 1) (M.2.1 2) (M.2.1 3) (M.2.1 4) (M.1 5) (M.2.1 5) (M.2.1 6) (M.2.1 7) (M.2.1 8) (M.2.1 9) (M.1 6) (M.2.1 10) M.2.2 K p0 p1 p2 = some (ans, hn', a, ru, ro, f, s, m, r, en, o, w, K') ∧ fX11_start t was sv 0 p0 p1 p2 = some (ans, sv', t', was') ∧
    RM B t' (snap a (M.1 1) ru ro (M.1 4) (M.2.1 0) (M.2.1 1) (M.2.1 2) (M.2.1 3) (M.2.1 4) (M.1 5) (M.2.1 5) f s m r en o w) ∧ RH B was' sv' hn' K' := by
  obtain ⟨K1, k1, k2, was1, sv1, k3, k4⟩ := prep_eq hH hM.sn
  unfold fX10_start
  rw [k1, bd_some]
  rcases start_eq hM p0 p1 p2 with ⟨hd, e⟩ | ⟨⟨d0, d1, d2⟩, hp, ht, a, t', f, s, m, r, o, w, g1, g2, g3⟩
  · rw [e, bd_some, confirm_neg (show (-2 : Int32) < 0 by decide), bd_some]
    refine ⟨_, _, _, _, _, _, _, _, _, _, _, _, _, t, was, sv, rfl, ?_, hM.sn, k2⟩
    unfold fX11_start
    rcases in_01 p0 0 7 with ⟨e0, -⟩ | ⟨e0, -⟩
    · rw [e0, bd_some, if_pos rfl]
    rcases in_01 p1 0 7 with ⟨e1, -⟩ | ⟨e1, -⟩
    · rw [e0, e1, bd_some, if_neg i0ne1, bd_some, if_pos rfl]
    rcases in_01 p2 0 7 with ⟨e2, -⟩ | ⟨e2, -⟩
    · rw [e0, e1, e2, bd_some, if_neg i0ne1, bd_some, if_neg i0ne1, bd_some, if_pos rfl]
    exfalso
    rw [e0, e1, e2] at hd
    rcases hd with q | q | q <;> exact absurd q (by decide)
  · obtain ⟨h', K2, k5, k6⟩ := k4 (M.1 0) hp
    rw [g2, bd_some, k5, bd_some]
    refine ⟨_, _, _, _, _, _, _, _, _, _, _, _, _, t', was1, sv1, rfl, ?_, g3, k6⟩
    unfold fX11_start
    rw [d0, d1, d2, bd_some, if_neg i0ne1, bd_some, if_neg i0ne1, bd_some, if_neg i0ne1, k3, bd_some, gg0, gd_tr, gd_tr, ii0, g1, bd_some, ht]
