theorem srel_new {t s_g s_h s_x s_y s_k : Nat → Int32} {ns : Nat} {g h x y k v : Int32} (hg : ∃ q : Nat, q < 1350 ∧ g = nI q) (ok : okA h x y k) : SRel (upd (upd (upd (upd (upd (upd t (7 + 5 * ns) g) (7 + 5 * ns + 1) h) (7 + 5 * ns + 2) x) (7 + 5 * ns + 3) y) (7 + 5 * ns + 4) k) 2 v) (upd s_g ns g) (upd s_h ns h) (upd s_x ns x) (upd s_y ns y) (upd s_k ns k) ns := by
  unfold SRel
  rw [upd_s, upd_s, upd_s, upd_s, upd_s]
  refine ⟨⟨?_, ?_, ?_, ?_, ?_⟩, hg, ok⟩
  · rw [upd_o (by omega), upd_o (by omega), upd_o (by omega), upd_o (by omega), upd_o (by omega), upd_s]
  · rw [upd_o (by omega), upd_o (by omega), upd_o (by omega), upd_o (by omega), upd_s]
  · rw [upd_o (by omega), upd_o (by omega), upd_o (by omega), upd_s]
  · rw [upd_o (by omega), upd_o (by omega), upd_s]
  · rw [upd_o (by omega), upd_s]
theorem srel_old {t s_g s_h s_x s_y s_k : Nat → Int32} {ns i : Nat} {g h x y k v : Int32} (hi : i < ns) (q : SRel t s_g s_h s_x s_y s_k i) : SRel (upd (upd (upd (upd (upd (upd t (7 + 5 * ns) g) (7 + 5 * ns + 1) h) (7 + 5 * ns + 2) x) (7 + 5 * ns + 3) y) (7 + 5 * ns + 4) k) 2 v) (upd s_g ns g) (upd s_h ns h) (upd s_x ns x) (upd s_y ns y) (upd s_k ns k) i := by
  obtain ⟨⟨q0, q1, q2, q3, q4⟩, q5, q6⟩ := q
  unfold SRel
  rw [upd_o (by omega), upd_o (by omega), upd_o (by omega), upd_o (by omega), upd_o (by omega)]
  have o : ∀ j, 7 ≤ j → j < 7 + 5 * ns → upd (upd (upd (upd (upd (upd t (7 + 5 * ns) g) (7 + 5 * ns + 1) h) (7 + 5 * ns + 2) x) (7 + 5 * ns + 3) y) (7 + 5 * ns + 4) k) 2 v j = t j := fun j j1 j2 => by
    rw [upd_o (by omega), upd_o (by omega), upd_o (by omega), upd_o (by omega), upd_o (by omega), upd_o (by omega)]
  refine ⟨⟨?_, ?_, ?_, ?_, ?_⟩, ?_, ?_⟩
  · rw [o _ (by omega) (by omega)]; exact q0
  · rw [o _ (by omega) (by omega)]; exact q1
  · rw [o _ (by omega) (by omega)]; exact q2
  · rw [o _ (by omega) (by omega)]; exact q3
  · rw [o _ (by omega) (by omega)]; exact q4
  · exact q5
  · exact q6
