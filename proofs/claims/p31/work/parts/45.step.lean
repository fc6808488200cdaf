theorem srel_new {t s_g s_h s_x s_y s_k : Nat → Int32} {ns : Nat} {g h x y k v : Int32} (hg : ∃ q : Nat, q < 1350 ∧ g = nI q) (ok : okA h x y k) : SRel (upd (upd (upd (upd (upd (upd t (7 + 5 * ns) g) (7 + 5 * ns + 1) h) (7 + 5 * ns + 2) x) (7 + 5 * ns + 3) y) (7 + 5 * ns + 4) k) 2 v) (upd s_g ns g) (upd s_h ns h) (upd s_x ns x) (upd s_y ns y) (upd s_k ns k) ns := by
  unfold SRel
  rw [upd_s, upd_s, upd_s, upd_s, upd_s]
  refine ⟨⟨?_, ?_, ?_, ?_, ?_⟩, hg, ok⟩
  · rw [upd_o (by omega), upd_o (by omega), upd_o (by omega), upd_o (by omega), upd_o (by omega), upd_s]
  · rw [upd_o (by omega), upd_o (by omega), upd_o (by omega), upd_o (by omega), upd_s]
  · rw [upd_o (by omega), upd_o (by omega), upd_o (by omega), upd_s]
  · rw [upd_o (by omega), upd_o (by omega), upd_s]
  · rw [upd_o (by omega), upd_s]
theorem srel_old {t s_g s_h s_x s_y s_k : Nat → Int32} {ns i : Nat} {g h x y k v : Int32} (hi : i < ns) (q : SRel t s_g s_h s_x s_y s_k i) : SRel (upd (upd (upd (upd (upd (upd t (7 + 5 * ns) g) (7 + 5 * ns + 1) h) (7 + 5 * ns + 2) x) (7 + 5 * ns + 3) y) (7 + 5 * ns + 4) k) 2 v) (upd s_g ns g) (upd s_h ns h) (upd s_x ns x) (upd s_y ns y) (upd s_k ns k) i := by
  obtain ⟨⟨q0, q1, q2, q3, q4⟩, q5, q6⟩ := q
  unfold SRel
  have u : ∀ (f : Nat → Int32) (c : Int32), upd f ns c i = f i := fun f c => upd_o (by omega)
  rw [u, u, u, u, u]
  have o : ∀ j, 7 ≤ j → j < 7 + 5 * ns → upd (upd (upd (upd (upd (upd t (7 + 5 * ns) g) (7 + 5 * ns + 1) h) (7 + 5 * ns + 2) x) (7 + 5 * ns + 3) y) (7 + 5 * ns + 4) k) 2 v j = t j := fun j j1 j2 => by
    rw [upd_o (by omega), upd_o (by omega), upd_o (by omega), upd_o (by omega), upd_o (by omega), upd_o (by omega)]
  refine ⟨⟨?_, ?_, ?_, ?_, ?_⟩, ?_, ?_⟩
  · rw [o _ (by omega) (by omega)]; exact q0
  · rw [o _ (by omega) (by omega)]; exact q1
  · rw [o _ (by omega) (by omega)]; exact q2
  · rw [o _ (by omega) (by omega)]; exact q3
  · rw [o _ (by omega) (by omega)]; exact q4
  · exact q5
  · exact q6
theorem e5_7 (n : Nat) : (7 : Int32) + (5 : Int32) * nI n = nI (7 + 5 * n) := e5 7 n
/-- what the model makes of a new step, its record aside -/
def mStep (t : Nat → Int32) (ns : Nat) (g h x y k : Int32) : Nat → Int32 := upd (upd (upd (upd (upd (upd t (7 + 5 * ns) g) (7 + 5 * ns + 1) h) (7 + 5 * ns + 2) x) (7 + 5 * ns + 3) y) (7 + 5 * ns + 4) k) 2 (nI (ns + 1))
theorem mstep_eq {t was : Nat → Int32} {sv : Int32} {ns : Nat} {g h x y k : Int32} (hns : ns < 8) (h2 : t 2 = nI ns) (hc : vc g = true) (ha : fX11_isAction h x y k = some 1) : fX11_step t was sv 0 g h x y k = bd (fX11_records t was sv 0) fun y_41 => bd (fX11_begins (mStep t ns g h x y k)) fun y_114 => some (nI ns, y_41.1, y_114, y_41.2) := by
  unfold fX11_step
  have gz : ∀ (K : Int32) (k : Nat), K = nI k → k < 1271 → ∀ q : Option (Int32 × Int32 × (Nat → Int32) × (Nat → Int32)), gd (gi K 1271) q = q := fun K k e hk q => gm e hk
  rw [isCode_01, hc, bd_some, if_neg (by decide : ¬ b2i true = 0), ha, bd_some, if_neg i0ne1, gg2, gd_tr, ii2, h2, if_neg (show ¬ nI ns = (8 : Int32) from fun e => by have := nI_inj (b := 8) (by omega) (by decide) e; omega)]
  congr 1
  funext y_41
  rw [e5_7, show (1 : Int32) = nI 1 from rfl, show nI (7 + 5 * ns) + nI 1 = nI (7 + 5 * ns + 1) from nI_add _ _, show nI (7 + 5 * ns) + (2 : Int32) = nI (7 + 5 * ns + 2) from nI_add _ 2, show nI (7 + 5 * ns) + (3 : Int32) = nI (7 + 5 * ns + 3) from nI_add _ 3, show nI (7 + 5 * ns) + (4 : Int32) = nI (7 + 5 * ns + 4) from nI_add _ 4]
  rw [gz _ _ rfl (by omega), gz _ _ rfl (by omega), gz _ _ rfl (by omega), gz _ _ rfl (by omega), gz _ _ rfl (by omega), gd_tr, gd_tr, ixn (by omega), ixn (by omega), ixn (by omega), ixn (by omega), ixn (by omega)]
  rw [show upd (upd (upd (upd (upd t (7 + 5 * ns) g) (7 + 5 * ns + 1) h) (7 + 5 * ns + 2) x) (7 + 5 * ns + 3) y) (7 + 5 * ns + 4) k 2 = nI ns by rw [upd_o (by omega), upd_o (by omega), upd_o (by omega), upd_o (by omega), upd_o (by omega), h2], nI_add]
  rfl
