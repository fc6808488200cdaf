/-! ===== calls over a part of a world that has a tail ===== -/
def adr17 (a0 a1 a2 a3 a4 a5 a6 a7 a8 a9 a10 a11 a12 a13 a14 a15 a16 : Nat) : Nat → Nat := fun i => match i with | 0 => a0 | 1 => a1 | 2 => a2 | 3 => a3 | 4 => a4 | 5 => a5 | 6 => a6 | 7 => a7 | 8 => a8 | 9 => a9 | 10 => a10 | 11 => a11 | 12 => a12 | 13 => a13 | 14 => a14 | 15 => a15 | _ => a16
theorem perm_h {α : Type} {E A B pk ps : List α} (h : E.Perm (A ++ B)) : (E ++ (pk ++ ps)).Perm ((A ++ pk) ++ (B ++ ps)) := by
  refine (List.Perm.append_right _ h).trans ?_
  rw [List.append_assoc, List.append_assoc]
  refine List.Perm.append_left _ ?_
  rw [← List.append_assoc, ← List.append_assoc]
  exact List.Perm.append_right _ List.perm_append_comm
theorem perm_s {α : Type} {E A B pk ps Mi ps' : List α} (h : E.Perm (A ++ B)) (h2 : ps.Perm (Mi ++ ps')) : (E ++ (pk ++ ps)).Perm ((Mi ++ A) ++ (B ++ (pk ++ ps'))) := by
  refine (List.Perm.append h (List.Perm.append_left pk h2)).trans ?_
  -- (A ++ B) ++ (pk ++ (Mi ++ ps'))
  have e1 : (pk ++ (Mi ++ ps')).Perm (Mi ++ (pk ++ ps')) := by
    rw [← List.append_assoc, ← List.append_assoc]
    exact List.Perm.append_right _ List.perm_append_comm
  refine (List.Perm.append_left _ e1).trans ?_
  rw [← List.append_assoc (A ++ B) Mi]
  refine (List.Perm.append_right (pk ++ ps') (List.perm_append_comm (l₁ := A ++ B) (l₂ := Mi))).trans ?_
  rw [List.append_assoc Mi, List.append_assoc A B, List.append_assoc Mi A]
theorem perm_r {α : Type} {E A B pk ps Mi ps' : List α} (h : E.Perm (A ++ B)) (h2 : ps.Perm (Mi ++ ps')) : (E ++ (pk ++ ps)).Perm ((A ++ Mi) ++ (B ++ (pk ++ ps'))) := (perm_s h h2).trans (List.Perm.append_right _ List.perm_append_comm)
/-- the cells that a mask takes, and those that it leaves -/
def pT {α : Type} : List Bool → List α → List α
  | true :: m, a :: l => a :: pT m l
  | false :: m, _ :: l => pT m l
  | _, _ => []
def pF {α : Type} : List Bool → List α → List α
  | true :: m, _ :: l => pF m l
  | false :: m, a :: l => a :: pF m l
  | _, l => l
theorem pTF {α : Type} : ∀ (m : List Bool) (l : List α), l.Perm (pT m l ++ pF m l)
  | [], l => by unfold pT pF; exact List.Perm.refl _
  | true :: m, [] => by unfold pT pF; exact List.Perm.refl _
  | false :: m, [] => by unfold pT pF; exact List.Perm.refl _
  | true :: m, a :: l => by
    unfold pT pF
    exact List.Perm.cons a (pTF m l)
  | false :: m, a :: l => by
    unfold pT pF
    exact (List.Perm.cons a (pTF m l)).trans (List.perm_middle.symm)
theorem pTF_of {α : Type} {m : List Bool} {l a b : List α} (h1 : pT m l = a) (h2 : pF m l = b) : l.Perm (a ++ b) := by subst h1; subst h2; exact pTF m l
theorem takes_to {α : Type} {is : List Nat} {l a : List α} (h : takes is l = (a, [])) : l.Perm a := by
  have := takes_of h
  rwa [List.append_nil] at this
section GT
variable {x : GX} {cc : ByteArray} {own : String} {rm rm2 : Room} {k n : Nat} {lo : List (Nat × Value)} {pc : Nat} {st : List Value} {y : MethodName} {bytes : ByteArray} {maxL nn mc ms idx : Nat} {ret : Option FieldType} {P : Option Value → va_W → Prop} {As rest : List Value} {b : Nat} {E A B E' A' pk pk' ps tl : va_W}
theorem g_callH (C : GC x cc own rm) {ci : Nat} {fs : List Value} {T : u_T} {N : Nat} (q : Nat) (mk : List Bool) (K : gLk y bytes maxL ret nn) (L : gLV own idx y) (hM : GMet (xl x) y bytes maxL ret rm2 0 0 (xD x) (xy x) (.ref b :: As) (A ++ pk) P) (hn : As.length = nn) (hR : gRm rm rm2 maxL 0 0 k n) (hb : (A ++ pk)[q]? = some (b, .inr (ci, fs))) (hc : vwCl[ci]? = some (y.cls, T, N)) (hst : st = As.reverse ++ .ref b :: rest) (hcat : (rest.map fun v => v.category).sum ≤ 8) (hdg : decode cc pc = .ok (.invokevirtual idx, 3)) (h1 : pT mk E = A) (h2 : pF mk E = B) (kk : ∀ v w, P v w → GW x k n (w ++ (B ++ ps)) lo (pc + 3) (v.toList ++ rest)) : GW x k n (E ++ (pk ++ ps)) lo pc st :=
  g_perm (perm_h (pTF_of h1 h2)) (g_callF C q K L hM hn hR hb hc hst hcat hdg kk)
theorem g_backH (mk : List Bool) (h1 : pT mk E' = A') (h2 : pF mk E' = B) (kk : GW x k n (E' ++ (pk' ++ ps)) lo pc st) : GW x k n ((A' ++ pk') ++ (B ++ ps)) lo pc st :=
  g_perm (perm_h (pTF_of h1 h2)).symm kk
theorem g_callT (C : GC x cc own rm) {v1 : Option Value} {st' : List Value} {ci : Nat} {fs : List Value} {T : u_T} {N : Nat} (q : Nat) (mk : List Bool) (K : gLk y bytes maxL ret nn) (L : gLV own idx y) (hM : GMet (xl x) y bytes maxL ret rm2 0 0 (xD x) (xy x) (.ref b :: As) A (fun v w => v = v1 ∧ w = A')) (hn : As.length = nn) (hR : gRm rm rm2 maxL 0 0 k n) (hb : A[q]? = some (b, .inr (ci, fs))) (hc : vwCl[ci]? = some (y.cls, T, N)) (hst : st = As.reverse ++ .ref b :: rest) (hcat : (rest.map fun v => v.category).sum ≤ 8) (hst' : v1.toList ++ rest = st') (hdg : decode cc pc = .ok (.invokevirtual idx, 3)) (h1 : pT mk E = A) (h2 : pF mk E = B) (h3 : pT mk E' = A') (h4 : pF mk E' = B) (kk : GW x k n (E' ++ tl) lo (pc + 3) st') : GW x k n (E ++ tl) lo pc st := by
  refine g_perm (ws' := A ++ (B ++ tl)) (by rw [← List.append_assoc]; exact List.Perm.append_right _ (pTF_of h1 h2)) (g_callF C q K L hM hn hR hb hc hst hcat hdg (fun v w hw => ?_))
  obtain ⟨rfl, rfl⟩ := hw
  subst hst'
  exact g_perm (ws' := E' ++ tl) (by rw [← List.append_assoc]; exact List.Perm.append_right _ (pTF_of h3 h4).symm) kk
/-- a machine out of the slots takes in the machine that is -/
theorem g_callS (C : GC x cc own rm) {S : Nat → Nat → Nat} {SL : Nat → MS} {i : Nat} {qn : Nat → Nat} {M R : MS} (mk : List Bool) (L : gLV own idx yX3_copyFrom) (hi : i < 2) (hR1 : kcopy (SL i) M = some R) (hR : gRm rm rmX3_copyFrom 2 0 0 k n) (hst : st = .ref (qn 0) :: .ref (S i 0) :: rest) (hcat : (rest.map fun v => v.category).sum ≤ 8) (hdg : decode cc pc = .ok (.invokevirtual idx, 3)) (h1 : pT mk E = mcl (xy x) qn M) (h2 : pF mk E = B) (kk : GW x k n (E ++ (pk ++ pool (xy x) S (upK SL i R) L2)) lo (pc + 3) rest) : GW x k n (E ++ (pk ++ pool (xy x) S SL L2)) lo pc st := by
  have hm := L2_mem.mpr hi
  refine g_perm (perm_s (pTF_of h1 h2) (pool_out hm)) (g_callF C (As := [.ref (qn 0)]) (rest := rest) (b := S i 0) 0 lkX3_copyFrom L (cK_copy (xl x) (xD x) (xy x) (S i) qn (SL i) M R hR1) rfl hR rfl rfl hst hcat hdg (fun v w hw => ?_))
  obtain ⟨rfl, rfl⟩ := hw
  exact g_perm (perm_s (pTF_of h1 h2) (pool_in L2_nd hm).symm).symm kk
/-- the machine that is takes in one out of the slots -/
theorem g_callR (C : GC x cc own rm) {S : Nat → Nat → Nat} {SL : Nat → MS} {i : Nat} {qn : Nat → Nat} {M R : MS} (mk : List Bool) (L : gLV own idx yX3_copyFrom) (hi : i < 2) (hR1 : kcopy M (SL i) = some R) (hR : gRm rm rmX3_copyFrom 2 0 0 k n) (hst : st = .ref (S i 0) :: .ref (qn 0) :: rest) (hcat : (rest.map fun v => v.category).sum ≤ 8) (hdg : decode cc pc = .ok (.invokevirtual idx, 3)) (h1 : pT mk E = mcl (xy x) qn M) (h2 : pF mk E = B) (h3 : pT mk E' = mcl (xy x) qn R) (h4 : pF mk E' = B) (kk : GW x k n (E' ++ (pk ++ pool (xy x) S SL L2)) lo (pc + 3) rest) : GW x k n (E ++ (pk ++ pool (xy x) S SL L2)) lo pc st := by
  have hm := L2_mem.mpr hi
  refine g_perm (perm_r (pTF_of h1 h2) (pool_out hm)) (g_callF C (As := [.ref (S i 0)]) (rest := rest) (b := qn 0) 0 lkX3_copyFrom L (cK_copy (xl x) (xD x) (xy x) qn (S i) M (SL i) R hR1) rfl hR rfl rfl hst hcat hdg (fun v w hw => ?_))
  obtain ⟨rfl, rfl⟩ := hw
  exact g_perm (perm_r (pTF_of h3 h4) (pool_out hm)).symm kk
end GT
