/-! ===== contracts: other answers, other orders, a frame ===== -/
section GM
variable {l : Launch} {y : MethodName} {cc : ByteArray} {maxL : Nat} {ret : Option FieldType} {rm : Room} {mc ms : Nat} {D : va_G} {yy : Nat → ClassId} {av : List Value} {ws ws' wc wr : va_W} {P P' : Option Value → va_W → Prop}
theorem va_A.perm {ws ws' : va_W} (h : ws.Perm ws') {sz q : Nat} (hq : va_A ws sz q) : va_A ws' sz q := by
  rcases hq with ⟨k, e, hk⟩ | hq
  · obtain ⟨k', hk'⟩ := List.getElem?_of_mem (h.mem_iff.mp (List.mem_of_getElem? hk))
    exact Or.inl ⟨k', e, hk'⟩
  · exact Or.inr hq
theorem va_A.left {a b : va_W} {sz q : Nat} (hq : va_A a sz q) : va_A (a ++ b) sz q := by
  rcases hq with ⟨k, e, hk⟩ | hq
  · obtain ⟨k', hk'⟩ := List.getElem?_of_mem (List.mem_append_left b (List.mem_of_getElem? hk))
    exact Or.inl ⟨k', e, hk'⟩
  · exact Or.inr hq
/-- the general change of a contract -/
theorem GMet.of (h : GMet l y cc maxL ret rm mc ms D yy av ws P) (hpre : ∀ H : Heap, va_P D vwCl ws' H → va_D (fun _ => True) ws' → va_P D vwCl ws H ∧ va_D (fun _ => True) ws) (hA : ∀ sz q, va_A ws sz q → va_A ws' sz q)
    (hpost : ∀ (v : Option Value) (w : va_W) (H H1 : Heap), P v w → va_P D vwCl ws' H → va_D (fun _ => True) ws' → va_P D vwCl w H1 → va_D (va_A ws H.size) w → (∀ q : Nat, q < H.size → ¬ va_A ws H.size q → H1[q]? = H[q]?) → ∃ w', P' v w' ∧ va_P D vwCl w' H1 ∧ va_D (va_A ws' H.size) w') : GMet l y cc maxL ret rm mc ms D yy av ws' P' := fun sz p e ha hc hk s m args below hf happ hpr ht => by
  obtain ⟨hv, hsz, hP, hK, hD⟩ := hpr
  obtain ⟨hP1, hD1⟩ := hpre _ hP hD
  obtain ⟨k, o, h1, h2, h3, hq⟩ := h sz p e ha hc hk s m args below hf happ ⟨hv, hsz, hP1, hK, hD1⟩ ht
  obtain ⟨⟨⟨v, w, q1, q2, q3, q4⟩, q5⟩, L, q6, q7⟩ := hq
  rw [← hsz] at q4 q5 q7 ⊢
  obtain ⟨w', r1, r2, r3⟩ := hpost v w _ _ q2 hP hD q3 q4 q5.2
  exact ⟨k, o, h1, h2, h3, ⟨⟨v, w', q1, r1, r2, r3⟩, q5.1, fun q hq hn => q5.2 q hq (fun z => hn (hA _ q z))⟩, L, q6, fun q hq => hA _ _ (q7 q hq)⟩
theorem GMet.imp (h : GMet l y cc maxL ret rm mc ms D yy av ws P) (hp : ∀ v w, P v w → P' v w) : GMet l y cc maxL ret rm mc ms D yy av ws P' := h.of (fun _ h1 h2 => ⟨h1, h2⟩) (fun _ _ h => h) (fun v w H H1 hq _ _ h3 h4 _ => ⟨w, hp v w hq, h3, h4⟩)
theorem GMet.post (h : GMet l y cc maxL ret rm mc ms D yy av ws P) (hp : ∀ v w, P v w → ∃ w', P' v w' ∧ w.Perm w') : GMet l y cc maxL ret rm mc ms D yy av ws P' := h.of (fun _ h1 h2 => ⟨h1, h2⟩) (fun _ _ h => h) (fun v w H H1 hq _ _ h3 h4 _ => by
  obtain ⟨w', q1, q2⟩ := hp v w hq
  exact ⟨w', q1, h3.perm q2, h4.perm q2⟩)
theorem GMet.permW (h : GMet l y cc maxL ret rm mc ms D yy av ws P) (hp : ws'.Perm ws) : GMet l y cc maxL ret rm mc ms D yy av ws' P := h.of (fun _ h1 h2 => ⟨h1.perm hp, h2.perm hp⟩) (fun _ _ h => va_A.perm hp.symm h) (fun v w H H1 hq _ _ h3 h4 _ => ⟨w, hq, h3, h4.weaken (fun _ _ _ h => va_A.perm hp.symm h)⟩)
theorem GMet.frame (h : GMet l y cc maxL ret rm mc ms D yy av wc P) (wr : va_W) : GMet l y cc maxL ret rm mc ms D yy av (wc ++ wr) (fun v w => ∃ w1, P v w1 ∧ w = w1 ++ wr) := h.of (fun _ h1 h2 => ⟨h1.appl, h2.appl⟩) (fun _ _ h => va_A.left h) (fun v w H H1 hq h1 h2 h3 h4 h5 => by
  have hD : va_D (va_A (wc ++ wr) H.size) (wc ++ wr) := h2.self
  obtain ⟨r1, r2⟩ := va_joinA h1 hD h5 (fun q hq => va_A.left hq) h3 h4
  exact ⟨w ++ wr, ⟨w, hq, rfl⟩, r1, r2⟩)
end GM
