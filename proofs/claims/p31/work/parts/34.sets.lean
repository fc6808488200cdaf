/-! ===== sets of states (the rows ts_bit .. wb_sm are pasted out of kit/laws/BITS.to-paste) ===== -/
theorem ts_bit {w : Int64} {s : UInt64} {j : Nat} (hj : j < 64) (hs : s.toNat = j) : ((w.toUInt64 >>> s).toInt64 &&& 1) = 0 ↔ w.toBitVec.getLsbD j = false := by
  have e : (w.toUInt64 >>> s).toInt64.toBitVec = w.toBitVec >>> j := by
    apply BitVec.eq_of_toNat_eq
    show (w.toUInt64 >>> s).toNat = _
    rw [UInt64.toNat_shiftRight, hs, Nat.mod_eq_of_lt hj, BitVec.toNat_ushiftRight]
    rfl
  rw [← Int64.toBitVec_inj, Int64.toBitVec_and, e]
  show w.toBitVec >>> j &&& 1#64 = 0#64 ↔ _
  constructor
  · intro h
    have t := congrArg (fun x => x.getLsbD 0) h
    simpa using t
  · intro h
    apply BitVec.eq_of_getLsbD_eq
    intro i hi
    cases i with
    | zero => simp [h]
    | succ i => simp
theorem wb_tb (n : Nat) : (lN n).toBitVec = BitVec.ofNat 64 n := rfl
theorem wb_inj {a b : Int64} (h : a.toBitVec = b.toBitVec) : a = b := Int64.toBitVec_inj.mp h
theorem wb_tn {n : Nat} (h : n < 2 ^ 64) : (lN n).toBitVec.toNat = n := by rw [wb_tb, BitVec.toNat_ofNat, Nat.mod_eq_of_lt h]
theorem wb_of (x : Int64) : ∃ n, n < 2 ^ 64 ∧ x = lN n := ⟨x.toBitVec.toNat, x.toBitVec.isLt, wb_inj (by rw [wb_tb]; simp)⟩
theorem wb_of32 (x : Int32) : ∃ n, n < 2 ^ 32 ∧ x = nI n := ⟨x.toBitVec.toNat, x.toBitVec.isLt, Int32.toBitVec_inj.mp (by show _ = BitVec.ofNat 32 _; simp)⟩
theorem wb_c : ∀ k, k < 64 → ((nI k).toInt64 &&& 63) = lN k := by decide +kernel
theorem wb_cu : ∀ k, k < 64 → ((nI k).toInt64.toUInt64 &&& Int64.toUInt64 63) = UInt64.ofNat k := by decide +kernel
theorem wb_sm : ∀ k, k < 64 → (BitVec.ofNat 64 k).smod 64 = BitVec.ofNat 64 k := by decide +kernel

/-- the first number below n of which P is so -/
def ffind (n : Nat) (P : Nat → Bool) : Option Nat := (List.range n).find? P
theorem ffind_some {n i : Nat} {P : Nat → Bool} (h : i < n) (hp : P i = true) (hn : ∀ u, u < i → P u = false) : ffind n P = some i := by
  unfold ffind
  rw [List.find?_range_eq_some]
  refine ⟨hp, List.mem_range.mpr h, fun u hu => by simp [hn u hu]⟩
theorem ffind_none {n : Nat} {P : Nat → Bool} (hn : ∀ u, u < n → P u = false) : ffind n P = none := by
  unfold ffind
  rw [List.find?_eq_none]
  intro u hu
  simp [hn u (List.mem_range.mp hu)]
theorem ffind_spec {n i : Nat} {P : Nat → Bool} (h : ffind n P = some i) : i < n ∧ P i = true := by
  unfold ffind at h
  exact ⟨List.mem_range.mp (List.mem_of_find?_eq_some h), List.find?_some h⟩
theorem ffind_congr {n : Nat} {P P' : Nat → Bool} (h : ∀ u, u < n → P u = P' u) : ffind n P = ffind n P' := by
  unfold ffind
  have : ∀ l : List Nat, (∀ u ∈ l, u < n) → l.find? P = l.find? P' := by
    intro l
    induction l with
    | nil => intro _; rfl
    | cons a l ih =>
      intro hl
      rw [List.find?_cons, List.find?_cons, h a (hl a List.mem_cons_self), ih (fun u hu => hl u (List.mem_cons_of_mem _ hu))]
  exact this _ (fun u hu => List.mem_range.mp hu)
/-- whether a state is in a set of eight words -/
def mem (w : Nat → Int64) (s : Nat) : Bool := (w (s / 64)).toBitVec.getLsbD (s % 64)
theorem isState_in (p : Int32) : fX10_isState p = fX11_in p 0 511 := by
  unfold fX10_isState fX11_in
  by_cases h : p < 0
  · rw [if_pos h, if_pos h]
  · rw [if_neg h, if_neg h]
    by_cases h2 : (512 : Int32) ≤ p
    · have h3 : (511 : Int32) < p := by
        rw [le_toInt] at h2; rw [lt_toInt]
        rw [show (512 : Int32).toInt = 512 by decide] at h2
        rw [show (511 : Int32).toInt = 511 by decide]; omega
      rw [if_pos h2, if_pos h3]
    · have h3 : ¬ (511 : Int32) < p := by
        rw [le_toInt] at h2; rw [lt_toInt]
        rw [show (512 : Int32).toInt = 512 by decide] at h2
        rw [show (511 : Int32).toInt = 511 by decide]; omega
      rw [if_neg h2, if_neg h3]
theorem isState_1 {s : Nat} (hs : s < 512) : fX10_isState (nI s) = some 1 := by
  rw [isState_in]
  rcases in_01 (nI s) 0 511 with ⟨-, h⟩ | ⟨e, -⟩
  · rw [nI_toInt (by omega), tI0, show (511 : Int32).toInt = 511 by decide] at h
    omega
  · exact e
theorem sh6 {s : Nat} (hs : s < 512) : nI s >>> ((6 : Int32) &&& 31) = nI (s / 64) := pk_shrN (by omega) _ 6 (by decide)
theorem an63 {s : Nat} (hs : s < 512) : nI s &&& (63 : Int32) = nI (s % 64) := pk_andN (by omega) 6 (by decide)
theorem lcmp0 (z : Int64) : lg_cmp z 0 = 0 ↔ z = 0 := by
  unfold lg_cmp
  by_cases h : z > 0
  · rw [if_pos h]
    constructor
    · intro q; exact absurd q (by decide)
    · intro q; subst q; exact absurd h (by decide)
  · rw [if_neg h]
    by_cases h2 : z = 0
    · rw [if_pos h2]; simp [h2]
    · rw [if_neg h2]
      constructor
      · intro q; exact absurd q (by decide)
      · intro q; exact absurd q h2
theorem has_eq (w : Nat → Int64) {s : Nat} (hs : s < 512) : fX7_has w (nI s) = some (b2i (mem w s)) := by
  unfold fX7_has
  rw [isState_1 hs, bd_some, if_neg i0ne1, sh6 hs, an63 hs, gd_nI (by omega) (by decide), ixn (by omega), wb_cu (s % 64) (by omega)]
  have hb := ts_bit (w := w (s / 64)) (s := UInt64.ofNat (s % 64)) (j := s % 64) (by omega) (by rw [UInt64.toNat_ofNat']; omega)
  unfold mem
  by_cases hm : (w (s / 64)).toBitVec.getLsbD (s % 64) = false
  · rw [if_pos ((lcmp0 _).mpr (hb.mpr hm)), hm]; rfl
  · rw [if_neg (fun q => hm (hb.mp ((lcmp0 _).mp q)))]
    have : (w (s / 64)).toBitVec.getLsbD (s % 64) = true := by simpa using hm
    rw [this]; rfl
theorem one_shl {k : Nat} (hk : k < 64) : ((1 : Int64) <<< ((nI k).toInt64 &&& 63)).toBitVec = BitVec.twoPow 64 k := by
  rw [wb_c k hk, Int64.toBitVec_shiftLeft, wb_tb, wb_sm k hk]
  apply BitVec.eq_of_getLsbD_eq
  intro i hi
  rw [BitVec.getLsbD_twoPow]
  show (BitVec.ofNat 64 1 <<< BitVec.ofNat 64 k).getLsbD i = _
  rw [BitVec.shiftLeft_eq', BitVec.toNat_ofNat, Nat.mod_eq_of_lt (by omega), BitVec.getLsbD_shiftLeft]
  by_cases h : k = i
  · subst h; simp [hk]
  · by_cases h2 : i < k
    · simp [h2, h]
    · have h3 : 1 ≤ i - k := by omega
      have : (BitVec.ofNat 64 1).getLsbD (i - k) = false := by
        obtain ⟨j, hj⟩ : ∃ j, i - k = j + 1 := ⟨i - k - 1, by omega⟩
        rw [hj]; simp
      simp [h, this]
theorem add_eq (w : Nat → Int64) {s : Nat} (hs : s < 512) : ∃ w', fX7_add w (nI s) = some w' ∧ ∀ u, u < 512 → mem w' u = (mem w u || decide (u = s)) := by
  unfold fX7_add
  rw [isState_1 hs, bd_some, if_neg i0ne1, sh6 hs, an63 hs, gd_nI (by omega) (by decide), gd_nI (by omega) (by decide), ixn (by omega)]
  refine ⟨_, rfl, fun u hu => ?_⟩
  unfold mem
  by_cases h1 : u / 64 = s / 64
  · rw [h1, pk_uLs, Int64.toBitVec_or, one_shl (by omega), BitVec.getLsbD_or, BitVec.getLsbD_twoPow]
    congr 1
    by_cases h2 : u = s
    · subst h2; simp; omega
    · have : ¬ s % 64 = u % 64 := fun e => h2 (by omega)
      simp [h2, this]
  · rw [pk_uLn h1]
    have : ¬ u = s := fun e => h1 (by rw [e])
    simp [this]
