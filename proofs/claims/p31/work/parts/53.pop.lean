/-! ===== Long.bitCount: bytes (wb_shr, wb_and as in kit/laws/BITS.to-paste) ===== -/
theorem wb_shr {n k : Nat} (hn : n < 2 ^ 64) (hk : k < 64) : ((lN n).toUInt64 >>> ((nI k).toInt64.toUInt64 &&& Int64.toUInt64 63)).toInt64 = lN (n / 2 ^ k) := by
  rw [wb_cu k hk]
  apply wb_inj
  apply BitVec.eq_of_toNat_eq
  show ((lN n).toUInt64 >>> UInt64.ofNat k).toNat = (BitVec.ofNat 64 _).toNat
  have h1 : (UInt64.ofNat k).toNat = k := by
    show (BitVec.ofNat 64 k).toNat = k
    rw [BitVec.toNat_ofNat, Nat.mod_eq_of_lt (by omega)]
  have h2 : (lN n).toUInt64.toNat = n := wb_tn hn
  rw [UInt64.toNat_shiftRight, h1, h2, Nat.mod_eq_of_lt hk, Nat.shiftRight_eq_div_pow, BitVec.toNat_ofNat, Nat.mod_eq_of_lt (Nat.lt_of_le_of_lt (Nat.div_le_self _ _) hn)]
theorem wb_and {a b : Nat} (ha : a < 2 ^ 64) (hb : b < 2 ^ 64) : lN a &&& lN b = lN (a &&& b) := by
  apply wb_inj
  rw [Int64.toBitVec_and, wb_tb, wb_tb, wb_tb]
  apply BitVec.eq_of_toNat_eq
  rw [BitVec.toNat_and, BitVec.toNat_ofNat, BitVec.toNat_ofNat, BitVec.toNat_ofNat, Nat.mod_eq_of_lt ha, Nat.mod_eq_of_lt hb, Nat.mod_eq_of_lt (Nat.and_lt_two_pow _ hb)]
/-- a number of k bytes -/
def Ex : Nat → (Nat → Nat) → Nat
  | 0, _ => 0
  | k + 1, f => f 0 + 256 * Ex k (fun i => f (i + 1))
theorem Ex_s (k : Nat) (f : Nat → Nat) : Ex (k + 1) f = f 0 + 256 * Ex k (fun i => f (i + 1)) := rfl
theorem Ex_cong : ∀ {k : Nat} {f g : Nat → Nat}, (∀ i, i < k → f i = g i) → Ex k f = Ex k g
  | 0, _, _, _ => rfl
  | k + 1, f, g, h => by rw [Ex_s, Ex_s, h 0 (by omega), Ex_cong (fun i hi => h (i + 1) (by omega))]
theorem Ex_add : ∀ (k : Nat) (f g : Nat → Nat), Ex k f + Ex k g = Ex k (fun i => f i + g i)
  | 0, _, _ => rfl
  | k + 1, f, g => by
    have := Ex_add k (fun i => f (i + 1)) (fun i => g (i + 1))
    rw [Ex_s, Ex_s, Ex_s, ← this]; omega
theorem Ex_le : ∀ {k : Nat} {f g : Nat → Nat}, (∀ i, f i ≤ g i) → Ex k f ≤ Ex k g
  | 0, _, _, _ => Nat.le_refl _
  | k + 1, f, g, h => by
    have := Ex_le (k := k) (f := fun i => f (i + 1)) (g := fun i => g (i + 1)) (fun i => h (i + 1))
    have := h 0
    rw [Ex_s, Ex_s]; omega
theorem Ex_sub : ∀ {k : Nat} {f g : Nat → Nat}, (∀ i, g i ≤ f i) → Ex k f - Ex k g = Ex k (fun i => f i - g i)
  | 0, _, _, _ => rfl
  | k + 1, f, g, h => by
    have h1 := Ex_sub (k := k) (f := fun i => f (i + 1)) (g := fun i => g (i + 1)) (fun i => h (i + 1))
    have h2 := Ex_le (k := k) (f := fun i => g (i + 1)) (g := fun i => f (i + 1)) (fun i => h (i + 1))
    have := h 0
    rw [Ex_s, Ex_s, Ex_s, ← h1]; omega
theorem and_split {a c : Nat} (ha : a < 256) (hc : c < 256) (b d : Nat) : (a + 256 * b) &&& (c + 256 * d) = (a &&& c) + 256 * (b &&& d) := by
  have h1 : ((a + 256 * b) &&& (c + 256 * d)) % 2 ^ 8 = (a &&& c) := by
    rw [Nat.and_mod_two_pow, show (a + 256 * b) % 2 ^ 8 = a by omega, show (c + 256 * d) % 2 ^ 8 = c by omega]
  have h2 : ((a + 256 * b) &&& (c + 256 * d)) / 2 ^ 8 = (b &&& d) := by
    rw [Nat.and_div_two_pow, show (a + 256 * b) / 2 ^ 8 = b by omega, show (c + 256 * d) / 2 ^ 8 = d by omega]
  omega
theorem Ex_and : ∀ {k : Nat} {f m : Nat → Nat}, (∀ i, f i < 256) → (∀ i, m i < 256) → Ex k f &&& Ex k m = Ex k (fun i => f i &&& m i)
  | 0, _, _, _, _ => by simp [Ex]
  | k + 1, f, m, h1, h2 => by
    rw [Ex_s, Ex_s, Ex_s, and_split (h1 0) (h2 0), Ex_and (fun i => h1 (i + 1)) (fun i => h2 (i + 1))]
theorem Ex_hd (k : Nat) (f : Nat → Nat) (h0 : f k = 0) (p : Nat) (hp : p = 2 ∨ p = 4 ∨ p = 16) : Ex k f % p = f 0 % p := by
  cases k with
  | zero => show 0 % p = _; rw [h0]
  | succ k => rw [Ex_s]; rcases hp with rfl | rfl | rfl <;> omega
theorem Ex_2 : ∀ {k : Nat} {f : Nat → Nat}, f k = 0 → Ex k f / 2 = Ex k (fun i => f i / 2 + 128 * (f (i + 1) % 2))
  | 0, _, _ => by simp [Ex]
  | k + 1, f, h => by
    have h1 := Ex_2 (k := k) (f := fun i => f (i + 1)) h
    have h2 := Ex_hd k (fun i => f (i + 1)) h 2 (by omega)
    rw [Ex_s, Ex_s, ← h1]; omega
theorem Ex_4 : ∀ {k : Nat} {f : Nat → Nat}, f k = 0 → Ex k f / 4 = Ex k (fun i => f i / 4 + 64 * (f (i + 1) % 4))
  | 0, _, _ => by simp [Ex]
  | k + 1, f, h => by
    have h1 := Ex_4 (k := k) (f := fun i => f (i + 1)) h
    have h2 := Ex_hd k (fun i => f (i + 1)) h 4 (by omega)
    rw [Ex_s, Ex_s, ← h1]; omega
theorem Ex_16 : ∀ {k : Nat} {f : Nat → Nat}, f k = 0 → Ex k f / 16 = Ex k (fun i => f i / 16 + 16 * (f (i + 1) % 16))
  | 0, _, _ => by simp [Ex]
  | k + 1, f, h => by
    have h1 := Ex_16 (k := k) (f := fun i => f (i + 1)) h
    have h2 := Ex_hd k (fun i => f (i + 1)) h 16 (by omega)
    rw [Ex_s, Ex_s, ← h1]; omega
def byt (n i : Nat) : Nat := n / 256 ^ i % 256
theorem byt_s (n i : Nat) : byt n (i + 1) = byt (n / 256) i := by
  unfold byt
  rw [Nat.div_div_eq_div_mul, Nat.pow_succ, Nat.mul_comm]
theorem Ex_byt : ∀ (k n : Nat), Ex k (byt n) = n % 256 ^ k
  | 0, n => by rw [Nat.pow_zero, Nat.mod_one]; rfl
  | k + 1, n => by
    rw [Ex_s, Nat.pow_succ, Nat.mul_comm (256 ^ k) 256, Nat.mod_mul, ← Ex_byt k (n / 256)]
    have : (fun i => byt n (i + 1)) = byt (n / 256) := funext (fun i => byt_s n i)
    rw [this]
    unfold byt
    rw [Nat.pow_zero, Nat.div_one]
theorem byt_lt (n i : Nat) : byt n i < 256 := Nat.mod_lt _ (by decide)
theorem byt_8 {n : Nat} (h : n < 2 ^ 64) : byt n 8 = 0 := by
  unfold byt
  rw [Nat.div_eq_of_lt (by omega)]
theorem byt_bit (n i : Nat) {j : Nat} (hj : j < 8) : (byt n i).testBit j = n.testBit (8 * i + j) := by
  unfold byt
  rw [show (256 : Nat) = 2 ^ 8 from rfl, ← Nat.pow_mul, Nat.testBit_mod_two_pow, Nat.testBit_div_two_pow, Nat.add_comm]
  simp [hj]
def q1 (v : Nat) : Nat := v - (v / 2 &&& 85)
def q2 (v : Nat) : Nat := (v &&& 51) + (v / 4 &&& 51)
def q3 (v : Nat) : Nat := (v + v / 16) &&& 15
def q0 (v : Nat) : Nat := q3 (q2 (q1 v))
theorem q1_f : ∀ v, v < 256 → (∀ b, b < 2 → (v / 2 + 128 * b) &&& 85 = v / 2 &&& 85) ∧ (v / 2 &&& 85) ≤ v ∧ q1 v < 256 := by decide +kernel
theorem q2_f : ∀ v, v < 256 → ∀ b, b < 4 → (v / 4 + 64 * b) &&& 51 = v / 4 &&& 51 := by decide +kernel
theorem q2_g : ∀ v, v < 256 → q2 v < 256 ∧ q2 (q1 v) ≤ 68 ∧ q2 (q1 v) % 16 ≤ 4 := by decide +kernel
theorem q3_f : ∀ v, v ≤ 68 → ∀ b, b ≤ 4 → (v + (v / 16 + 16 * b)) &&& 15 = q3 v := by decide +kernel
theorem q0_f : ∀ v, v < 256 → q0 v = fb_ct v.testBit 8 ∧ q0 v ≤ 8 := by decide +kernel
theorem m85 : 6148914691236517205 = Ex 8 (fun _ => 85) := rfl
theorem m51 : 3689348814741910323 = Ex 8 (fun _ => 51) := rfl
theorem m15 : 1085102592571150095 = Ex 8 (fun _ => 15) := rfl
theorem st1 {f : Nat → Nat} (hf : ∀ i, f i < 256) (h8 : f 8 = 0) : Ex 8 f - (Ex 8 f / 2 &&& 6148914691236517205) = Ex 8 (fun i => q1 (f i)) := by
  rw [Ex_2 h8, m85, Ex_and (fun i => by have := hf i; omega) (fun _ => by decide), Ex_cong (g := fun i => f i / 2 &&& 85) (fun i _ => (q1_f (f i) (hf i)).1 _ (Nat.mod_lt _ (by decide))), Ex_sub (fun i => (q1_f (f i) (hf i)).2.1)]
  rfl
theorem st2 {f : Nat → Nat} (hf : ∀ i, f i < 256) (h8 : f 8 = 0) : (Ex 8 f &&& 3689348814741910323) + (Ex 8 f / 4 &&& 3689348814741910323) = Ex 8 (fun i => q2 (f i)) := by
  rw [Ex_4 h8, m51, Ex_and hf (fun _ => by decide), Ex_and (fun i => by have := hf i; omega) (fun _ => by decide), Ex_cong (g := fun i => f i / 4 &&& 51) (fun i _ => q2_f (f i) (hf i) _ (Nat.mod_lt _ (by decide))), Ex_add]
  rfl
theorem st3 {f : Nat → Nat} (hf : ∀ i, f i ≤ 68 ∧ f i % 16 ≤ 4) (h8 : f 8 = 0) : (Ex 8 f + Ex 8 f / 16) &&& 1085102592571150095 = Ex 8 (fun i => q3 (f i)) := by
  rw [Ex_16 h8, m15, Ex_add, Ex_and (fun i => by have := hf i; have := hf (i + 1); omega) (fun _ => by decide)]
  exact Ex_cong (fun i _ => q3_f (f i) (hf i).1 _ (hf (i + 1)).2)
theorem st4a (a b c d e f g h : Nat) : (a + 256 * (b + 256 * (c + 256 * (d + 256 * (e + 256 * (f + 256 * (g + 256 * (h + 256 * 0)))))))) + (b + 256 * (c + 256 * (d + 256 * (e + 256 * (f + 256 * (g + 256 * (h + 256 * 0))))))) = ((a + b) + 256 * (b + c)) + 65536 * ((c + d) + 256 * ((d + e) + 256 * ((e + f) + 256 * ((f + g) + 256 * ((g + h) + 256 * h))))) := by omega
theorem st4b (a b c d e f g h : Nat) : ((a + b) + 256 * (b + c)) + 65536 * ((c + d) + 256 * ((d + e) + 256 * ((e + f) + 256 * ((f + g) + 256 * ((g + h) + 256 * h))))) + ((c + d) + 256 * ((d + e) + 256 * ((e + f) + 256 * ((f + g) + 256 * ((g + h) + 256 * h))))) = ((a + b + c + d) + 256 * ((b + c + d + e) + 256 * ((c + d + e + f) + 256 * (d + e + f + g)))) + 4294967296 * ((e + f + g + h) + 256 * ((f + g + h) + 256 * ((g + h) + 256 * h))) := by omega
theorem st4 {a b c d e f g h x y z : Nat} (ha : a ≤ 8) (hb : b ≤ 8) (hc : c ≤ 8) (hd : d ≤ 8) (he : e ≤ 8) (hf : f ≤ 8) (hg : g ≤ 8) (hh : h ≤ 8) (hx : x = a + 256 * (b + 256 * (c + 256 * (d + 256 * (e + 256 * (f + 256 * (g + 256 * (h + 256 * 0)))))))) (hy : y = x + x / 256) (hz : z = y + y / 65536) : (z + z / 4294967296) % 128 = a + b + c + d + e + f + g + h := by
  have p1 := st4a a b c d e f g h
  have p2 := st4b a b c d e f g h
  generalize (b + 256 * (c + 256 * (d + 256 * (e + 256 * (f + 256 * (g + 256 * (h + 256 * 0))))))) = X1 at hx p1
  rw [← hx] at p1
  have d1 : x / 256 = X1 := by clear p1 p2 hy hz; omega
  rw [d1, p1] at hy
  rw [← hy] at p2
  generalize ((c + d) + 256 * ((d + e) + 256 * ((e + f) + 256 * ((f + g) + 256 * ((g + h) + 256 * h))))) = Y2 at hy p2
  have q1 : (a + b) + 256 * (b + c) < 65536 := by clear p1 p2 hy hz hx d1; omega
  generalize (a + b) + 256 * (b + c) = L1 at hy q1
  have d2 : y / 65536 = Y2 := by clear p1 p2 hz hx d1; omega
  rw [d2, p2] at hz
  have q2 : ((b + c + d + e) + 256 * ((c + d + e + f) + 256 * (d + e + f + g))) < 16777000 := by clear p1 p2 hy hz hx d1 d2 q1; omega
  generalize ((b + c + d + e) + 256 * ((c + d + e + f) + 256 * (d + e + f + g))) = L2 at hz q2
  have q3 : a + b + c + d ≤ 32 := by clear p1 p2 hy hz hx d1 d2 q1 q2; omega
  have q4 : e + f + g + h ≤ 32 := by clear p1 p2 hy hz hx d1 d2 q1 q2; omega
  have q5 : a + b + c + d + e + f + g + h = (a + b + c + d) + (e + f + g + h) := by clear p1 p2 hy hz hx d1 d2 q1 q2 q3 q4; omega
  generalize ((f + g + h) + 256 * ((g + h) + 256 * h)) = H1 at hz
  rw [q5]
  generalize a + b + c + d = s0 at hz q3 ⊢
  generalize e + f + g + h = h0 at hz q4 ⊢
  clear p1 p2 hy hx d1 d2 q1 q5 ha hb hc hd he hf hg hh
  have d3 : z / 4294967296 = h0 + 256 * H1 := by omega
  rw [d3, hz]
  omega
theorem ct_bytes (n : Nat) : fb_ct n.testBit 64 = fb_ct (byt n 0).testBit 8 + fb_ct (byt n 1).testBit 8 + fb_ct (byt n 2).testBit 8 + fb_ct (byt n 3).testBit 8 + fb_ct (byt n 4).testBit 8 + fb_ct (byt n 5).testBit 8 + fb_ct (byt n 6).testBit 8 + fb_ct (byt n 7).testBit 8 := by
  have h : ∀ i, fb_ct (fun k => n.testBit (8 * i + k)) 8 = fb_ct (byt n i).testBit 8 := fun i => fb_ct_cong (fun k hk => (byt_bit n i hk).symm)
  have s : ∀ i, fb_ct n.testBit (8 * i + 8) = fb_ct n.testBit (8 * i) + fb_ct (byt n i).testBit 8 := fun i => by rw [fb_ct_split, h]
  have z : fb_ct n.testBit (8 * 0) = 0 := rfl
  have s0 := s 0
  have s1 := s 1
  have s2 := s 2
  have s3 := s 3
  have s4 := s 4
  have s5 := s 5
  have s6 := s 6
  have s7 := s 7
  have t0 : 8 * 0 + 8 = 8 * 1 := rfl
  have t1 : 8 * 1 + 8 = 8 * 2 := rfl
  have t2 : 8 * 2 + 8 = 8 * 3 := rfl
  have t3 : 8 * 3 + 8 = 8 * 4 := rfl
  have t4 : 8 * 4 + 8 = 8 * 5 := rfl
  have t5 : 8 * 5 + 8 = 8 * 6 := rfl
  have t6 : 8 * 6 + 8 = 8 * 7 := rfl
  rw [t0] at s0; rw [t1] at s1; rw [t2] at s2; rw [t3] at s3; rw [t4] at s4; rw [t5] at s5; rw [t6] at s6
  rw [show 64 = 8 * 7 + 8 from rfl, s7, s6, s5, s4, s3, s2, s1, s0, z, Nat.zero_add]
def swN (n : Nat) : Nat := let a := n - (n / 2 &&& 6148914691236517205); let b := (a &&& 3689348814741910323) + (a / 4 &&& 3689348814741910323); (b + b / 16) &&& 1085102592571150095
theorem swN_eq {n : Nat} (h : n < 2 ^ 64) : swN n = Ex 8 (fun i => q0 (byt n i)) := by
  have e : n = Ex 8 (byt n) := by rw [Ex_byt, Nat.mod_eq_of_lt (by omega)]
  have b8 := byt_8 h
  have l := byt_lt n
  have f1 : q1 0 = 0 := by decide
  have f2 : q2 0 = 0 := by decide
  unfold swN
  dsimp only
  have g1 : n - (n / 2 &&& 6148914691236517205) = Ex 8 (fun i => q1 (byt n i)) := by
    have := st1 l b8
    rw [← e] at this; exact this
  rw [g1, st2 (f := fun i => q1 (byt n i)) (fun i => (q1_f _ (l i)).2.2) (by show q1 (byt n 8) = 0; rw [b8, f1]), st3 (f := fun i => q2 (q1 (byt n i))) (fun i => ⟨(q2_g _ (l i)).2.1, (q2_g _ (l i)).2.2⟩) (by show q2 (q1 (byt n 8)) = 0; rw [b8, f1, f2])]
  rfl
theorem pop_eq {n : Nat} (h : n < 2 ^ 64) : ((swN n + swN n / 256 + (swN n + swN n / 256) / 65536) + (swN n + swN n / 256 + (swN n + swN n / 256) / 65536) / 4294967296) % 128 = fb_ct n.testBit 64 := by
  have l := byt_lt n
  have b : ∀ i, q0 (byt n i) ≤ 8 := fun i => (q0_f _ (l i)).2
  rw [st4 (b 0) (b 1) (b 2) (b 3) (b 4) (b 5) (b 6) (b 7) (swN_eq h) rfl rfl, ct_bytes, (q0_f _ (l 0)).1, (q0_f _ (l 1)).1, (q0_f _ (l 2)).1, (q0_f _ (l 3)).1, (q0_f _ (l 4)).1, (q0_f _ (l 5)).1, (q0_f _ (l 6)).1, (q0_f _ (l 7)).1]
def w1 (p : Int64) : Int64 := p - (((p.toUInt64 >>> ((1 : Int32).toInt64.toUInt64 &&& Int64.toUInt64 63)).toInt64) &&& (6148914691236517205 : Int64))
def w2 (p : Int64) : Int64 := (p &&& (3689348814741910323 : Int64)) + (((p.toUInt64 >>> ((2 : Int32).toInt64.toUInt64 &&& Int64.toUInt64 63)).toInt64) &&& (3689348814741910323 : Int64))
def w3 (p : Int64) : Int64 := (p + ((p.toUInt64 >>> ((4 : Int32).toInt64.toUInt64 &&& Int64.toUInt64 63)).toInt64)) &&& (1085102592571150095 : Int64)
def w4 (p : Int64) : Int64 := p + ((p.toUInt64 >>> ((8 : Int32).toInt64.toUInt64 &&& Int64.toUInt64 63)).toInt64)
def w5 (p : Int64) : Int64 := p + ((p.toUInt64 >>> ((16 : Int32).toInt64.toUInt64 &&& Int64.toUInt64 63)).toInt64)
def w6 (p : Int64) : Int64 := p + ((p.toUInt64 >>> ((32 : Int32).toInt64.toUInt64 &&& Int64.toUInt64 63)).toInt64)
theorem w1_eq {n : Nat} (h : n < 2 ^ 64) : w1 (lN n) = lN (n - (n / 2 &&& 6148914691236517205)) := by
  have e := wb_shr (k := 1) h (by decide)
  have hl : (n / 2 &&& 6148914691236517205) ≤ n / 2 := Nat.and_le_left
  unfold w1
  rw [show (1 : Int32) = nI 1 from rfl, e, show (6148914691236517205 : Int64) = lN 6148914691236517205 from rfl, wb_and (by omega) (by decide), show n / 2 ^ 1 = n / 2 from rfl, lN_sub (by omega)]
theorem w2_eq {n : Nat} (h : n < 2 ^ 64) : w2 (lN n) = lN ((n &&& 3689348814741910323) + (n / 4 &&& 3689348814741910323)) := by
  have e := wb_shr (k := 2) h (by decide)
  unfold w2
  rw [show (2 : Int32) = nI 2 from rfl, e, show (3689348814741910323 : Int64) = lN 3689348814741910323 from rfl, wb_and h (by decide), wb_and (by omega) (by decide), lN_add]
theorem w3_eq {n : Nat} (h : n + n / 16 < 2 ^ 64) : w3 (lN n) = lN ((n + n / 16) &&& 1085102592571150095) := by
  have e := wb_shr (n := n) (k := 4) (by omega) (by decide)
  unfold w3
  rw [show (4 : Int32) = nI 4 from rfl, e, show (1085102592571150095 : Int64) = lN 1085102592571150095 from rfl, lN_add, wb_and (by omega) (by decide)]
theorem w4_eq {n : Nat} (h : n < 2 ^ 64) : w4 (lN n) = lN (n + n / 256) := by
  have e := wb_shr (k := 8) h (by decide)
  unfold w4
  rw [show (8 : Int32) = nI 8 from rfl, e, lN_add]
theorem w5_eq {n : Nat} (h : n < 2 ^ 64) : w5 (lN n) = lN (n + n / 65536) := by
  have e := wb_shr (k := 16) h (by decide)
  unfold w5
  rw [show (16 : Int32) = nI 16 from rfl, e, lN_add]
theorem w6_eq {n : Nat} (h : n < 2 ^ 64) : w6 (lN n) = lN (n + n / 4294967296) := by
  have e := wb_shr (k := 32) h (by decide)
  unfold w6
  rw [show (32 : Int32) = nI 32 from rfl, e, lN_add]
theorem fJ13_w (p : Int64) : fJ13_bitCount_95d88 p = some ((w6 (w5 (w4 (w3 (w2 (w1 p)))))).toInt32 &&& (127 : Int32)) := rfl
theorem bitCount_eq (w : Int64) : fJ13_bitCount_95d88 w = some (nI (fb_ct (lb w) 64)) := by
  obtain ⟨n, hn, rfl⟩ := wb_of w
  have hl : fb_ct (lb (lN n)) 64 = fb_ct n.testBit 64 := fb_ct_cong (fun k hk => by
    unfold lb
    rw [wb_tb, BitVec.getLsbD_ofNat]
    simp [hk])
  rw [fJ13_w, hl, ← pop_eq hn]
  have a1 : (n / 2 &&& 6148914691236517205) ≤ n / 2 := Nat.and_le_left
  have e := swN_eq hn
  have b : ∀ i, q0 (byt n i) ≤ 8 := fun i => (q0_f _ (byt_lt n i)).2
  have hs : swN n < 2 ^ 60 := by
    rw [e]
    have b0 := b 0
    have b1 := b 1
    have b2 := b 2
    have b3 := b 3
    have b4 := b 4
    have b5 := b 5
    have b6 := b 6
    have b7 := b 7
    show q0 (byt n 0) + 256 * (q0 (byt n 1) + 256 * (q0 (byt n 2) + 256 * (q0 (byt n 3) + 256 * (q0 (byt n 4) + 256 * (q0 (byt n 5) + 256 * (q0 (byt n 6) + 256 * (q0 (byt n 7) + 256 * 0))))))) < _
    omega
  have c1 := Nat.and_le_right (n := n - (n / 2 &&& 6148914691236517205)) (m := 3689348814741910323)
  have c2 := Nat.and_le_right (n := (n - (n / 2 &&& 6148914691236517205)) / 4) (m := 3689348814741910323)
  rw [w1_eq hn, w2_eq (by omega), w3_eq (by omega)]
  show some ((w6 (w5 (w4 (lN (swN n))))).toInt32 &&& (127 : Int32)) = _
  rw [w4_eq (by omega), w5_eq (by omega), w6_eq (by omega), lN_i, pk_and _ (m := 127) 7 (by decide)]
  congr 2
  show (BitVec.ofNat 32 _).toNat % 128 = _
  rw [BitVec.toNat_ofNat]
  omega
/-- the model counts forty bits -/
theorem size_eq (w : Int64) : fX11_size w = some (nI (fb_ct (lb w) 40)) := by
  have key : iter (gX11_size_4 w) FU ((0 : Int32), (0 : Int32)) = some (nI (fb_ct (lb w) 40), nI 40) := by
    refine iter_seq (fun i => (nI (fb_ct (lb w) i), nI i)) 40 _ (by decide) (fun i hi => ?_) ?_
    · unfold gX11_size_4
      dsimp only
      rw [if_neg (c_ge (N := 40) (n := 40) rfl hi (by decide)), lb_bit w (by omega), nI1, fb_ct_succ]
      cases lb w i with
      | true => rw [if_pos rfl, if_pos rfl, show (1 : Int64).toInt32 = (1 : Int32) by decide, nI1]
      | false => rw [if_neg (by decide), if_neg (by decide), show (0 : Int64).toInt32 = (0 : Int32) by decide, Int32.add_zero]; rfl
    · unfold gX11_size_4
      dsimp only
      rw [if_pos (c_le (N := 40) (n := 40) rfl (Nat.le_refl _) (by decide))]
  unfold fX11_size
  rw [key, bd_some]
theorem mem_lb (w : Nat → Int64) (i : Nat) {k : Nat} (hk : k < 64) : mem w (64 * i + k) = lb (w i) k := by
  unfold mem lb
  rw [show (64 * i + k) / 64 = i by omega, show (64 * i + k) % 64 = k by omega]
theorem set_size (w : Nat → Int64) : fX7_size w = some (nI (fb_ct (mem w) 512)) := by
  have key : iter (gX7_size_4 w) FU ((0 : Int32), (0 : Int32)) = some (nI (fb_ct (mem w) (64 * 8)), nI 8) := by
    refine iter_seq (fun i => (nI (fb_ct (mem w) (64 * i)), nI i)) 8 _ (by decide) (fun i hi => ?_) ?_
    · unfold gX7_size_4
      dsimp only
      rw [if_neg (c_ge (N := 8) (n := 8) rfl hi (by decide)), gd_nI hi (by decide), ixn (by omega), bitCount_eq, bd_some, nI_add, nI1, show 64 * (i + 1) = 64 * i + 64 by omega, fb_ct_split, fb_ct_cong (p := fun k => mem w (64 * i + k)) (q := lb (w i)) (fun k hk => mem_lb w i hk)]
    · unfold gX7_size_4
      dsimp only
      rw [if_pos (c_le (N := 8) (n := 8) rfl (Nat.le_refl _) (by decide))]
  unfold fX7_size
  rw [key, bd_some]
