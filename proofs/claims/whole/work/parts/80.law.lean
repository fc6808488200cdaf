/-! THE CLAIM OUT OF ONE WALK OF THE LAW'S BODY. Your part is whole_start (and what it stands on); all else here is the same for every law, but numbers. -/
def R_law : String := "TruthKernelLaw"
def lw_P (b : Addr) (xs : List Int32) (args : Array Value) (s : State) : Prop := args = #[.ref b] ∧ s.IntsAt b xs ∧ xs.length ≤ 3072 ∧ (Jvm.Cond.and given_1 narrow_1).before args s = true
def lw_Q (_ : Array Value) (s : State) (o : Outcome) (t : State) : Prop := o = .returned (some (.int 1)) ∧ Framed s o t [] 600000 7302250
def lw_Z (below : List Frame) (a : Array Value) (s : State) : State → Prop := fun t => ∃ o, t.status = .running ∧ Ended t below o ∧ lw_Q a s o t
/-- the law's own end, with 1 on the stack, nothing written that was there before, its room as the claim has it -/
theorem lw_ret {p : Program} {l : Launch} {e : Env} {s : State} {m : MethodId} {below : List Frame} {meth : Method} {c : Code} {b : Nat} (hx : p.tables.exec = Jvm.exec) (hb : c.code = code) (hr : meth.sig.returnType = ret) (hlocks : meth.locks = false) {pc : Nat} {H : Heap} {ls : Array Slot} (hdg : decode code pc = .ok (.ireturn, 1)) : W p l e room_1 s m #[Value.ref b] below meth c H [] 600000 7302250 (lw_Z below #[Value.ref b] s) (F0 m pc ls [.int 1]) := by
  intro T hT X
  obtain ⟨fs, hret, hrun, hended, hW, hframe⟩ := X.leave (v := some (.int 1)) (hlocks := hlocks) (fun h => by rw [hr] at h; cases h)
  have hmeth' : T.vm.method? m = some meth := X.method'
  refine ⟨T.setFrames fs, ?_, .returned (some (.int 1)), hrun, hended, rfl, ⟨_, rfl⟩, hW, hframe⟩
  jvm_step X.here [X.here.top, hx, hb, hdg, hmeth', hr, ret, narrow_b1]
  (try refine ⟨rfl, ?_⟩); (try refine ⟨rfl, ?_⟩)
  first | (intro acts; rw [hret _ acts rfl rfl rfl]) | rw [hret _ _ rfl rfl rfl]
  exact Steps.refl _
/-- what holds at the law's entry: the machine, the code, the tables' words (any of lw_tbl by 'hts w (by decide +kernel)'), the script of L ints xs at the cell b, what the Statement gives of the start (any of its parts by flat_of_before) -/
def lw_At (p : Program) (s : State) (m : MethodId) (meth : Method) (c : Code) (b L : Nat) (xs : Nat → Int32) : Prop :=
  p.tables.exec = Jvm.exec ∧ c.code = code ∧ meth.sig.returnType = ret ∧ c.maxLocals = 4 ∧ s.vm.findClass R_law = some m.cls ∧ (∀ w ∈ lw_tbl, w.before #[Value.ref b] s = true) ∧ va_X b L xs s s.heap ∧ b < s.heap.size ∧ meth.locks = false ∧ (Jvm.Cond.and given_1 narrow_1).before #[Value.ref b] s = true
theorem lcmp_self (z : Int64) : lg_cmp z z = 0 := by simp [lg_cmp]
section GLAW
variable {x : GX} {cc : ByteArray} {own : String} {rm : Room} {k n : Nat} {ws : va_W} {lo : List (Nat × Value)} {pc : Nat} {st : List Value} {b L : Nat} {sv : Nat → Int32}
theorem g_sld (C : GC x cc own rm) (hX : va_X b L sv (xs x) (xs x).heap) (hbl : b < (xs x).heap.size) (hbA : ¬ xA x b) {i : Int32} (hin : vp_in i L) (hdg : decode cc pc = .ok (.iaload, 1)) (kk : GW x k n ws lo (pc + 1) (.int (sv (ix i)) :: st)) : GW x k n ws lo pc (.int i :: .ref b :: st) := fun H locs ls hP hD hS hl => va_sld C.1 C.2.1 hX hbl hbA hS hin hdg (kk H locs ls hP hD hS hl)
theorem g_slen (C : GC x cc own rm) (hX : va_X b L sv (xs x) (xs x).heap) (hbl : b < (xs x).heap.size) (hbA : ¬ xA x b) (hdg : decode cc pc = .ok (.arraylength, 1)) (kk : GW x k n ws lo (pc + 1) (.int (Int32.ofNat L) :: st)) : GW x k n ws lo pc (.ref b :: st) := fun H locs ls hP hD hS hl => va_slen C.1 C.2.1 hX hbl hbA hS hdg (kk H locs ls hP hD hS hl)
end GLAW
theorem hvv {i L j : Nat} {J : Int32} (hJ : J = nI j) (hi : 6 * i + 6 ≤ L) (hL : L ≤ 3072) (hj : j < 6) : vp_in (nI (6 * i) + J) L := by
  rw [hJ, nI_add]
  exact vp_in_nI (by omega) (by omega)
set_option maxRecDepth 100000 in
set_option maxHeartbeats 4000000 in
theorem law_0 (x : GX) (C : GC x cL_law RL room_1) (b L i : Nat) (sv : Nat → Int32) (hX : va_X b L sv (xs x) (xs x).heap) (hbl : b < (xs x).heap.size) (hbA : ¬ xA x b) (hi : 6 * i + 6 ≤ L) (hL : L ≤ 3072) (hi512 : i < 512) (a : TA) (kf sf : Nat → Option Nat) (Q S : Nat → Nat → Nat) (c : CS) (q : Nat → Nat) (m : MD) (hk : ∀ i, i < 7 → kf i = some (Q i 0)) (hs : ∀ i, i < 2 → sf i = some (S i 0)) (hI : INV i c m) (next : ∀ (c1 : CS) (m1 : MD) (kf1 : Nat → Option Nat) (Q1 : Nat → Nat → Nat), (∀ i, i < 7 → kf1 i = some (Q1 i 0)) → INV (i + 1) c1 m1 → GW x 196 22076 (tkw (xy x) a kf1 sf Q1 S c1 ++ mdw (xy x) q m1) [(0, .ref b), (1, .ref a.1), (2, .ref (q 0)), (3, .int (nI (6 * i)))] 906 []) : GW x 196 22076 (tkw (xy x) a kf sf Q S c ++ mdw (xy x) q m) [(0, .ref b), (1, .ref a.1), (2, .ref (q 0)), (3, .int (nI (6 * i)))] 160 [] := by
  have hv1 : vp_in (nI (6 * i) + (1 : Int32)) L := hvv (j := 1) (by decide) hi hL (by decide)
  have hv2 : vp_in (nI (6 * i) + (2 : Int32)) L := hvv (j := 2) (by decide) hi hL (by decide)
  have hv3 : vp_in (nI (6 * i) + (3 : Int32)) L := hvv (j := 3) (by decide) hi hL (by decide)
  have hv4 : vp_in (nI (6 * i) + (4 : Int32)) L := hvv (j := 4) (by decide) hi hL (by decide)
  have hv5 : vp_in (nI (6 * i) + (5 : Int32)) L := hvv (j := 5) (by decide) hi hL (by decide)
  refine g_aload_n C (pc := 160) 1 dL_law_160 rfl rfl ?_
  refine g_aload_n C (pc := 161) 0 dL_law_161 rfl rfl ?_
  refine g_iload_n C (pc := 162) 3 dL_law_162 rfl rfl ?_
  refine g_iconst C (pc := 163) dL_law_163 ck_iconst_1 ?_
  refine g_iadd C (pc := 164) dL_law_164 ?_
  refine g_sld C (pc := 165) hX hbl hbA hv1 dL_law_165 ?_
  refine g_aload_n C (pc := 166) 0 dL_law_166 rfl rfl ?_
  refine g_iload_n C (pc := 167) 3 dL_law_167 rfl rfl ?_
  refine g_iconst C (pc := 168) dL_law_168 ck_iconst_2 ?_
  refine g_iadd C (pc := 169) dL_law_169 ?_
  refine g_sld C (pc := 170) hX hbl hbA hv2 dL_law_170 ?_
  refine g_aload_n C (pc := 171) 0 dL_law_171 rfl rfl ?_
  refine g_iload_n C (pc := 172) 3 dL_law_172 rfl rfl ?_
  refine g_iconst C (pc := 173) dL_law_173 ck_iconst_3 ?_
  refine g_iadd C (pc := 174) dL_law_174 ?_
  refine g_sld C (pc := 175) hX hbl hbA hv3 dL_law_175 ?_
  obtain ⟨o1, o2, h1, h2, he, hI'⟩ := S_start hI hi512 (sv (ix ((nI (6 * i)) + (1 : Int32)))) (sv (ix ((nI (6 * i)) + (2 : Int32)))) (sv (ix ((nI (6 * i)) + (3 : Int32))))
  refine g_callF C (pc := 176) (wc := tkw (xy x) a kf sf Q S c) (wr := mdw (xy x) q m) (b := a.1) (As := [.int (sv (ix ((nI (6 * i)) + (1 : Int32)))), .int (sv (ix ((nI (6 * i)) + (2 : Int32)))), .int (sv (ix ((nI (6 * i)) + (3 : Int32))))]) (rest := []) 0 lkX10_start lVL_13 (kC_start (xl x) (xD x) (xy x) a kf sf Q S c (sv (ix ((nI (6 * i)) + (1 : Int32)))) (sv (ix ((nI (6 * i)) + (2 : Int32)))) (sv (ix ((nI (6 * i)) + (3 : Int32)))) o1 hk hs h1) rfl ⟨⟨Nat.le_of_ble_eq_true rfl, Nat.le_of_ble_eq_true rfl⟩, ⟨rfl, rfl⟩, ⟨Nat.le_of_ble_eq_true rfl, Nat.le_of_ble_eq_true rfl⟩⟩ rfl rfl rfl (Nat.le_of_ble_eq_true rfl) dL_law_176 (fun zv zw hw => ?_)
  obtain ⟨Q1, kf1, hk1, rfl, rfl⟩ := hw
  refine g_perm List.perm_append_comm ?_
  show GW x _ _ (mdw (xy x) q m ++ tkw (xy x) a kf1 sf Q1 S o1.2) _ 179 [.int o1.1]
  refine g_aload_n C (pc := 179) 2 dL_law_179 rfl rfl ?_
  refine g_aload_n C (pc := 180) 0 dL_law_180 rfl rfl ?_
  refine g_iload_n C (pc := 181) 3 dL_law_181 rfl rfl ?_
  refine g_iconst C (pc := 182) dL_law_182 ck_iconst_1 ?_
  refine g_iadd C (pc := 183) dL_law_183 ?_
  refine g_sld C (pc := 184) hX hbl hbA hv1 dL_law_184 ?_
  refine g_aload_n C (pc := 185) 0 dL_law_185 rfl rfl ?_
  refine g_iload_n C (pc := 186) 3 dL_law_186 rfl rfl ?_
  refine g_iconst C (pc := 187) dL_law_187 ck_iconst_2 ?_
  refine g_iadd C (pc := 188) dL_law_188 ?_
  refine g_sld C (pc := 189) hX hbl hbA hv2 dL_law_189 ?_
  refine g_aload_n C (pc := 190) 0 dL_law_190 rfl rfl ?_
  refine g_iload_n C (pc := 191) 3 dL_law_191 rfl rfl ?_
  refine g_iconst C (pc := 192) dL_law_192 ck_iconst_3 ?_
  refine g_iadd C (pc := 193) dL_law_193 ?_
  refine g_sld C (pc := 194) hX hbl hbA hv3 dL_law_194 ?_
  refine g_callF C (pc := 195) (wc := mdw (xy x) q m) (wr := tkw (xy x) a kf1 sf Q1 S o1.2) (b := q 0) (As := [.int (sv (ix ((nI (6 * i)) + (1 : Int32)))), .int (sv (ix ((nI (6 * i)) + (2 : Int32)))), .int (sv (ix ((nI (6 * i)) + (3 : Int32))))]) (rest := [.int o1.1]) 0 lkX11_start lVL_17 (kM_start (xl x) (xD x) (xy x) q m (sv (ix ((nI (6 * i)) + (1 : Int32)))) (sv (ix ((nI (6 * i)) + (2 : Int32)))) (sv (ix ((nI (6 * i)) + (3 : Int32)))) o2 h2) rfl ⟨⟨Nat.le_of_ble_eq_true rfl, Nat.le_of_ble_eq_true rfl⟩, ⟨rfl, rfl⟩, ⟨Nat.le_of_ble_eq_true rfl, Nat.le_of_ble_eq_true rfl⟩⟩ rfl rfl rfl (Nat.le_of_ble_eq_true rfl) dL_law_195 (fun zv zw hw => ?_)
  obtain ⟨rfl, rfl⟩ := hw
  refine g_perm List.perm_append_comm ?_
  show GW x _ _ (tkw (xy x) a kf1 sf Q1 S o1.2 ++ mdw (xy x) q o2.2) _ 198 [.int o2.1, .int o1.1]
  refine g_icmp_eq C (pc := 198) 906 dL_law_198 (by decide) (fun _ => ?_) (fun c_198 => absurd he c_198)
  exact next o1.2 o2.2 kf1 Q1 hk1 hI'
set_option maxRecDepth 100000 in
set_option maxHeartbeats 4000000 in
theorem law_1 (x : GX) (C : GC x cL_law RL room_1) (b L i : Nat) (sv : Nat → Int32) (hX : va_X b L sv (xs x) (xs x).heap) (hbl : b < (xs x).heap.size) (hbA : ¬ xA x b) (hi : 6 * i + 6 ≤ L) (hL : L ≤ 3072) (hi512 : i < 512) (a : TA) (kf sf : Nat → Option Nat) (Q S : Nat → Nat → Nat) (c : CS) (q : Nat → Nat) (m : MD) (hk : ∀ i, i < 7 → kf i = some (Q i 0)) (hs : ∀ i, i < 2 → sf i = some (S i 0)) (hI : INV i c m) (next : ∀ (c1 : CS) (m1 : MD) (kf1 : Nat → Option Nat) (Q1 : Nat → Nat → Nat), (∀ i, i < 7 → kf1 i = some (Q1 i 0)) → INV (i + 1) c1 m1 → GW x 196 22076 (tkw (xy x) a kf1 sf Q1 S c1 ++ mdw (xy x) q m1) [(0, .ref b), (1, .ref a.1), (2, .ref (q 0)), (3, .int (nI (6 * i)))] 906 []) : GW x 196 22076 (tkw (xy x) a kf sf Q S c ++ mdw (xy x) q m) [(0, .ref b), (1, .ref a.1), (2, .ref (q 0)), (3, .int (nI (6 * i)))] 203 [] := by
  have hv1 : vp_in (nI (6 * i) + (1 : Int32)) L := hvv (j := 1) (by decide) hi hL (by decide)
  have hv2 : vp_in (nI (6 * i) + (2 : Int32)) L := hvv (j := 2) (by decide) hi hL (by decide)
  have hv3 : vp_in (nI (6 * i) + (3 : Int32)) L := hvv (j := 3) (by decide) hi hL (by decide)
  have hv4 : vp_in (nI (6 * i) + (4 : Int32)) L := hvv (j := 4) (by decide) hi hL (by decide)
  have hv5 : vp_in (nI (6 * i) + (5 : Int32)) L := hvv (j := 5) (by decide) hi hL (by decide)
  refine g_aload_n C (pc := 203) 1 dL_law_203 rfl rfl ?_
  refine g_aload_n C (pc := 204) 0 dL_law_204 rfl rfl ?_
  refine g_iload_n C (pc := 205) 3 dL_law_205 rfl rfl ?_
  refine g_iconst C (pc := 206) dL_law_206 ck_iconst_1 ?_
  refine g_iadd C (pc := 207) dL_law_207 ?_
  refine g_sld C (pc := 208) hX hbl hbA hv1 dL_law_208 ?_
  obtain ⟨o1, o2, h1, h2, he, hI'⟩ := S_wrap hI hi512 (sv (ix ((nI (6 * i)) + (1 : Int32))))
  refine g_callF C (pc := 209) (wc := tkw (xy x) a kf sf Q S c) (wr := mdw (xy x) q m) (b := a.1) (As := [.int (sv (ix ((nI (6 * i)) + (1 : Int32))))]) (rest := []) 0 lkX10_wrap lVL_18 (kC_wrap (xl x) (xD x) (xy x) a kf sf Q S c (sv (ix ((nI (6 * i)) + (1 : Int32)))) o1 hk hs h1) rfl ⟨⟨Nat.le_of_ble_eq_true rfl, Nat.le_of_ble_eq_true rfl⟩, ⟨rfl, rfl⟩, ⟨Nat.le_of_ble_eq_true rfl, Nat.le_of_ble_eq_true rfl⟩⟩ rfl rfl rfl (Nat.le_of_ble_eq_true rfl) dL_law_209 (fun zv zw hw => ?_)
  obtain ⟨Q1, kf1, hk1, rfl, rfl⟩ := hw
  refine g_perm List.perm_append_comm ?_
  show GW x _ _ (mdw (xy x) q m ++ tkw (xy x) a kf1 sf Q1 S o1.2) _ 212 [.int o1.1]
  refine g_aload_n C (pc := 212) 2 dL_law_212 rfl rfl ?_
  refine g_aload_n C (pc := 213) 0 dL_law_213 rfl rfl ?_
  refine g_iload_n C (pc := 214) 3 dL_law_214 rfl rfl ?_
  refine g_iconst C (pc := 215) dL_law_215 ck_iconst_1 ?_
  refine g_iadd C (pc := 216) dL_law_216 ?_
  refine g_sld C (pc := 217) hX hbl hbA hv1 dL_law_217 ?_
  refine g_callF C (pc := 218) (wc := mdw (xy x) q m) (wr := tkw (xy x) a kf1 sf Q1 S o1.2) (b := q 0) (As := [.int (sv (ix ((nI (6 * i)) + (1 : Int32))))]) (rest := [.int o1.1]) 0 lkX11_wrap lVL_22 (kM_wrap (xl x) (xD x) (xy x) q m (sv (ix ((nI (6 * i)) + (1 : Int32)))) o2 h2) rfl ⟨⟨Nat.le_of_ble_eq_true rfl, Nat.le_of_ble_eq_true rfl⟩, ⟨rfl, rfl⟩, ⟨Nat.le_of_ble_eq_true rfl, Nat.le_of_ble_eq_true rfl⟩⟩ rfl rfl rfl (Nat.le_of_ble_eq_true rfl) dL_law_218 (fun zv zw hw => ?_)
  obtain ⟨rfl, rfl⟩ := hw
  refine g_perm List.perm_append_comm ?_
  show GW x _ _ (tkw (xy x) a kf1 sf Q1 S o1.2 ++ mdw (xy x) q o2.2) _ 221 [.int o2.1, .int o1.1]
  refine g_icmp_eq C (pc := 221) 906 dL_law_221 (by decide) (fun _ => ?_) (fun c_221 => absurd he c_221)
  exact next o1.2 o2.2 kf1 Q1 hk1 hI'
set_option maxRecDepth 100000 in
set_option maxHeartbeats 4000000 in
theorem law_2 (x : GX) (C : GC x cL_law RL room_1) (b L i : Nat) (sv : Nat → Int32) (hX : va_X b L sv (xs x) (xs x).heap) (hbl : b < (xs x).heap.size) (hbA : ¬ xA x b) (hi : 6 * i + 6 ≤ L) (hL : L ≤ 3072) (hi512 : i < 512) (a : TA) (kf sf : Nat → Option Nat) (Q S : Nat → Nat → Nat) (c : CS) (q : Nat → Nat) (m : MD) (hk : ∀ i, i < 7 → kf i = some (Q i 0)) (hs : ∀ i, i < 2 → sf i = some (S i 0)) (hI : INV i c m) (next : ∀ (c1 : CS) (m1 : MD) (kf1 : Nat → Option Nat) (Q1 : Nat → Nat → Nat), (∀ i, i < 7 → kf1 i = some (Q1 i 0)) → INV (i + 1) c1 m1 → GW x 196 22076 (tkw (xy x) a kf1 sf Q1 S c1 ++ mdw (xy x) q m1) [(0, .ref b), (1, .ref a.1), (2, .ref (q 0)), (3, .int (nI (6 * i)))] 906 []) : GW x 196 22076 (tkw (xy x) a kf sf Q S c ++ mdw (xy x) q m) [(0, .ref b), (1, .ref a.1), (2, .ref (q 0)), (3, .int (nI (6 * i)))] 226 [] := by
  have hv1 : vp_in (nI (6 * i) + (1 : Int32)) L := hvv (j := 1) (by decide) hi hL (by decide)
  have hv2 : vp_in (nI (6 * i) + (2 : Int32)) L := hvv (j := 2) (by decide) hi hL (by decide)
  have hv3 : vp_in (nI (6 * i) + (3 : Int32)) L := hvv (j := 3) (by decide) hi hL (by decide)
  have hv4 : vp_in (nI (6 * i) + (4 : Int32)) L := hvv (j := 4) (by decide) hi hL (by decide)
  have hv5 : vp_in (nI (6 * i) + (5 : Int32)) L := hvv (j := 5) (by decide) hi hL (by decide)
  refine g_aload_n C (pc := 226) 1 dL_law_226 rfl rfl ?_
  refine g_aload_n C (pc := 227) 0 dL_law_227 rfl rfl ?_
  refine g_iload_n C (pc := 228) 3 dL_law_228 rfl rfl ?_
  refine g_iconst C (pc := 229) dL_law_229 ck_iconst_1 ?_
  refine g_iadd C (pc := 230) dL_law_230 ?_
  refine g_sld C (pc := 231) hX hbl hbA hv1 dL_law_231 ?_
  refine g_aload_n C (pc := 232) 0 dL_law_232 rfl rfl ?_
  refine g_iload_n C (pc := 233) 3 dL_law_233 rfl rfl ?_
  refine g_iconst C (pc := 234) dL_law_234 ck_iconst_2 ?_
  refine g_iadd C (pc := 235) dL_law_235 ?_
  refine g_sld C (pc := 236) hX hbl hbA hv2 dL_law_236 ?_
  refine g_aload_n C (pc := 237) 0 dL_law_237 rfl rfl ?_
  refine g_iload_n C (pc := 238) 3 dL_law_238 rfl rfl ?_
  refine g_iconst C (pc := 239) dL_law_239 ck_iconst_3 ?_
  refine g_iadd C (pc := 240) dL_law_240 ?_
  refine g_sld C (pc := 241) hX hbl hbA hv3 dL_law_241 ?_
  refine g_aload_n C (pc := 242) 0 dL_law_242 rfl rfl ?_
  refine g_iload_n C (pc := 243) 3 dL_law_243 rfl rfl ?_
  refine g_iconst C (pc := 244) dL_law_244 ck_iconst_4 ?_
  refine g_iadd C (pc := 245) dL_law_245 ?_
  refine g_sld C (pc := 246) hX hbl hbA hv4 dL_law_246 ?_
  refine g_aload_n C (pc := 247) 0 dL_law_247 rfl rfl ?_
  refine g_iload_n C (pc := 248) 3 dL_law_248 rfl rfl ?_
  refine g_iconst C (pc := 249) dL_law_249 ck_iconst_5 ?_
  refine g_iadd C (pc := 250) dL_law_250 ?_
  refine g_sld C (pc := 251) hX hbl hbA hv5 dL_law_251 ?_
  obtain ⟨o1, o2, h1, h2, he, hI'⟩ := S_step hI hi512 (sv (ix ((nI (6 * i)) + (1 : Int32)))) (sv (ix ((nI (6 * i)) + (2 : Int32)))) (sv (ix ((nI (6 * i)) + (3 : Int32)))) (sv (ix ((nI (6 * i)) + (4 : Int32)))) (sv (ix ((nI (6 * i)) + (5 : Int32))))
  refine g_callF C (pc := 252) (wc := tkw (xy x) a kf sf Q S c) (wr := mdw (xy x) q m) (b := a.1) (As := [.int (sv (ix ((nI (6 * i)) + (1 : Int32)))), .int (sv (ix ((nI (6 * i)) + (2 : Int32)))), .int (sv (ix ((nI (6 * i)) + (3 : Int32)))), .int (sv (ix ((nI (6 * i)) + (4 : Int32)))), .int (sv (ix ((nI (6 * i)) + (5 : Int32))))]) (rest := []) 0 lkX10_step lVL_23 (kC_step (xl x) (xD x) (xy x) a kf sf Q S c (sv (ix ((nI (6 * i)) + (1 : Int32)))) (sv (ix ((nI (6 * i)) + (2 : Int32)))) (sv (ix ((nI (6 * i)) + (3 : Int32)))) (sv (ix ((nI (6 * i)) + (4 : Int32)))) (sv (ix ((nI (6 * i)) + (5 : Int32)))) o1 hk hs h1) rfl ⟨⟨Nat.le_of_ble_eq_true rfl, Nat.le_of_ble_eq_true rfl⟩, ⟨rfl, rfl⟩, ⟨Nat.le_of_ble_eq_true rfl, Nat.le_of_ble_eq_true rfl⟩⟩ rfl rfl rfl (Nat.le_of_ble_eq_true rfl) dL_law_252 (fun zv zw hw => ?_)
  obtain ⟨Q1, kf1, hk1, rfl, rfl⟩ := hw
  refine g_perm List.perm_append_comm ?_
  show GW x _ _ (mdw (xy x) q m ++ tkw (xy x) a kf1 sf Q1 S o1.2) _ 255 [.int o1.1]
  refine g_aload_n C (pc := 255) 2 dL_law_255 rfl rfl ?_
  refine g_aload_n C (pc := 256) 0 dL_law_256 rfl rfl ?_
  refine g_iload_n C (pc := 257) 3 dL_law_257 rfl rfl ?_
  refine g_iconst C (pc := 258) dL_law_258 ck_iconst_1 ?_
  refine g_iadd C (pc := 259) dL_law_259 ?_
  refine g_sld C (pc := 260) hX hbl hbA hv1 dL_law_260 ?_
  refine g_aload_n C (pc := 261) 0 dL_law_261 rfl rfl ?_
  refine g_iload_n C (pc := 262) 3 dL_law_262 rfl rfl ?_
  refine g_iconst C (pc := 263) dL_law_263 ck_iconst_2 ?_
  refine g_iadd C (pc := 264) dL_law_264 ?_
  refine g_sld C (pc := 265) hX hbl hbA hv2 dL_law_265 ?_
  refine g_aload_n C (pc := 266) 0 dL_law_266 rfl rfl ?_
  refine g_iload_n C (pc := 267) 3 dL_law_267 rfl rfl ?_
  refine g_iconst C (pc := 268) dL_law_268 ck_iconst_3 ?_
  refine g_iadd C (pc := 269) dL_law_269 ?_
  refine g_sld C (pc := 270) hX hbl hbA hv3 dL_law_270 ?_
  refine g_aload_n C (pc := 271) 0 dL_law_271 rfl rfl ?_
  refine g_iload_n C (pc := 272) 3 dL_law_272 rfl rfl ?_
  refine g_iconst C (pc := 273) dL_law_273 ck_iconst_4 ?_
  refine g_iadd C (pc := 274) dL_law_274 ?_
  refine g_sld C (pc := 275) hX hbl hbA hv4 dL_law_275 ?_
  refine g_aload_n C (pc := 276) 0 dL_law_276 rfl rfl ?_
  refine g_iload_n C (pc := 277) 3 dL_law_277 rfl rfl ?_
  refine g_iconst C (pc := 278) dL_law_278 ck_iconst_5 ?_
  refine g_iadd C (pc := 279) dL_law_279 ?_
  refine g_sld C (pc := 280) hX hbl hbA hv5 dL_law_280 ?_
  refine g_callF C (pc := 281) (wc := mdw (xy x) q m) (wr := tkw (xy x) a kf1 sf Q1 S o1.2) (b := q 0) (As := [.int (sv (ix ((nI (6 * i)) + (1 : Int32)))), .int (sv (ix ((nI (6 * i)) + (2 : Int32)))), .int (sv (ix ((nI (6 * i)) + (3 : Int32)))), .int (sv (ix ((nI (6 * i)) + (4 : Int32)))), .int (sv (ix ((nI (6 * i)) + (5 : Int32))))]) (rest := [.int o1.1]) 0 lkX11_step lVL_27 (kM_step (xl x) (xD x) (xy x) q m (sv (ix ((nI (6 * i)) + (1 : Int32)))) (sv (ix ((nI (6 * i)) + (2 : Int32)))) (sv (ix ((nI (6 * i)) + (3 : Int32)))) (sv (ix ((nI (6 * i)) + (4 : Int32)))) (sv (ix ((nI (6 * i)) + (5 : Int32)))) o2 h2) rfl ⟨⟨Nat.le_of_ble_eq_true rfl, Nat.le_of_ble_eq_true rfl⟩, ⟨rfl, rfl⟩, ⟨Nat.le_of_ble_eq_true rfl, Nat.le_of_ble_eq_true rfl⟩⟩ rfl rfl rfl (Nat.le_of_ble_eq_true rfl) dL_law_281 (fun zv zw hw => ?_)
  obtain ⟨rfl, rfl⟩ := hw
  refine g_perm List.perm_append_comm ?_
  show GW x _ _ (tkw (xy x) a kf1 sf Q1 S o1.2 ++ mdw (xy x) q o2.2) _ 284 [.int o2.1, .int o1.1]
  refine g_icmp_eq C (pc := 284) 906 dL_law_284 (by decide) (fun _ => ?_) (fun c_284 => absurd he c_284)
  exact next o1.2 o2.2 kf1 Q1 hk1 hI'
set_option maxRecDepth 100000 in
set_option maxHeartbeats 4000000 in
theorem law_3 (x : GX) (C : GC x cL_law RL room_1) (b L i : Nat) (sv : Nat → Int32) (hX : va_X b L sv (xs x) (xs x).heap) (hbl : b < (xs x).heap.size) (hbA : ¬ xA x b) (hi : 6 * i + 6 ≤ L) (hL : L ≤ 3072) (hi512 : i < 512) (a : TA) (kf sf : Nat → Option Nat) (Q S : Nat → Nat → Nat) (c : CS) (q : Nat → Nat) (m : MD) (hk : ∀ i, i < 7 → kf i = some (Q i 0)) (hs : ∀ i, i < 2 → sf i = some (S i 0)) (hI : INV i c m) (next : ∀ (c1 : CS) (m1 : MD) (kf1 : Nat → Option Nat) (Q1 : Nat → Nat → Nat), (∀ i, i < 7 → kf1 i = some (Q1 i 0)) → INV (i + 1) c1 m1 → GW x 196 22076 (tkw (xy x) a kf1 sf Q1 S c1 ++ mdw (xy x) q m1) [(0, .ref b), (1, .ref a.1), (2, .ref (q 0)), (3, .int (nI (6 * i)))] 906 []) : GW x 196 22076 (tkw (xy x) a kf sf Q S c ++ mdw (xy x) q m) [(0, .ref b), (1, .ref a.1), (2, .ref (q 0)), (3, .int (nI (6 * i)))] 289 [] := by
  have hv1 : vp_in (nI (6 * i) + (1 : Int32)) L := hvv (j := 1) (by decide) hi hL (by decide)
  have hv2 : vp_in (nI (6 * i) + (2 : Int32)) L := hvv (j := 2) (by decide) hi hL (by decide)
  have hv3 : vp_in (nI (6 * i) + (3 : Int32)) L := hvv (j := 3) (by decide) hi hL (by decide)
  have hv4 : vp_in (nI (6 * i) + (4 : Int32)) L := hvv (j := 4) (by decide) hi hL (by decide)
  have hv5 : vp_in (nI (6 * i) + (5 : Int32)) L := hvv (j := 5) (by decide) hi hL (by decide)
  refine g_aload_n C (pc := 289) 1 dL_law_289 rfl rfl ?_
  refine g_aload_n C (pc := 290) 0 dL_law_290 rfl rfl ?_
  refine g_iload_n C (pc := 291) 3 dL_law_291 rfl rfl ?_
  refine g_iconst C (pc := 292) dL_law_292 ck_iconst_1 ?_
  refine g_iadd C (pc := 293) dL_law_293 ?_
  refine g_sld C (pc := 294) hX hbl hbA hv1 dL_law_294 ?_
  obtain ⟨o1, o2, h1, h2, he, hI'⟩ := S_drop hI hi512 (sv (ix ((nI (6 * i)) + (1 : Int32))))
  refine g_callF C (pc := 295) (wc := tkw (xy x) a kf sf Q S c) (wr := mdw (xy x) q m) (b := a.1) (As := [.int (sv (ix ((nI (6 * i)) + (1 : Int32))))]) (rest := []) 0 lkX10_drop lVL_28 (kC_drop (xl x) (xD x) (xy x) a kf sf Q S c (sv (ix ((nI (6 * i)) + (1 : Int32)))) o1 hk hs h1) rfl ⟨⟨Nat.le_of_ble_eq_true rfl, Nat.le_of_ble_eq_true rfl⟩, ⟨rfl, rfl⟩, ⟨Nat.le_of_ble_eq_true rfl, Nat.le_of_ble_eq_true rfl⟩⟩ rfl rfl rfl (Nat.le_of_ble_eq_true rfl) dL_law_295 (fun zv zw hw => ?_)
  obtain ⟨Q1, kf1, hk1, rfl, rfl⟩ := hw
  refine g_perm List.perm_append_comm ?_
  show GW x _ _ (mdw (xy x) q m ++ tkw (xy x) a kf1 sf Q1 S o1.2) _ 298 [.int o1.1]
  refine g_aload_n C (pc := 298) 2 dL_law_298 rfl rfl ?_
  refine g_aload_n C (pc := 299) 0 dL_law_299 rfl rfl ?_
  refine g_iload_n C (pc := 300) 3 dL_law_300 rfl rfl ?_
  refine g_iconst C (pc := 301) dL_law_301 ck_iconst_1 ?_
  refine g_iadd C (pc := 302) dL_law_302 ?_
  refine g_sld C (pc := 303) hX hbl hbA hv1 dL_law_303 ?_
  refine g_callF C (pc := 304) (wc := mdw (xy x) q m) (wr := tkw (xy x) a kf1 sf Q1 S o1.2) (b := q 0) (As := [.int (sv (ix ((nI (6 * i)) + (1 : Int32))))]) (rest := [.int o1.1]) 0 lkX11_drop lVL_31 (kM_drop (xl x) (xD x) (xy x) q m (sv (ix ((nI (6 * i)) + (1 : Int32)))) o2 h2) rfl ⟨⟨Nat.le_of_ble_eq_true rfl, Nat.le_of_ble_eq_true rfl⟩, ⟨rfl, rfl⟩, ⟨Nat.le_of_ble_eq_true rfl, Nat.le_of_ble_eq_true rfl⟩⟩ rfl rfl rfl (Nat.le_of_ble_eq_true rfl) dL_law_304 (fun zv zw hw => ?_)
  obtain ⟨rfl, rfl⟩ := hw
  refine g_perm List.perm_append_comm ?_
  show GW x _ _ (tkw (xy x) a kf1 sf Q1 S o1.2 ++ mdw (xy x) q o2.2) _ 307 [.int o2.1, .int o1.1]
  refine g_icmp_eq C (pc := 307) 906 dL_law_307 (by decide) (fun _ => ?_) (fun c_307 => absurd he c_307)
  exact next o1.2 o2.2 kf1 Q1 hk1 hI'
set_option maxRecDepth 100000 in
set_option maxHeartbeats 4000000 in
theorem law_4 (x : GX) (C : GC x cL_law RL room_1) (b L i : Nat) (sv : Nat → Int32) (hX : va_X b L sv (xs x) (xs x).heap) (hbl : b < (xs x).heap.size) (hbA : ¬ xA x b) (hi : 6 * i + 6 ≤ L) (hL : L ≤ 3072) (hi512 : i < 512) (a : TA) (kf sf : Nat → Option Nat) (Q S : Nat → Nat → Nat) (c : CS) (q : Nat → Nat) (m : MD) (hk : ∀ i, i < 7 → kf i = some (Q i 0)) (hs : ∀ i, i < 2 → sf i = some (S i 0)) (hI : INV i c m) (next : ∀ (c1 : CS) (m1 : MD) (kf1 : Nat → Option Nat) (Q1 : Nat → Nat → Nat), (∀ i, i < 7 → kf1 i = some (Q1 i 0)) → INV (i + 1) c1 m1 → GW x 196 22076 (tkw (xy x) a kf1 sf Q1 S c1 ++ mdw (xy x) q m1) [(0, .ref b), (1, .ref a.1), (2, .ref (q 0)), (3, .int (nI (6 * i)))] 906 []) : GW x 196 22076 (tkw (xy x) a kf sf Q S c ++ mdw (xy x) q m) [(0, .ref b), (1, .ref a.1), (2, .ref (q 0)), (3, .int (nI (6 * i)))] 312 [] := by
  have hv1 : vp_in (nI (6 * i) + (1 : Int32)) L := hvv (j := 1) (by decide) hi hL (by decide)
  have hv2 : vp_in (nI (6 * i) + (2 : Int32)) L := hvv (j := 2) (by decide) hi hL (by decide)
  have hv3 : vp_in (nI (6 * i) + (3 : Int32)) L := hvv (j := 3) (by decide) hi hL (by decide)
  have hv4 : vp_in (nI (6 * i) + (4 : Int32)) L := hvv (j := 4) (by decide) hi hL (by decide)
  have hv5 : vp_in (nI (6 * i) + (5 : Int32)) L := hvv (j := 5) (by decide) hi hL (by decide)
  refine g_aload_n C (pc := 312) 1 dL_law_312 rfl rfl ?_
  refine g_aload_n C (pc := 313) 0 dL_law_313 rfl rfl ?_
  refine g_iload_n C (pc := 314) 3 dL_law_314 rfl rfl ?_
  refine g_iconst C (pc := 315) dL_law_315 ck_iconst_1 ?_
  refine g_iadd C (pc := 316) dL_law_316 ?_
  refine g_sld C (pc := 317) hX hbl hbA hv1 dL_law_317 ?_
  obtain ⟨o1, o2, h1, h2, he, hI'⟩ := S_candidate hI hi512 (sv (ix ((nI (6 * i)) + (1 : Int32))))
  refine g_callF C (pc := 318) (wc := tkw (xy x) a kf sf Q S c) (wr := mdw (xy x) q m) (b := a.1) (As := [.int (sv (ix ((nI (6 * i)) + (1 : Int32))))]) (rest := []) 0 lkX10_candidate lVL_32 (kC_candidate (xl x) (xD x) (xy x) a kf sf Q S c (sv (ix ((nI (6 * i)) + (1 : Int32)))) o1 hk hs h1) rfl ⟨⟨Nat.le_of_ble_eq_true rfl, Nat.le_of_ble_eq_true rfl⟩, ⟨rfl, rfl⟩, ⟨Nat.le_of_ble_eq_true rfl, Nat.le_of_ble_eq_true rfl⟩⟩ rfl rfl rfl (Nat.le_of_ble_eq_true rfl) dL_law_318 (fun zv zw hw => ?_)
  obtain ⟨Q1, kf1, hk1, rfl, rfl⟩ := hw
  refine g_perm List.perm_append_comm ?_
  show GW x _ _ (mdw (xy x) q m ++ tkw (xy x) a kf1 sf Q1 S o1.2) _ 321 [.int o1.1]
  refine g_aload_n C (pc := 321) 2 dL_law_321 rfl rfl ?_
  refine g_aload_n C (pc := 322) 0 dL_law_322 rfl rfl ?_
  refine g_iload_n C (pc := 323) 3 dL_law_323 rfl rfl ?_
  refine g_iconst C (pc := 324) dL_law_324 ck_iconst_1 ?_
  refine g_iadd C (pc := 325) dL_law_325 ?_
  refine g_sld C (pc := 326) hX hbl hbA hv1 dL_law_326 ?_
  refine g_callF C (pc := 327) (wc := mdw (xy x) q m) (wr := tkw (xy x) a kf1 sf Q1 S o1.2) (b := q 0) (As := [.int (sv (ix ((nI (6 * i)) + (1 : Int32))))]) (rest := [.int o1.1]) 0 lkX11_candidate lVL_35 (kM_candidate (xl x) (xD x) (xy x) q m (sv (ix ((nI (6 * i)) + (1 : Int32)))) o2 h2) rfl ⟨⟨Nat.le_of_ble_eq_true rfl, Nat.le_of_ble_eq_true rfl⟩, ⟨rfl, rfl⟩, ⟨Nat.le_of_ble_eq_true rfl, Nat.le_of_ble_eq_true rfl⟩⟩ rfl rfl rfl (Nat.le_of_ble_eq_true rfl) dL_law_327 (fun zv zw hw => ?_)
  obtain ⟨rfl, rfl⟩ := hw
  refine g_perm List.perm_append_comm ?_
  show GW x _ _ (tkw (xy x) a kf1 sf Q1 S o1.2 ++ mdw (xy x) q o2.2) _ 330 [.int o2.1, .int o1.1]
  refine g_icmp_eq C (pc := 330) 906 dL_law_330 (by decide) (fun _ => ?_) (fun c_330 => absurd he c_330)
  exact next o1.2 o2.2 kf1 Q1 hk1 hI'
set_option maxRecDepth 100000 in
set_option maxHeartbeats 4000000 in
theorem law_5 (x : GX) (C : GC x cL_law RL room_1) (b L i : Nat) (sv : Nat → Int32) (hX : va_X b L sv (xs x) (xs x).heap) (hbl : b < (xs x).heap.size) (hbA : ¬ xA x b) (hi : 6 * i + 6 ≤ L) (hL : L ≤ 3072) (hi512 : i < 512) (a : TA) (kf sf : Nat → Option Nat) (Q S : Nat → Nat → Nat) (c : CS) (q : Nat → Nat) (m : MD) (hk : ∀ i, i < 7 → kf i = some (Q i 0)) (hs : ∀ i, i < 2 → sf i = some (S i 0)) (hI : INV i c m) (next : ∀ (c1 : CS) (m1 : MD) (kf1 : Nat → Option Nat) (Q1 : Nat → Nat → Nat), (∀ i, i < 7 → kf1 i = some (Q1 i 0)) → INV (i + 1) c1 m1 → GW x 196 22076 (tkw (xy x) a kf1 sf Q1 S c1 ++ mdw (xy x) q m1) [(0, .ref b), (1, .ref a.1), (2, .ref (q 0)), (3, .int (nI (6 * i)))] 906 []) : GW x 196 22076 (tkw (xy x) a kf sf Q S c ++ mdw (xy x) q m) [(0, .ref b), (1, .ref a.1), (2, .ref (q 0)), (3, .int (nI (6 * i)))] 335 [] := by
  have hv1 : vp_in (nI (6 * i) + (1 : Int32)) L := hvv (j := 1) (by decide) hi hL (by decide)
  have hv2 : vp_in (nI (6 * i) + (2 : Int32)) L := hvv (j := 2) (by decide) hi hL (by decide)
  have hv3 : vp_in (nI (6 * i) + (3 : Int32)) L := hvv (j := 3) (by decide) hi hL (by decide)
  have hv4 : vp_in (nI (6 * i) + (4 : Int32)) L := hvv (j := 4) (by decide) hi hL (by decide)
  have hv5 : vp_in (nI (6 * i) + (5 : Int32)) L := hvv (j := 5) (by decide) hi hL (by decide)
  refine g_aload_n C (pc := 335) 1 dL_law_335 rfl rfl ?_
  refine g_aload_n C (pc := 336) 0 dL_law_336 rfl rfl ?_
  refine g_iload_n C (pc := 337) 3 dL_law_337 rfl rfl ?_
  refine g_iconst C (pc := 338) dL_law_338 ck_iconst_1 ?_
  refine g_iadd C (pc := 339) dL_law_339 ?_
  refine g_sld C (pc := 340) hX hbl hbA hv1 dL_law_340 ?_
  obtain ⟨o1, o2, h1, h2, he, hI'⟩ := S_guess hI hi512 (sv (ix ((nI (6 * i)) + (1 : Int32))))
  refine g_callF C (pc := 341) (wc := tkw (xy x) a kf sf Q S c) (wr := mdw (xy x) q m) (b := a.1) (As := [.int (sv (ix ((nI (6 * i)) + (1 : Int32))))]) (rest := []) 0 lkX10_guess lVL_36 (kC_guess (xl x) (xD x) (xy x) a kf sf Q S c (sv (ix ((nI (6 * i)) + (1 : Int32)))) o1 hk hs h1) rfl ⟨⟨Nat.le_of_ble_eq_true rfl, Nat.le_of_ble_eq_true rfl⟩, ⟨rfl, rfl⟩, ⟨Nat.le_of_ble_eq_true rfl, Nat.le_of_ble_eq_true rfl⟩⟩ rfl rfl rfl (Nat.le_of_ble_eq_true rfl) dL_law_341 (fun zv zw hw => ?_)
  obtain ⟨Q1, kf1, hk1, rfl, rfl⟩ := hw
  refine g_perm List.perm_append_comm ?_
  show GW x _ _ (mdw (xy x) q m ++ tkw (xy x) a kf1 sf Q1 S o1.2) _ 344 [.int o1.1]
  refine g_aload_n C (pc := 344) 2 dL_law_344 rfl rfl ?_
  refine g_aload_n C (pc := 345) 0 dL_law_345 rfl rfl ?_
  refine g_iload_n C (pc := 346) 3 dL_law_346 rfl rfl ?_
  refine g_iconst C (pc := 347) dL_law_347 ck_iconst_1 ?_
  refine g_iadd C (pc := 348) dL_law_348 ?_
  refine g_sld C (pc := 349) hX hbl hbA hv1 dL_law_349 ?_
  refine g_callF C (pc := 350) (wc := mdw (xy x) q m) (wr := tkw (xy x) a kf1 sf Q1 S o1.2) (b := q 0) (As := [.int (sv (ix ((nI (6 * i)) + (1 : Int32))))]) (rest := [.int o1.1]) 0 lkX11_guess lVL_39 (kM_guess (xl x) (xD x) (xy x) q m (sv (ix ((nI (6 * i)) + (1 : Int32)))) o2 h2) rfl ⟨⟨Nat.le_of_ble_eq_true rfl, Nat.le_of_ble_eq_true rfl⟩, ⟨rfl, rfl⟩, ⟨Nat.le_of_ble_eq_true rfl, Nat.le_of_ble_eq_true rfl⟩⟩ rfl rfl rfl (Nat.le_of_ble_eq_true rfl) dL_law_350 (fun zv zw hw => ?_)
  obtain ⟨rfl, rfl⟩ := hw
  refine g_perm List.perm_append_comm ?_
  show GW x _ _ (tkw (xy x) a kf1 sf Q1 S o1.2 ++ mdw (xy x) q o2.2) _ 353 [.int o2.1, .int o1.1]
  refine g_icmp_eq C (pc := 353) 906 dL_law_353 (by decide) (fun _ => ?_) (fun c_353 => absurd he c_353)
  exact next o1.2 o2.2 kf1 Q1 hk1 hI'
set_option maxRecDepth 100000 in
set_option maxHeartbeats 4000000 in
theorem law_6 (x : GX) (C : GC x cL_law RL room_1) (b L i : Nat) (sv : Nat → Int32) (hX : va_X b L sv (xs x) (xs x).heap) (hbl : b < (xs x).heap.size) (hbA : ¬ xA x b) (hi : 6 * i + 6 ≤ L) (hL : L ≤ 3072) (hi512 : i < 512) (a : TA) (kf sf : Nat → Option Nat) (Q S : Nat → Nat → Nat) (c : CS) (q : Nat → Nat) (m : MD) (hk : ∀ i, i < 7 → kf i = some (Q i 0)) (hs : ∀ i, i < 2 → sf i = some (S i 0)) (hI : INV i c m) (next : ∀ (c1 : CS) (m1 : MD) (kf1 : Nat → Option Nat) (Q1 : Nat → Nat → Nat), (∀ i, i < 7 → kf1 i = some (Q1 i 0)) → INV (i + 1) c1 m1 → GW x 196 22076 (tkw (xy x) a kf1 sf Q1 S c1 ++ mdw (xy x) q m1) [(0, .ref b), (1, .ref a.1), (2, .ref (q 0)), (3, .int (nI (6 * i)))] 906 []) : GW x 196 22076 (tkw (xy x) a kf sf Q S c ++ mdw (xy x) q m) [(0, .ref b), (1, .ref a.1), (2, .ref (q 0)), (3, .int (nI (6 * i)))] 358 [] := by
  have hv1 : vp_in (nI (6 * i) + (1 : Int32)) L := hvv (j := 1) (by decide) hi hL (by decide)
  have hv2 : vp_in (nI (6 * i) + (2 : Int32)) L := hvv (j := 2) (by decide) hi hL (by decide)
  have hv3 : vp_in (nI (6 * i) + (3 : Int32)) L := hvv (j := 3) (by decide) hi hL (by decide)
  have hv4 : vp_in (nI (6 * i) + (4 : Int32)) L := hvv (j := 4) (by decide) hi hL (by decide)
  have hv5 : vp_in (nI (6 * i) + (5 : Int32)) L := hvv (j := 5) (by decide) hi hL (by decide)
  refine g_aload_n C (pc := 358) 1 dL_law_358 rfl rfl ?_
  refine g_aload_n C (pc := 359) 0 dL_law_359 rfl rfl ?_
  refine g_iload_n C (pc := 360) 3 dL_law_360 rfl rfl ?_
  refine g_iconst C (pc := 361) dL_law_361 ck_iconst_1 ?_
  refine g_iadd C (pc := 362) dL_law_362 ?_
  refine g_sld C (pc := 363) hX hbl hbA hv1 dL_law_363 ?_
  refine g_aload_n C (pc := 364) 0 dL_law_364 rfl rfl ?_
  refine g_iload_n C (pc := 365) 3 dL_law_365 rfl rfl ?_
  refine g_iconst C (pc := 366) dL_law_366 ck_iconst_2 ?_
  refine g_iadd C (pc := 367) dL_law_367 ?_
  refine g_sld C (pc := 368) hX hbl hbA hv2 dL_law_368 ?_
  obtain ⟨o1, o2, h1, h2, he, hI'⟩ := S_run hI hi512 (sv (ix ((nI (6 * i)) + (1 : Int32)))) (sv (ix ((nI (6 * i)) + (2 : Int32))))
  refine g_callF C (pc := 369) (wc := tkw (xy x) a kf sf Q S c) (wr := mdw (xy x) q m) (b := a.1) (As := [.int (sv (ix ((nI (6 * i)) + (1 : Int32)))), .int (sv (ix ((nI (6 * i)) + (2 : Int32))))]) (rest := []) 0 lkX10_run lVL_40 (kC_run (xl x) (xD x) (xy x) a kf sf Q S c (sv (ix ((nI (6 * i)) + (1 : Int32)))) (sv (ix ((nI (6 * i)) + (2 : Int32)))) o1 hk hs h1) rfl ⟨⟨Nat.le_of_ble_eq_true rfl, Nat.le_of_ble_eq_true rfl⟩, ⟨rfl, rfl⟩, ⟨Nat.le_of_ble_eq_true rfl, Nat.le_of_ble_eq_true rfl⟩⟩ rfl rfl rfl (Nat.le_of_ble_eq_true rfl) dL_law_369 (fun zv zw hw => ?_)
  obtain ⟨Q1, kf1, hk1, rfl, rfl⟩ := hw
  refine g_perm List.perm_append_comm ?_
  show GW x _ _ (mdw (xy x) q m ++ tkw (xy x) a kf1 sf Q1 S o1.2) _ 372 [.int o1.1]
  refine g_aload_n C (pc := 372) 2 dL_law_372 rfl rfl ?_
  refine g_aload_n C (pc := 373) 0 dL_law_373 rfl rfl ?_
  refine g_iload_n C (pc := 374) 3 dL_law_374 rfl rfl ?_
  refine g_iconst C (pc := 375) dL_law_375 ck_iconst_1 ?_
  refine g_iadd C (pc := 376) dL_law_376 ?_
  refine g_sld C (pc := 377) hX hbl hbA hv1 dL_law_377 ?_
  refine g_aload_n C (pc := 378) 0 dL_law_378 rfl rfl ?_
  refine g_iload_n C (pc := 379) 3 dL_law_379 rfl rfl ?_
  refine g_iconst C (pc := 380) dL_law_380 ck_iconst_2 ?_
  refine g_iadd C (pc := 381) dL_law_381 ?_
  refine g_sld C (pc := 382) hX hbl hbA hv2 dL_law_382 ?_
  refine g_callF C (pc := 383) (wc := mdw (xy x) q m) (wr := tkw (xy x) a kf1 sf Q1 S o1.2) (b := q 0) (As := [.int (sv (ix ((nI (6 * i)) + (1 : Int32)))), .int (sv (ix ((nI (6 * i)) + (2 : Int32))))]) (rest := [.int o1.1]) 0 lkX11_run lVL_44 (kM_run (xl x) (xD x) (xy x) q m (sv (ix ((nI (6 * i)) + (1 : Int32)))) (sv (ix ((nI (6 * i)) + (2 : Int32)))) o2 h2) rfl ⟨⟨Nat.le_of_ble_eq_true rfl, Nat.le_of_ble_eq_true rfl⟩, ⟨rfl, rfl⟩, ⟨Nat.le_of_ble_eq_true rfl, Nat.le_of_ble_eq_true rfl⟩⟩ rfl rfl rfl (Nat.le_of_ble_eq_true rfl) dL_law_383 (fun zv zw hw => ?_)
  obtain ⟨rfl, rfl⟩ := hw
  refine g_perm List.perm_append_comm ?_
  show GW x _ _ (tkw (xy x) a kf1 sf Q1 S o1.2 ++ mdw (xy x) q o2.2) _ 386 [.int o2.1, .int o1.1]
  refine g_icmp_eq C (pc := 386) 906 dL_law_386 (by decide) (fun _ => ?_) (fun c_386 => absurd he c_386)
  exact next o1.2 o2.2 kf1 Q1 hk1 hI'
set_option maxRecDepth 100000 in
set_option maxHeartbeats 4000000 in
theorem law_7 (x : GX) (C : GC x cL_law RL room_1) (b L i : Nat) (sv : Nat → Int32) (hX : va_X b L sv (xs x) (xs x).heap) (hbl : b < (xs x).heap.size) (hbA : ¬ xA x b) (hi : 6 * i + 6 ≤ L) (hL : L ≤ 3072) (hi512 : i < 512) (a : TA) (kf sf : Nat → Option Nat) (Q S : Nat → Nat → Nat) (c : CS) (q : Nat → Nat) (m : MD) (hk : ∀ i, i < 7 → kf i = some (Q i 0)) (hs : ∀ i, i < 2 → sf i = some (S i 0)) (hI : INV i c m) (next : ∀ (c1 : CS) (m1 : MD) (kf1 : Nat → Option Nat) (Q1 : Nat → Nat → Nat), (∀ i, i < 7 → kf1 i = some (Q1 i 0)) → INV (i + 1) c1 m1 → GW x 196 22076 (tkw (xy x) a kf1 sf Q1 S c1 ++ mdw (xy x) q m1) [(0, .ref b), (1, .ref a.1), (2, .ref (q 0)), (3, .int (nI (6 * i)))] 906 []) : GW x 196 22076 (tkw (xy x) a kf sf Q S c ++ mdw (xy x) q m) [(0, .ref b), (1, .ref a.1), (2, .ref (q 0)), (3, .int (nI (6 * i)))] 391 [] := by
  have hv1 : vp_in (nI (6 * i) + (1 : Int32)) L := hvv (j := 1) (by decide) hi hL (by decide)
  have hv2 : vp_in (nI (6 * i) + (2 : Int32)) L := hvv (j := 2) (by decide) hi hL (by decide)
  have hv3 : vp_in (nI (6 * i) + (3 : Int32)) L := hvv (j := 3) (by decide) hi hL (by decide)
  have hv4 : vp_in (nI (6 * i) + (4 : Int32)) L := hvv (j := 4) (by decide) hi hL (by decide)
  have hv5 : vp_in (nI (6 * i) + (5 : Int32)) L := hvv (j := 5) (by decide) hi hL (by decide)
  refine g_aload_n C (pc := 391) 1 dL_law_391 rfl rfl ?_
  obtain ⟨o1, o2, h1, h2, he, hI'⟩ := S_strike hI hi512
  refine g_callF C (pc := 392) (wc := tkw (xy x) a kf sf Q S c) (wr := mdw (xy x) q m) (b := a.1) (As := []) (rest := []) 0 lkX10_strike lVL_45 (kC_strike (xl x) (xD x) (xy x) a kf sf Q S c  o1 hk hs h1) rfl ⟨⟨Nat.le_of_ble_eq_true rfl, Nat.le_of_ble_eq_true rfl⟩, ⟨rfl, rfl⟩, ⟨Nat.le_of_ble_eq_true rfl, Nat.le_of_ble_eq_true rfl⟩⟩ rfl rfl rfl (Nat.le_of_ble_eq_true rfl) dL_law_392 (fun zv zw hw => ?_)
  obtain ⟨Q1, kf1, hk1, rfl, rfl⟩ := hw
  refine g_perm List.perm_append_comm ?_
  show GW x _ _ (mdw (xy x) q m ++ tkw (xy x) a kf1 sf Q1 S o1.2) _ 395 [.int o1.1]
  refine g_aload_n C (pc := 395) 2 dL_law_395 rfl rfl ?_
  refine g_callF C (pc := 396) (wc := mdw (xy x) q m) (wr := tkw (xy x) a kf1 sf Q1 S o1.2) (b := q 0) (As := []) (rest := [.int o1.1]) 0 lkX11_strike lVL_49 (kM_strike (xl x) (xD x) (xy x) q m  o2 h2) rfl ⟨⟨Nat.le_of_ble_eq_true rfl, Nat.le_of_ble_eq_true rfl⟩, ⟨rfl, rfl⟩, ⟨Nat.le_of_ble_eq_true rfl, Nat.le_of_ble_eq_true rfl⟩⟩ rfl rfl rfl (Nat.le_of_ble_eq_true rfl) dL_law_396 (fun zv zw hw => ?_)
  obtain ⟨rfl, rfl⟩ := hw
  refine g_perm List.perm_append_comm ?_
  show GW x _ _ (tkw (xy x) a kf1 sf Q1 S o1.2 ++ mdw (xy x) q o2.2) _ 399 [.int o2.1, .int o1.1]
  refine g_icmp_eq C (pc := 399) 906 dL_law_399 (by decide) (fun _ => ?_) (fun c_399 => absurd he c_399)
  exact next o1.2 o2.2 kf1 Q1 hk1 hI'
set_option maxRecDepth 100000 in
set_option maxHeartbeats 4000000 in
theorem law_8 (x : GX) (C : GC x cL_law RL room_1) (b L i : Nat) (sv : Nat → Int32) (hX : va_X b L sv (xs x) (xs x).heap) (hbl : b < (xs x).heap.size) (hbA : ¬ xA x b) (hi : 6 * i + 6 ≤ L) (hL : L ≤ 3072) (hi512 : i < 512) (a : TA) (kf sf : Nat → Option Nat) (Q S : Nat → Nat → Nat) (c : CS) (q : Nat → Nat) (m : MD) (hk : ∀ i, i < 7 → kf i = some (Q i 0)) (hs : ∀ i, i < 2 → sf i = some (S i 0)) (hI : INV i c m) (next : ∀ (c1 : CS) (m1 : MD) (kf1 : Nat → Option Nat) (Q1 : Nat → Nat → Nat), (∀ i, i < 7 → kf1 i = some (Q1 i 0)) → INV (i + 1) c1 m1 → GW x 196 22076 (tkw (xy x) a kf1 sf Q1 S c1 ++ mdw (xy x) q m1) [(0, .ref b), (1, .ref a.1), (2, .ref (q 0)), (3, .int (nI (6 * i)))] 906 []) : GW x 196 22076 (tkw (xy x) a kf sf Q S c ++ mdw (xy x) q m) [(0, .ref b), (1, .ref a.1), (2, .ref (q 0)), (3, .int (nI (6 * i)))] 404 [] := by
  have hv1 : vp_in (nI (6 * i) + (1 : Int32)) L := hvv (j := 1) (by decide) hi hL (by decide)
  have hv2 : vp_in (nI (6 * i) + (2 : Int32)) L := hvv (j := 2) (by decide) hi hL (by decide)
  have hv3 : vp_in (nI (6 * i) + (3 : Int32)) L := hvv (j := 3) (by decide) hi hL (by decide)
  have hv4 : vp_in (nI (6 * i) + (4 : Int32)) L := hvv (j := 4) (by decide) hi hL (by decide)
  have hv5 : vp_in (nI (6 * i) + (5 : Int32)) L := hvv (j := 5) (by decide) hi hL (by decide)
  refine g_aload_n C (pc := 404) 1 dL_law_404 rfl rfl ?_
  obtain ⟨o1, o2, h1, h2, he, hI'⟩ := S_settle hI hi512
  refine g_callF C (pc := 405) (wc := tkw (xy x) a kf sf Q S c) (wr := mdw (xy x) q m) (b := a.1) (As := []) (rest := []) 0 lkX10_settle lVL_50 (kC_settle (xl x) (xD x) (xy x) a kf sf Q S c  o1 hk hs h1) rfl ⟨⟨Nat.le_of_ble_eq_true rfl, Nat.le_of_ble_eq_true rfl⟩, ⟨rfl, rfl⟩, ⟨Nat.le_of_ble_eq_true rfl, Nat.le_of_ble_eq_true rfl⟩⟩ rfl rfl rfl (Nat.le_of_ble_eq_true rfl) dL_law_405 (fun zv zw hw => ?_)
  obtain ⟨Q1, kf1, hk1, rfl, rfl⟩ := hw
  refine g_perm List.perm_append_comm ?_
  show GW x _ _ (mdw (xy x) q m ++ tkw (xy x) a kf1 sf Q1 S o1.2) _ 408 [.int o1.1]
  refine g_aload_n C (pc := 408) 2 dL_law_408 rfl rfl ?_
  refine g_callF C (pc := 409) (wc := mdw (xy x) q m) (wr := tkw (xy x) a kf1 sf Q1 S o1.2) (b := q 0) (As := []) (rest := [.int o1.1]) 0 lkX11_settle lVL_53 (kM_settle (xl x) (xD x) (xy x) q m  o2 h2) rfl ⟨⟨Nat.le_of_ble_eq_true rfl, Nat.le_of_ble_eq_true rfl⟩, ⟨rfl, rfl⟩, ⟨Nat.le_of_ble_eq_true rfl, Nat.le_of_ble_eq_true rfl⟩⟩ rfl rfl rfl (Nat.le_of_ble_eq_true rfl) dL_law_409 (fun zv zw hw => ?_)
  obtain ⟨rfl, rfl⟩ := hw
  refine g_perm List.perm_append_comm ?_
  show GW x _ _ (tkw (xy x) a kf1 sf Q1 S o1.2 ++ mdw (xy x) q o2.2) _ 412 [.int o2.1, .int o1.1]
  refine g_icmp_eq C (pc := 412) 906 dL_law_412 (by decide) (fun _ => ?_) (fun c_412 => absurd he c_412)
  exact next o1.2 o2.2 kf1 Q1 hk1 hI'
set_option maxRecDepth 100000 in
set_option maxHeartbeats 4000000 in
theorem law_9 (x : GX) (C : GC x cL_law RL room_1) (b L i : Nat) (sv : Nat → Int32) (hX : va_X b L sv (xs x) (xs x).heap) (hbl : b < (xs x).heap.size) (hbA : ¬ xA x b) (hi : 6 * i + 6 ≤ L) (hL : L ≤ 3072) (hi512 : i < 512) (a : TA) (kf sf : Nat → Option Nat) (Q S : Nat → Nat → Nat) (c : CS) (q : Nat → Nat) (m : MD) (hk : ∀ i, i < 7 → kf i = some (Q i 0)) (hs : ∀ i, i < 2 → sf i = some (S i 0)) (hI : INV i c m) (next : ∀ (c1 : CS) (m1 : MD) (kf1 : Nat → Option Nat) (Q1 : Nat → Nat → Nat), (∀ i, i < 7 → kf1 i = some (Q1 i 0)) → INV (i + 1) c1 m1 → GW x 196 22076 (tkw (xy x) a kf1 sf Q1 S c1 ++ mdw (xy x) q m1) [(0, .ref b), (1, .ref a.1), (2, .ref (q 0)), (3, .int (nI (6 * i)))] 906 []) : GW x 196 22076 (tkw (xy x) a kf sf Q S c ++ mdw (xy x) q m) [(0, .ref b), (1, .ref a.1), (2, .ref (q 0)), (3, .int (nI (6 * i)))] 417 [] := by
  have hv1 : vp_in (nI (6 * i) + (1 : Int32)) L := hvv (j := 1) (by decide) hi hL (by decide)
  have hv2 : vp_in (nI (6 * i) + (2 : Int32)) L := hvv (j := 2) (by decide) hi hL (by decide)
  have hv3 : vp_in (nI (6 * i) + (3 : Int32)) L := hvv (j := 3) (by decide) hi hL (by decide)
  have hv4 : vp_in (nI (6 * i) + (4 : Int32)) L := hvv (j := 4) (by decide) hi hL (by decide)
  have hv5 : vp_in (nI (6 * i) + (5 : Int32)) L := hvv (j := 5) (by decide) hi hL (by decide)
  refine g_aload_n C (pc := 417) 1 dL_law_417 rfl rfl ?_
  refine g_aload_n C (pc := 418) 0 dL_law_418 rfl rfl ?_
  refine g_iload_n C (pc := 419) 3 dL_law_419 rfl rfl ?_
  refine g_iconst C (pc := 420) dL_law_420 ck_iconst_1 ?_
  refine g_iadd C (pc := 421) dL_law_421 ?_
  refine g_sld C (pc := 422) hX hbl hbA hv1 dL_law_422 ?_
  refine g_aload_n C (pc := 423) 0 dL_law_423 rfl rfl ?_
  refine g_iload_n C (pc := 424) 3 dL_law_424 rfl rfl ?_
  refine g_iconst C (pc := 425) dL_law_425 ck_iconst_2 ?_
  refine g_iadd C (pc := 426) dL_law_426 ?_
  refine g_sld C (pc := 427) hX hbl hbA hv2 dL_law_427 ?_
  refine g_aload_n C (pc := 428) 0 dL_law_428 rfl rfl ?_
  refine g_iload_n C (pc := 429) 3 dL_law_429 rfl rfl ?_
  refine g_iconst C (pc := 430) dL_law_430 ck_iconst_3 ?_
  refine g_iadd C (pc := 431) dL_law_431 ?_
  refine g_sld C (pc := 432) hX hbl hbA hv3 dL_law_432 ?_
  refine g_aload_n C (pc := 433) 0 dL_law_433 rfl rfl ?_
  refine g_iload_n C (pc := 434) 3 dL_law_434 rfl rfl ?_
  refine g_iconst C (pc := 435) dL_law_435 ck_iconst_4 ?_
  refine g_iadd C (pc := 436) dL_law_436 ?_
  refine g_sld C (pc := 437) hX hbl hbA hv4 dL_law_437 ?_
  obtain ⟨o1, o2, h1, h2, he, hI'⟩ := S_claim hI hi512 (sv (ix ((nI (6 * i)) + (1 : Int32)))) (sv (ix ((nI (6 * i)) + (2 : Int32)))) (sv (ix ((nI (6 * i)) + (3 : Int32)))) (sv (ix ((nI (6 * i)) + (4 : Int32))))
  refine g_callF C (pc := 438) (wc := tkw (xy x) a kf sf Q S c) (wr := mdw (xy x) q m) (b := a.1) (As := [.int (sv (ix ((nI (6 * i)) + (1 : Int32)))), .int (sv (ix ((nI (6 * i)) + (2 : Int32)))), .int (sv (ix ((nI (6 * i)) + (3 : Int32)))), .int (sv (ix ((nI (6 * i)) + (4 : Int32))))]) (rest := []) 0 lkX10_claim lVL_54 (kC_claim (xl x) (xD x) (xy x) a kf sf Q S c (sv (ix ((nI (6 * i)) + (1 : Int32)))) (sv (ix ((nI (6 * i)) + (2 : Int32)))) (sv (ix ((nI (6 * i)) + (3 : Int32)))) (sv (ix ((nI (6 * i)) + (4 : Int32)))) o1 hk hs h1) rfl ⟨⟨Nat.le_of_ble_eq_true rfl, Nat.le_of_ble_eq_true rfl⟩, ⟨rfl, rfl⟩, ⟨Nat.le_of_ble_eq_true rfl, Nat.le_of_ble_eq_true rfl⟩⟩ rfl rfl rfl (Nat.le_of_ble_eq_true rfl) dL_law_438 (fun zv zw hw => ?_)
  obtain ⟨Q1, kf1, hk1, rfl, rfl⟩ := hw
  refine g_perm List.perm_append_comm ?_
  show GW x _ _ (mdw (xy x) q m ++ tkw (xy x) a kf1 sf Q1 S o1.2) _ 441 [.int o1.1]
  refine g_aload_n C (pc := 441) 2 dL_law_441 rfl rfl ?_
  refine g_aload_n C (pc := 442) 0 dL_law_442 rfl rfl ?_
  refine g_iload_n C (pc := 443) 3 dL_law_443 rfl rfl ?_
  refine g_iconst C (pc := 444) dL_law_444 ck_iconst_1 ?_
  refine g_iadd C (pc := 445) dL_law_445 ?_
  refine g_sld C (pc := 446) hX hbl hbA hv1 dL_law_446 ?_
  refine g_aload_n C (pc := 447) 0 dL_law_447 rfl rfl ?_
  refine g_iload_n C (pc := 448) 3 dL_law_448 rfl rfl ?_
  refine g_iconst C (pc := 449) dL_law_449 ck_iconst_2 ?_
  refine g_iadd C (pc := 450) dL_law_450 ?_
  refine g_sld C (pc := 451) hX hbl hbA hv2 dL_law_451 ?_
  refine g_aload_n C (pc := 452) 0 dL_law_452 rfl rfl ?_
  refine g_iload_n C (pc := 453) 3 dL_law_453 rfl rfl ?_
  refine g_iconst C (pc := 454) dL_law_454 ck_iconst_3 ?_
  refine g_iadd C (pc := 455) dL_law_455 ?_
  refine g_sld C (pc := 456) hX hbl hbA hv3 dL_law_456 ?_
  refine g_aload_n C (pc := 457) 0 dL_law_457 rfl rfl ?_
  refine g_iload_n C (pc := 458) 3 dL_law_458 rfl rfl ?_
  refine g_iconst C (pc := 459) dL_law_459 ck_iconst_4 ?_
  refine g_iadd C (pc := 460) dL_law_460 ?_
  refine g_sld C (pc := 461) hX hbl hbA hv4 dL_law_461 ?_
  refine g_callF C (pc := 462) (wc := mdw (xy x) q m) (wr := tkw (xy x) a kf1 sf Q1 S o1.2) (b := q 0) (As := [.int (sv (ix ((nI (6 * i)) + (1 : Int32)))), .int (sv (ix ((nI (6 * i)) + (2 : Int32)))), .int (sv (ix ((nI (6 * i)) + (3 : Int32)))), .int (sv (ix ((nI (6 * i)) + (4 : Int32))))]) (rest := [.int o1.1]) 0 lkX11_claim lVL_58 (kM_claim (xl x) (xD x) (xy x) q m (sv (ix ((nI (6 * i)) + (1 : Int32)))) (sv (ix ((nI (6 * i)) + (2 : Int32)))) (sv (ix ((nI (6 * i)) + (3 : Int32)))) (sv (ix ((nI (6 * i)) + (4 : Int32)))) o2 h2) rfl ⟨⟨Nat.le_of_ble_eq_true rfl, Nat.le_of_ble_eq_true rfl⟩, ⟨rfl, rfl⟩, ⟨Nat.le_of_ble_eq_true rfl, Nat.le_of_ble_eq_true rfl⟩⟩ rfl rfl rfl (Nat.le_of_ble_eq_true rfl) dL_law_462 (fun zv zw hw => ?_)
  obtain ⟨rfl, rfl⟩ := hw
  refine g_perm List.perm_append_comm ?_
  show GW x _ _ (tkw (xy x) a kf1 sf Q1 S o1.2 ++ mdw (xy x) q o2.2) _ 465 [.int o2.1, .int o1.1]
  refine g_icmp_eq C (pc := 465) 906 dL_law_465 (by decide) (fun _ => ?_) (fun c_465 => absurd he c_465)
  exact next o1.2 o2.2 kf1 Q1 hk1 hI'
set_option maxRecDepth 100000 in
set_option maxHeartbeats 4000000 in
theorem law_10 (x : GX) (C : GC x cL_law RL room_1) (b L i : Nat) (sv : Nat → Int32) (hX : va_X b L sv (xs x) (xs x).heap) (hbl : b < (xs x).heap.size) (hbA : ¬ xA x b) (hi : 6 * i + 6 ≤ L) (hL : L ≤ 3072) (hi512 : i < 512) (a : TA) (kf sf : Nat → Option Nat) (Q S : Nat → Nat → Nat) (c : CS) (q : Nat → Nat) (m : MD) (hk : ∀ i, i < 7 → kf i = some (Q i 0)) (hs : ∀ i, i < 2 → sf i = some (S i 0)) (hI : INV i c m) (next : ∀ (c1 : CS) (m1 : MD) (kf1 : Nat → Option Nat) (Q1 : Nat → Nat → Nat), (∀ i, i < 7 → kf1 i = some (Q1 i 0)) → INV (i + 1) c1 m1 → GW x 196 22076 (tkw (xy x) a kf1 sf Q1 S c1 ++ mdw (xy x) q m1) [(0, .ref b), (1, .ref a.1), (2, .ref (q 0)), (3, .int (nI (6 * i)))] 906 []) : GW x 196 22076 (tkw (xy x) a kf sf Q S c ++ mdw (xy x) q m) [(0, .ref b), (1, .ref a.1), (2, .ref (q 0)), (3, .int (nI (6 * i)))] 470 [] := by
  have hv1 : vp_in (nI (6 * i) + (1 : Int32)) L := hvv (j := 1) (by decide) hi hL (by decide)
  have hv2 : vp_in (nI (6 * i) + (2 : Int32)) L := hvv (j := 2) (by decide) hi hL (by decide)
  have hv3 : vp_in (nI (6 * i) + (3 : Int32)) L := hvv (j := 3) (by decide) hi hL (by decide)
  have hv4 : vp_in (nI (6 * i) + (4 : Int32)) L := hvv (j := 4) (by decide) hi hL (by decide)
  have hv5 : vp_in (nI (6 * i) + (5 : Int32)) L := hvv (j := 5) (by decide) hi hL (by decide)
  refine g_aload_n C (pc := 470) 1 dL_law_470 rfl rfl ?_
  refine g_aload_n C (pc := 471) 0 dL_law_471 rfl rfl ?_
  refine g_iload_n C (pc := 472) 3 dL_law_472 rfl rfl ?_
  refine g_iconst C (pc := 473) dL_law_473 ck_iconst_1 ?_
  refine g_iadd C (pc := 474) dL_law_474 ?_
  refine g_sld C (pc := 475) hX hbl hbA hv1 dL_law_475 ?_
  refine g_aload_n C (pc := 476) 0 dL_law_476 rfl rfl ?_
  refine g_iload_n C (pc := 477) 3 dL_law_477 rfl rfl ?_
  refine g_iconst C (pc := 478) dL_law_478 ck_iconst_2 ?_
  refine g_iadd C (pc := 479) dL_law_479 ?_
  refine g_sld C (pc := 480) hX hbl hbA hv2 dL_law_480 ?_
  obtain ⟨o1, o2, h1, h2, he, hI'⟩ := S_holds hI hi512 (sv (ix ((nI (6 * i)) + (1 : Int32)))) (sv (ix ((nI (6 * i)) + (2 : Int32))))
  refine g_callF C (pc := 481) (wc := tkw (xy x) a kf sf Q S c) (wr := mdw (xy x) q m) (b := a.1) (As := [.int (sv (ix ((nI (6 * i)) + (1 : Int32)))), .int (sv (ix ((nI (6 * i)) + (2 : Int32))))]) (rest := []) 0 lkX10_holds lVL_59 (kC_holds (xl x) (xD x) (xy x) a kf sf Q S c (sv (ix ((nI (6 * i)) + (1 : Int32)))) (sv (ix ((nI (6 * i)) + (2 : Int32)))) o1 hk hs h1) rfl ⟨⟨Nat.le_of_ble_eq_true rfl, Nat.le_of_ble_eq_true rfl⟩, ⟨rfl, rfl⟩, ⟨Nat.le_of_ble_eq_true rfl, Nat.le_of_ble_eq_true rfl⟩⟩ rfl rfl rfl (Nat.le_of_ble_eq_true rfl) dL_law_481 (fun zv zw hw => ?_)
  obtain ⟨Q1, kf1, hk1, rfl, rfl⟩ := hw
  refine g_perm List.perm_append_comm ?_
  show GW x _ _ (mdw (xy x) q m ++ tkw (xy x) a kf1 sf Q1 S o1.2) _ 484 [.int o1.1]
  refine g_aload_n C (pc := 484) 2 dL_law_484 rfl rfl ?_
  refine g_aload_n C (pc := 485) 0 dL_law_485 rfl rfl ?_
  refine g_iload_n C (pc := 486) 3 dL_law_486 rfl rfl ?_
  refine g_iconst C (pc := 487) dL_law_487 ck_iconst_1 ?_
  refine g_iadd C (pc := 488) dL_law_488 ?_
  refine g_sld C (pc := 489) hX hbl hbA hv1 dL_law_489 ?_
  refine g_aload_n C (pc := 490) 0 dL_law_490 rfl rfl ?_
  refine g_iload_n C (pc := 491) 3 dL_law_491 rfl rfl ?_
  refine g_iconst C (pc := 492) dL_law_492 ck_iconst_2 ?_
  refine g_iadd C (pc := 493) dL_law_493 ?_
  refine g_sld C (pc := 494) hX hbl hbA hv2 dL_law_494 ?_
  refine g_callF C (pc := 495) (wc := mdw (xy x) q m) (wr := tkw (xy x) a kf1 sf Q1 S o1.2) (b := q 0) (As := [.int (sv (ix ((nI (6 * i)) + (1 : Int32)))), .int (sv (ix ((nI (6 * i)) + (2 : Int32))))]) (rest := [.int o1.1]) 0 lkX11_holds lVL_62 (kM_holds (xl x) (xD x) (xy x) q m (sv (ix ((nI (6 * i)) + (1 : Int32)))) (sv (ix ((nI (6 * i)) + (2 : Int32)))) o2 h2) rfl ⟨⟨Nat.le_of_ble_eq_true rfl, Nat.le_of_ble_eq_true rfl⟩, ⟨rfl, rfl⟩, ⟨Nat.le_of_ble_eq_true rfl, Nat.le_of_ble_eq_true rfl⟩⟩ rfl rfl rfl (Nat.le_of_ble_eq_true rfl) dL_law_495 (fun zv zw hw => ?_)
  obtain ⟨rfl, rfl⟩ := hw
  refine g_perm List.perm_append_comm ?_
  show GW x _ _ (tkw (xy x) a kf1 sf Q1 S o1.2 ++ mdw (xy x) q o2.2) _ 498 [.int o2.1, .int o1.1]
  refine g_icmp_eq C (pc := 498) 906 dL_law_498 (by decide) (fun _ => ?_) (fun c_498 => absurd he c_498)
  exact next o1.2 o2.2 kf1 Q1 hk1 hI'
set_option maxRecDepth 100000 in
set_option maxHeartbeats 4000000 in
theorem law_11 (x : GX) (C : GC x cL_law RL room_1) (b L i : Nat) (sv : Nat → Int32) (hX : va_X b L sv (xs x) (xs x).heap) (hbl : b < (xs x).heap.size) (hbA : ¬ xA x b) (hi : 6 * i + 6 ≤ L) (hL : L ≤ 3072) (hi512 : i < 512) (a : TA) (kf sf : Nat → Option Nat) (Q S : Nat → Nat → Nat) (c : CS) (q : Nat → Nat) (m : MD) (hk : ∀ i, i < 7 → kf i = some (Q i 0)) (hs : ∀ i, i < 2 → sf i = some (S i 0)) (hI : INV i c m) (next : ∀ (c1 : CS) (m1 : MD) (kf1 : Nat → Option Nat) (Q1 : Nat → Nat → Nat), (∀ i, i < 7 → kf1 i = some (Q1 i 0)) → INV (i + 1) c1 m1 → GW x 196 22076 (tkw (xy x) a kf1 sf Q1 S c1 ++ mdw (xy x) q m1) [(0, .ref b), (1, .ref a.1), (2, .ref (q 0)), (3, .int (nI (6 * i)))] 906 []) : GW x 196 22076 (tkw (xy x) a kf sf Q S c ++ mdw (xy x) q m) [(0, .ref b), (1, .ref a.1), (2, .ref (q 0)), (3, .int (nI (6 * i)))] 503 [] := by
  have hv1 : vp_in (nI (6 * i) + (1 : Int32)) L := hvv (j := 1) (by decide) hi hL (by decide)
  have hv2 : vp_in (nI (6 * i) + (2 : Int32)) L := hvv (j := 2) (by decide) hi hL (by decide)
  have hv3 : vp_in (nI (6 * i) + (3 : Int32)) L := hvv (j := 3) (by decide) hi hL (by decide)
  have hv4 : vp_in (nI (6 * i) + (4 : Int32)) L := hvv (j := 4) (by decide) hi hL (by decide)
  have hv5 : vp_in (nI (6 * i) + (5 : Int32)) L := hvv (j := 5) (by decide) hi hL (by decide)
  refine g_aload_n C (pc := 503) 1 dL_law_503 rfl rfl ?_
  refine g_aload_n C (pc := 504) 0 dL_law_504 rfl rfl ?_
  refine g_iload_n C (pc := 505) 3 dL_law_505 rfl rfl ?_
  refine g_iconst C (pc := 506) dL_law_506 ck_iconst_1 ?_
  refine g_iadd C (pc := 507) dL_law_507 ?_
  refine g_sld C (pc := 508) hX hbl hbA hv1 dL_law_508 ?_
  refine g_aload_n C (pc := 509) 0 dL_law_509 rfl rfl ?_
  refine g_iload_n C (pc := 510) 3 dL_law_510 rfl rfl ?_
  refine g_iconst C (pc := 511) dL_law_511 ck_iconst_2 ?_
  refine g_iadd C (pc := 512) dL_law_512 ?_
  refine g_sld C (pc := 513) hX hbl hbA hv2 dL_law_513 ?_
  obtain ⟨o1, o2, h1, h2, he, hI'⟩ := S_ofStep hI hi512 (sv (ix ((nI (6 * i)) + (1 : Int32)))) (sv (ix ((nI (6 * i)) + (2 : Int32))))
  refine g_callF C (pc := 514) (wc := tkw (xy x) a kf sf Q S c) (wr := mdw (xy x) q m) (b := a.1) (As := [.int (sv (ix ((nI (6 * i)) + (1 : Int32)))), .int (sv (ix ((nI (6 * i)) + (2 : Int32))))]) (rest := []) 0 lkX10_ofStep lVL_63 (kC_ofStep (xl x) (xD x) (xy x) a kf sf Q S c (sv (ix ((nI (6 * i)) + (1 : Int32)))) (sv (ix ((nI (6 * i)) + (2 : Int32)))) o1 hk hs h1) rfl ⟨⟨Nat.le_of_ble_eq_true rfl, Nat.le_of_ble_eq_true rfl⟩, ⟨rfl, rfl⟩, ⟨Nat.le_of_ble_eq_true rfl, Nat.le_of_ble_eq_true rfl⟩⟩ rfl rfl rfl (Nat.le_of_ble_eq_true rfl) dL_law_514 (fun zv zw hw => ?_)
  obtain ⟨Q1, kf1, hk1, rfl, rfl⟩ := hw
  refine g_perm List.perm_append_comm ?_
  show GW x _ _ (mdw (xy x) q m ++ tkw (xy x) a kf1 sf Q1 S o1.2) _ 517 [.int o1.1]
  refine g_aload_n C (pc := 517) 2 dL_law_517 rfl rfl ?_
  refine g_aload_n C (pc := 518) 0 dL_law_518 rfl rfl ?_
  refine g_iload_n C (pc := 519) 3 dL_law_519 rfl rfl ?_
  refine g_iconst C (pc := 520) dL_law_520 ck_iconst_1 ?_
  refine g_iadd C (pc := 521) dL_law_521 ?_
  refine g_sld C (pc := 522) hX hbl hbA hv1 dL_law_522 ?_
  refine g_aload_n C (pc := 523) 0 dL_law_523 rfl rfl ?_
  refine g_iload_n C (pc := 524) 3 dL_law_524 rfl rfl ?_
  refine g_iconst C (pc := 525) dL_law_525 ck_iconst_2 ?_
  refine g_iadd C (pc := 526) dL_law_526 ?_
  refine g_sld C (pc := 527) hX hbl hbA hv2 dL_law_527 ?_
  refine g_callF C (pc := 528) (wc := mdw (xy x) q m) (wr := tkw (xy x) a kf1 sf Q1 S o1.2) (b := q 0) (As := [.int (sv (ix ((nI (6 * i)) + (1 : Int32)))), .int (sv (ix ((nI (6 * i)) + (2 : Int32))))]) (rest := [.int o1.1]) 0 lkX11_ofStep lVL_66 (kM_ofStep (xl x) (xD x) (xy x) q m (sv (ix ((nI (6 * i)) + (1 : Int32)))) (sv (ix ((nI (6 * i)) + (2 : Int32)))) o2 h2) rfl ⟨⟨Nat.le_of_ble_eq_true rfl, Nat.le_of_ble_eq_true rfl⟩, ⟨rfl, rfl⟩, ⟨Nat.le_of_ble_eq_true rfl, Nat.le_of_ble_eq_true rfl⟩⟩ rfl rfl rfl (Nat.le_of_ble_eq_true rfl) dL_law_528 (fun zv zw hw => ?_)
  obtain ⟨rfl, rfl⟩ := hw
  refine g_perm List.perm_append_comm ?_
  show GW x _ _ (tkw (xy x) a kf1 sf Q1 S o1.2 ++ mdw (xy x) q o2.2) _ 531 [.int o2.1, .int o1.1]
  refine g_icmp_eq C (pc := 531) 906 dL_law_531 (by decide) (fun _ => ?_) (fun c_531 => absurd he c_531)
  exact next o1.2 o2.2 kf1 Q1 hk1 hI'
set_option maxRecDepth 100000 in
set_option maxHeartbeats 4000000 in
theorem law_12 (x : GX) (C : GC x cL_law RL room_1) (b L i : Nat) (sv : Nat → Int32) (hX : va_X b L sv (xs x) (xs x).heap) (hbl : b < (xs x).heap.size) (hbA : ¬ xA x b) (hi : 6 * i + 6 ≤ L) (hL : L ≤ 3072) (hi512 : i < 512) (a : TA) (kf sf : Nat → Option Nat) (Q S : Nat → Nat → Nat) (c : CS) (q : Nat → Nat) (m : MD) (hk : ∀ i, i < 7 → kf i = some (Q i 0)) (hs : ∀ i, i < 2 → sf i = some (S i 0)) (hI : INV i c m) (next : ∀ (c1 : CS) (m1 : MD) (kf1 : Nat → Option Nat) (Q1 : Nat → Nat → Nat), (∀ i, i < 7 → kf1 i = some (Q1 i 0)) → INV (i + 1) c1 m1 → GW x 196 22076 (tkw (xy x) a kf1 sf Q1 S c1 ++ mdw (xy x) q m1) [(0, .ref b), (1, .ref a.1), (2, .ref (q 0)), (3, .int (nI (6 * i)))] 906 []) : GW x 196 22076 (tkw (xy x) a kf sf Q S c ++ mdw (xy x) q m) [(0, .ref b), (1, .ref a.1), (2, .ref (q 0)), (3, .int (nI (6 * i)))] 536 [] := by
  have hv1 : vp_in (nI (6 * i) + (1 : Int32)) L := hvv (j := 1) (by decide) hi hL (by decide)
  have hv2 : vp_in (nI (6 * i) + (2 : Int32)) L := hvv (j := 2) (by decide) hi hL (by decide)
  have hv3 : vp_in (nI (6 * i) + (3 : Int32)) L := hvv (j := 3) (by decide) hi hL (by decide)
  have hv4 : vp_in (nI (6 * i) + (4 : Int32)) L := hvv (j := 4) (by decide) hi hL (by decide)
  have hv5 : vp_in (nI (6 * i) + (5 : Int32)) L := hvv (j := 5) (by decide) hi hL (by decide)
  refine g_aload_n C (pc := 536) 1 dL_law_536 rfl rfl ?_
  refine g_aload_n C (pc := 537) 0 dL_law_537 rfl rfl ?_
  refine g_iload_n C (pc := 538) 3 dL_law_538 rfl rfl ?_
  refine g_iconst C (pc := 539) dL_law_539 ck_iconst_1 ?_
  refine g_iadd C (pc := 540) dL_law_540 ?_
  refine g_sld C (pc := 541) hX hbl hbA hv1 dL_law_541 ?_
  refine g_aload_n C (pc := 542) 0 dL_law_542 rfl rfl ?_
  refine g_iload_n C (pc := 543) 3 dL_law_543 rfl rfl ?_
  refine g_iconst C (pc := 544) dL_law_544 ck_iconst_2 ?_
  refine g_iadd C (pc := 545) dL_law_545 ?_
  refine g_sld C (pc := 546) hX hbl hbA hv2 dL_law_546 ?_
  obtain ⟨o1, o2, h1, h2, he, hI'⟩ := S_leads hI hi512 (sv (ix ((nI (6 * i)) + (1 : Int32)))) (sv (ix ((nI (6 * i)) + (2 : Int32))))
  refine g_callF C (pc := 547) (wc := tkw (xy x) a kf sf Q S c) (wr := mdw (xy x) q m) (b := a.1) (As := [.int (sv (ix ((nI (6 * i)) + (1 : Int32)))), .int (sv (ix ((nI (6 * i)) + (2 : Int32))))]) (rest := []) 0 lkX10_leads lVL_67 (kC_leads (xl x) (xD x) (xy x) a kf sf Q S c (sv (ix ((nI (6 * i)) + (1 : Int32)))) (sv (ix ((nI (6 * i)) + (2 : Int32)))) o1 hk hs h1) rfl ⟨⟨Nat.le_of_ble_eq_true rfl, Nat.le_of_ble_eq_true rfl⟩, ⟨rfl, rfl⟩, ⟨Nat.le_of_ble_eq_true rfl, Nat.le_of_ble_eq_true rfl⟩⟩ rfl rfl rfl (Nat.le_of_ble_eq_true rfl) dL_law_547 (fun zv zw hw => ?_)
  obtain ⟨Q1, kf1, hk1, rfl, rfl⟩ := hw
  refine g_perm List.perm_append_comm ?_
  show GW x _ _ (mdw (xy x) q m ++ tkw (xy x) a kf1 sf Q1 S o1.2) _ 550 [.int o1.1]
  refine g_aload_n C (pc := 550) 2 dL_law_550 rfl rfl ?_
  refine g_aload_n C (pc := 551) 0 dL_law_551 rfl rfl ?_
  refine g_iload_n C (pc := 552) 3 dL_law_552 rfl rfl ?_
  refine g_iconst C (pc := 553) dL_law_553 ck_iconst_1 ?_
  refine g_iadd C (pc := 554) dL_law_554 ?_
  refine g_sld C (pc := 555) hX hbl hbA hv1 dL_law_555 ?_
  refine g_aload_n C (pc := 556) 0 dL_law_556 rfl rfl ?_
  refine g_iload_n C (pc := 557) 3 dL_law_557 rfl rfl ?_
  refine g_iconst C (pc := 558) dL_law_558 ck_iconst_2 ?_
  refine g_iadd C (pc := 559) dL_law_559 ?_
  refine g_sld C (pc := 560) hX hbl hbA hv2 dL_law_560 ?_
  refine g_callF C (pc := 561) (wc := mdw (xy x) q m) (wr := tkw (xy x) a kf1 sf Q1 S o1.2) (b := q 0) (As := [.int (sv (ix ((nI (6 * i)) + (1 : Int32)))), .int (sv (ix ((nI (6 * i)) + (2 : Int32))))]) (rest := [.int o1.1]) 0 lkX11_leads lVL_70 (kM_leads (xl x) (xD x) (xy x) q m (sv (ix ((nI (6 * i)) + (1 : Int32)))) (sv (ix ((nI (6 * i)) + (2 : Int32)))) o2 h2) rfl ⟨⟨Nat.le_of_ble_eq_true rfl, Nat.le_of_ble_eq_true rfl⟩, ⟨rfl, rfl⟩, ⟨Nat.le_of_ble_eq_true rfl, Nat.le_of_ble_eq_true rfl⟩⟩ rfl rfl rfl (Nat.le_of_ble_eq_true rfl) dL_law_561 (fun zv zw hw => ?_)
  obtain ⟨rfl, rfl⟩ := hw
  refine g_perm List.perm_append_comm ?_
  show GW x _ _ (tkw (xy x) a kf1 sf Q1 S o1.2 ++ mdw (xy x) q o2.2) _ 564 [.int o2.1, .int o1.1]
  refine g_icmp_eq C (pc := 564) 906 dL_law_564 (by decide) (fun _ => ?_) (fun c_564 => absurd he c_564)
  exact next o1.2 o2.2 kf1 Q1 hk1 hI'
set_option maxRecDepth 100000 in
set_option maxHeartbeats 4000000 in
theorem law_13 (x : GX) (C : GC x cL_law RL room_1) (b L i : Nat) (sv : Nat → Int32) (hX : va_X b L sv (xs x) (xs x).heap) (hbl : b < (xs x).heap.size) (hbA : ¬ xA x b) (hi : 6 * i + 6 ≤ L) (hL : L ≤ 3072) (hi512 : i < 512) (a : TA) (kf sf : Nat → Option Nat) (Q S : Nat → Nat → Nat) (c : CS) (q : Nat → Nat) (m : MD) (hk : ∀ i, i < 7 → kf i = some (Q i 0)) (hs : ∀ i, i < 2 → sf i = some (S i 0)) (hI : INV i c m) (next : ∀ (c1 : CS) (m1 : MD) (kf1 : Nat → Option Nat) (Q1 : Nat → Nat → Nat), (∀ i, i < 7 → kf1 i = some (Q1 i 0)) → INV (i + 1) c1 m1 → GW x 196 22076 (tkw (xy x) a kf1 sf Q1 S c1 ++ mdw (xy x) q m1) [(0, .ref b), (1, .ref a.1), (2, .ref (q 0)), (3, .int (nI (6 * i)))] 906 []) : GW x 196 22076 (tkw (xy x) a kf sf Q S c ++ mdw (xy x) q m) [(0, .ref b), (1, .ref a.1), (2, .ref (q 0)), (3, .int (nI (6 * i)))] 569 [] := by
  have hv1 : vp_in (nI (6 * i) + (1 : Int32)) L := hvv (j := 1) (by decide) hi hL (by decide)
  have hv2 : vp_in (nI (6 * i) + (2 : Int32)) L := hvv (j := 2) (by decide) hi hL (by decide)
  have hv3 : vp_in (nI (6 * i) + (3 : Int32)) L := hvv (j := 3) (by decide) hi hL (by decide)
  have hv4 : vp_in (nI (6 * i) + (4 : Int32)) L := hvv (j := 4) (by decide) hi hL (by decide)
  have hv5 : vp_in (nI (6 * i) + (5 : Int32)) L := hvv (j := 5) (by decide) hi hL (by decide)
  refine g_aload_n C (pc := 569) 1 dL_law_569 rfl rfl ?_
  refine g_aload_n C (pc := 570) 0 dL_law_570 rfl rfl ?_
  refine g_iload_n C (pc := 571) 3 dL_law_571 rfl rfl ?_
  refine g_iconst C (pc := 572) dL_law_572 ck_iconst_1 ?_
  refine g_iadd C (pc := 573) dL_law_573 ?_
  refine g_sld C (pc := 574) hX hbl hbA hv1 dL_law_574 ?_
  refine g_aload_n C (pc := 575) 0 dL_law_575 rfl rfl ?_
  refine g_iload_n C (pc := 576) 3 dL_law_576 rfl rfl ?_
  refine g_iconst C (pc := 577) dL_law_577 ck_iconst_2 ?_
  refine g_iadd C (pc := 578) dL_law_578 ?_
  refine g_sld C (pc := 579) hX hbl hbA hv2 dL_law_579 ?_
  obtain ⟨o1, o2, h1, h2, he, hI'⟩ := S_ofCandidate hI hi512 (sv (ix ((nI (6 * i)) + (1 : Int32)))) (sv (ix ((nI (6 * i)) + (2 : Int32))))
  refine g_callF C (pc := 580) (wc := tkw (xy x) a kf sf Q S c) (wr := mdw (xy x) q m) (b := a.1) (As := [.int (sv (ix ((nI (6 * i)) + (1 : Int32)))), .int (sv (ix ((nI (6 * i)) + (2 : Int32))))]) (rest := []) 0 lkX10_ofCandidate lVL_71 (kC_ofCandidate (xl x) (xD x) (xy x) a kf sf Q S c (sv (ix ((nI (6 * i)) + (1 : Int32)))) (sv (ix ((nI (6 * i)) + (2 : Int32)))) o1 hk hs h1) rfl ⟨⟨Nat.le_of_ble_eq_true rfl, Nat.le_of_ble_eq_true rfl⟩, ⟨rfl, rfl⟩, ⟨Nat.le_of_ble_eq_true rfl, Nat.le_of_ble_eq_true rfl⟩⟩ rfl rfl rfl (Nat.le_of_ble_eq_true rfl) dL_law_580 (fun zv zw hw => ?_)
  obtain ⟨Q1, kf1, hk1, rfl, rfl⟩ := hw
  refine g_perm List.perm_append_comm ?_
  show GW x _ _ (mdw (xy x) q m ++ tkw (xy x) a kf1 sf Q1 S o1.2) _ 583 [.int o1.1]
  refine g_aload_n C (pc := 583) 2 dL_law_583 rfl rfl ?_
  refine g_aload_n C (pc := 584) 0 dL_law_584 rfl rfl ?_
  refine g_iload_n C (pc := 585) 3 dL_law_585 rfl rfl ?_
  refine g_iconst C (pc := 586) dL_law_586 ck_iconst_1 ?_
  refine g_iadd C (pc := 587) dL_law_587 ?_
  refine g_sld C (pc := 588) hX hbl hbA hv1 dL_law_588 ?_
  refine g_aload_n C (pc := 589) 0 dL_law_589 rfl rfl ?_
  refine g_iload_n C (pc := 590) 3 dL_law_590 rfl rfl ?_
  refine g_iconst C (pc := 591) dL_law_591 ck_iconst_2 ?_
  refine g_iadd C (pc := 592) dL_law_592 ?_
  refine g_sld C (pc := 593) hX hbl hbA hv2 dL_law_593 ?_
  refine g_callF C (pc := 594) (wc := mdw (xy x) q m) (wr := tkw (xy x) a kf1 sf Q1 S o1.2) (b := q 0) (As := [.int (sv (ix ((nI (6 * i)) + (1 : Int32)))), .int (sv (ix ((nI (6 * i)) + (2 : Int32))))]) (rest := [.int o1.1]) 0 lkX11_ofCandidate lVL_74 (kM_ofCandidate (xl x) (xD x) (xy x) q m (sv (ix ((nI (6 * i)) + (1 : Int32)))) (sv (ix ((nI (6 * i)) + (2 : Int32)))) o2 h2) rfl ⟨⟨Nat.le_of_ble_eq_true rfl, Nat.le_of_ble_eq_true rfl⟩, ⟨rfl, rfl⟩, ⟨Nat.le_of_ble_eq_true rfl, Nat.le_of_ble_eq_true rfl⟩⟩ rfl rfl rfl (Nat.le_of_ble_eq_true rfl) dL_law_594 (fun zv zw hw => ?_)
  obtain ⟨rfl, rfl⟩ := hw
  refine g_perm List.perm_append_comm ?_
  show GW x _ _ (tkw (xy x) a kf1 sf Q1 S o1.2 ++ mdw (xy x) q o2.2) _ 597 [.int o2.1, .int o1.1]
  refine g_icmp_eq C (pc := 597) 906 dL_law_597 (by decide) (fun _ => ?_) (fun c_597 => absurd he c_597)
  exact next o1.2 o2.2 kf1 Q1 hk1 hI'
set_option maxRecDepth 100000 in
set_option maxHeartbeats 4000000 in
theorem law_14 (x : GX) (C : GC x cL_law RL room_1) (b L i : Nat) (sv : Nat → Int32) (hX : va_X b L sv (xs x) (xs x).heap) (hbl : b < (xs x).heap.size) (hbA : ¬ xA x b) (hi : 6 * i + 6 ≤ L) (hL : L ≤ 3072) (hi512 : i < 512) (a : TA) (kf sf : Nat → Option Nat) (Q S : Nat → Nat → Nat) (c : CS) (q : Nat → Nat) (m : MD) (hk : ∀ i, i < 7 → kf i = some (Q i 0)) (hs : ∀ i, i < 2 → sf i = some (S i 0)) (hI : INV i c m) (next : ∀ (c1 : CS) (m1 : MD) (kf1 : Nat → Option Nat) (Q1 : Nat → Nat → Nat), (∀ i, i < 7 → kf1 i = some (Q1 i 0)) → INV (i + 1) c1 m1 → GW x 196 22076 (tkw (xy x) a kf1 sf Q1 S c1 ++ mdw (xy x) q m1) [(0, .ref b), (1, .ref a.1), (2, .ref (q 0)), (3, .int (nI (6 * i)))] 906 []) : GW x 196 22076 (tkw (xy x) a kf sf Q S c ++ mdw (xy x) q m) [(0, .ref b), (1, .ref a.1), (2, .ref (q 0)), (3, .int (nI (6 * i)))] 602 [] := by
  have hv1 : vp_in (nI (6 * i) + (1 : Int32)) L := hvv (j := 1) (by decide) hi hL (by decide)
  have hv2 : vp_in (nI (6 * i) + (2 : Int32)) L := hvv (j := 2) (by decide) hi hL (by decide)
  have hv3 : vp_in (nI (6 * i) + (3 : Int32)) L := hvv (j := 3) (by decide) hi hL (by decide)
  have hv4 : vp_in (nI (6 * i) + (4 : Int32)) L := hvv (j := 4) (by decide) hi hL (by decide)
  have hv5 : vp_in (nI (6 * i) + (5 : Int32)) L := hvv (j := 5) (by decide) hi hL (by decide)
  refine g_aload_n C (pc := 602) 1 dL_law_602 rfl rfl ?_
  refine g_aload_n C (pc := 603) 0 dL_law_603 rfl rfl ?_
  refine g_iload_n C (pc := 604) 3 dL_law_604 rfl rfl ?_
  refine g_iconst C (pc := 605) dL_law_605 ck_iconst_1 ?_
  refine g_iadd C (pc := 606) dL_law_606 ?_
  refine g_sld C (pc := 607) hX hbl hbA hv1 dL_law_607 ?_
  obtain ⟨o1, o2, h1, h2, he, hI'⟩ := S_count hI hi512 (sv (ix ((nI (6 * i)) + (1 : Int32))))
  refine g_callF C (pc := 608) (wc := tkw (xy x) a kf sf Q S c) (wr := mdw (xy x) q m) (b := a.1) (As := [.int (sv (ix ((nI (6 * i)) + (1 : Int32))))]) (rest := []) 0 lkX10_count lVL_75 (kC_count (xl x) (xD x) (xy x) a kf sf Q S c (sv (ix ((nI (6 * i)) + (1 : Int32)))) o1 hk hs h1) rfl ⟨⟨Nat.le_of_ble_eq_true rfl, Nat.le_of_ble_eq_true rfl⟩, ⟨rfl, rfl⟩, ⟨Nat.le_of_ble_eq_true rfl, Nat.le_of_ble_eq_true rfl⟩⟩ rfl rfl rfl (Nat.le_of_ble_eq_true rfl) dL_law_608 (fun zv zw hw => ?_)
  obtain ⟨Q1, kf1, hk1, rfl, rfl⟩ := hw
  refine g_perm List.perm_append_comm ?_
  show GW x _ _ (mdw (xy x) q m ++ tkw (xy x) a kf1 sf Q1 S o1.2) _ 611 [.int o1.1]
  refine g_aload_n C (pc := 611) 2 dL_law_611 rfl rfl ?_
  refine g_aload_n C (pc := 612) 0 dL_law_612 rfl rfl ?_
  refine g_iload_n C (pc := 613) 3 dL_law_613 rfl rfl ?_
  refine g_iconst C (pc := 614) dL_law_614 ck_iconst_1 ?_
  refine g_iadd C (pc := 615) dL_law_615 ?_
  refine g_sld C (pc := 616) hX hbl hbA hv1 dL_law_616 ?_
  refine g_callF C (pc := 617) (wc := mdw (xy x) q m) (wr := tkw (xy x) a kf1 sf Q1 S o1.2) (b := q 0) (As := [.int (sv (ix ((nI (6 * i)) + (1 : Int32))))]) (rest := [.int o1.1]) 0 lkX11_count lVL_78 (kM_count (xl x) (xD x) (xy x) q m (sv (ix ((nI (6 * i)) + (1 : Int32)))) o2 h2) rfl ⟨⟨Nat.le_of_ble_eq_true rfl, Nat.le_of_ble_eq_true rfl⟩, ⟨rfl, rfl⟩, ⟨Nat.le_of_ble_eq_true rfl, Nat.le_of_ble_eq_true rfl⟩⟩ rfl rfl rfl (Nat.le_of_ble_eq_true rfl) dL_law_617 (fun zv zw hw => ?_)
  obtain ⟨rfl, rfl⟩ := hw
  refine g_perm List.perm_append_comm ?_
  show GW x _ _ (tkw (xy x) a kf1 sf Q1 S o1.2 ++ mdw (xy x) q o2.2) _ 620 [.int o2.1, .int o1.1]
  refine g_icmp_eq C (pc := 620) 906 dL_law_620 (by decide) (fun _ => ?_) (fun c_620 => absurd he c_620)
  exact next o1.2 o2.2 kf1 Q1 hk1 hI'
set_option maxRecDepth 100000 in
set_option maxHeartbeats 4000000 in
theorem law_15 (x : GX) (C : GC x cL_law RL room_1) (b L i : Nat) (sv : Nat → Int32) (hX : va_X b L sv (xs x) (xs x).heap) (hbl : b < (xs x).heap.size) (hbA : ¬ xA x b) (hi : 6 * i + 6 ≤ L) (hL : L ≤ 3072) (hi512 : i < 512) (a : TA) (kf sf : Nat → Option Nat) (Q S : Nat → Nat → Nat) (c : CS) (q : Nat → Nat) (m : MD) (hk : ∀ i, i < 7 → kf i = some (Q i 0)) (hs : ∀ i, i < 2 → sf i = some (S i 0)) (hI : INV i c m) (next : ∀ (c1 : CS) (m1 : MD) (kf1 : Nat → Option Nat) (Q1 : Nat → Nat → Nat), (∀ i, i < 7 → kf1 i = some (Q1 i 0)) → INV (i + 1) c1 m1 → GW x 196 22076 (tkw (xy x) a kf1 sf Q1 S c1 ++ mdw (xy x) q m1) [(0, .ref b), (1, .ref a.1), (2, .ref (q 0)), (3, .int (nI (6 * i)))] 906 []) : GW x 196 22076 (tkw (xy x) a kf sf Q S c ++ mdw (xy x) q m) [(0, .ref b), (1, .ref a.1), (2, .ref (q 0)), (3, .int (nI (6 * i)))] 625 [] := by
  have hv1 : vp_in (nI (6 * i) + (1 : Int32)) L := hvv (j := 1) (by decide) hi hL (by decide)
  have hv2 : vp_in (nI (6 * i) + (2 : Int32)) L := hvv (j := 2) (by decide) hi hL (by decide)
  have hv3 : vp_in (nI (6 * i) + (3 : Int32)) L := hvv (j := 3) (by decide) hi hL (by decide)
  have hv4 : vp_in (nI (6 * i) + (4 : Int32)) L := hvv (j := 4) (by decide) hi hL (by decide)
  have hv5 : vp_in (nI (6 * i) + (5 : Int32)) L := hvv (j := 5) (by decide) hi hL (by decide)
  refine g_aload_n C (pc := 625) 1 dL_law_625 rfl rfl ?_
  refine g_aload_n C (pc := 626) 0 dL_law_626 rfl rfl ?_
  refine g_iload_n C (pc := 627) 3 dL_law_627 rfl rfl ?_
  refine g_iconst C (pc := 628) dL_law_628 ck_iconst_1 ?_
  refine g_iadd C (pc := 629) dL_law_629 ?_
  refine g_sld C (pc := 630) hX hbl hbA hv1 dL_law_630 ?_
  obtain ⟨o1, o2, h1, h2, he, hI'⟩ := S_ofState hI hi512 (sv (ix ((nI (6 * i)) + (1 : Int32))))
  refine g_callF C (pc := 631) (wc := tkw (xy x) a kf sf Q S c) (wr := mdw (xy x) q m) (b := a.1) (As := [.int (sv (ix ((nI (6 * i)) + (1 : Int32))))]) (rest := []) 0 lkX10_ofState lVL_79 (kC_ofState (xl x) (xD x) (xy x) a kf sf Q S c (sv (ix ((nI (6 * i)) + (1 : Int32)))) o1 hk hs h1) rfl ⟨⟨Nat.le_of_ble_eq_true rfl, Nat.le_of_ble_eq_true rfl⟩, ⟨rfl, rfl⟩, ⟨Nat.le_of_ble_eq_true rfl, Nat.le_of_ble_eq_true rfl⟩⟩ rfl rfl rfl (Nat.le_of_ble_eq_true rfl) dL_law_631 (fun zv zw hw => ?_)
  obtain ⟨Q1, kf1, hk1, rfl, rfl⟩ := hw
  refine g_perm List.perm_append_comm ?_
  show GW x _ _ (mdw (xy x) q m ++ tkw (xy x) a kf1 sf Q1 S o1.2) _ 634 [.int o1.1]
  refine g_aload_n C (pc := 634) 2 dL_law_634 rfl rfl ?_
  refine g_aload_n C (pc := 635) 0 dL_law_635 rfl rfl ?_
  refine g_iload_n C (pc := 636) 3 dL_law_636 rfl rfl ?_
  refine g_iconst C (pc := 637) dL_law_637 ck_iconst_1 ?_
  refine g_iadd C (pc := 638) dL_law_638 ?_
  refine g_sld C (pc := 639) hX hbl hbA hv1 dL_law_639 ?_
  refine g_callF C (pc := 640) (wc := mdw (xy x) q m) (wr := tkw (xy x) a kf1 sf Q1 S o1.2) (b := q 0) (As := [.int (sv (ix ((nI (6 * i)) + (1 : Int32))))]) (rest := [.int o1.1]) 0 lkX11_ofState lVL_82 (kM_ofState (xl x) (xD x) (xy x) q m (sv (ix ((nI (6 * i)) + (1 : Int32)))) o2 h2) rfl ⟨⟨Nat.le_of_ble_eq_true rfl, Nat.le_of_ble_eq_true rfl⟩, ⟨rfl, rfl⟩, ⟨Nat.le_of_ble_eq_true rfl, Nat.le_of_ble_eq_true rfl⟩⟩ rfl rfl rfl (Nat.le_of_ble_eq_true rfl) dL_law_640 (fun zv zw hw => ?_)
  obtain ⟨rfl, rfl⟩ := hw
  refine g_perm List.perm_append_comm ?_
  show GW x _ _ (tkw (xy x) a kf1 sf Q1 S o1.2 ++ mdw (xy x) q o2.2) _ 643 [.int o2.1, .int o1.1]
  refine g_icmp_eq C (pc := 643) 906 dL_law_643 (by decide) (fun _ => ?_) (fun c_643 => absurd he c_643)
  exact next o1.2 o2.2 kf1 Q1 hk1 hI'
set_option maxRecDepth 100000 in
set_option maxHeartbeats 4000000 in
theorem law_16 (x : GX) (C : GC x cL_law RL room_1) (b L i : Nat) (sv : Nat → Int32) (hX : va_X b L sv (xs x) (xs x).heap) (hbl : b < (xs x).heap.size) (hbA : ¬ xA x b) (hi : 6 * i + 6 ≤ L) (hL : L ≤ 3072) (hi512 : i < 512) (a : TA) (kf sf : Nat → Option Nat) (Q S : Nat → Nat → Nat) (c : CS) (q : Nat → Nat) (m : MD) (hk : ∀ i, i < 7 → kf i = some (Q i 0)) (hs : ∀ i, i < 2 → sf i = some (S i 0)) (hI : INV i c m) (next : ∀ (c1 : CS) (m1 : MD) (kf1 : Nat → Option Nat) (Q1 : Nat → Nat → Nat), (∀ i, i < 7 → kf1 i = some (Q1 i 0)) → INV (i + 1) c1 m1 → GW x 196 22076 (tkw (xy x) a kf1 sf Q1 S c1 ++ mdw (xy x) q m1) [(0, .ref b), (1, .ref a.1), (2, .ref (q 0)), (3, .int (nI (6 * i)))] 906 []) : GW x 196 22076 (tkw (xy x) a kf sf Q S c ++ mdw (xy x) q m) [(0, .ref b), (1, .ref a.1), (2, .ref (q 0)), (3, .int (nI (6 * i)))] 648 [] := by
  have hv1 : vp_in (nI (6 * i) + (1 : Int32)) L := hvv (j := 1) (by decide) hi hL (by decide)
  have hv2 : vp_in (nI (6 * i) + (2 : Int32)) L := hvv (j := 2) (by decide) hi hL (by decide)
  have hv3 : vp_in (nI (6 * i) + (3 : Int32)) L := hvv (j := 3) (by decide) hi hL (by decide)
  have hv4 : vp_in (nI (6 * i) + (4 : Int32)) L := hvv (j := 4) (by decide) hi hL (by decide)
  have hv5 : vp_in (nI (6 * i) + (5 : Int32)) L := hvv (j := 5) (by decide) hi hL (by decide)
  refine g_aload_n C (pc := 648) 1 dL_law_648 rfl rfl ?_
  refine g_aload_n C (pc := 649) 0 dL_law_649 rfl rfl ?_
  refine g_iload_n C (pc := 650) 3 dL_law_650 rfl rfl ?_
  refine g_iconst C (pc := 651) dL_law_651 ck_iconst_1 ?_
  refine g_iadd C (pc := 652) dL_law_652 ?_
  refine g_sld C (pc := 653) hX hbl hbA hv1 dL_law_653 ?_
  obtain ⟨o1, o2, h1, h2, he, hI'⟩ := S_proves hI hi512 (sv (ix ((nI (6 * i)) + (1 : Int32))))
  refine g_callF C (pc := 654) (wc := tkw (xy x) a kf sf Q S c) (wr := mdw (xy x) q m) (b := a.1) (As := [.int (sv (ix ((nI (6 * i)) + (1 : Int32))))]) (rest := []) 0 lkX10_proves lVL_83 (kC_proves (xl x) (xD x) (xy x) a kf sf Q S c (sv (ix ((nI (6 * i)) + (1 : Int32)))) o1 hk hs h1) rfl ⟨⟨Nat.le_of_ble_eq_true rfl, Nat.le_of_ble_eq_true rfl⟩, ⟨rfl, rfl⟩, ⟨Nat.le_of_ble_eq_true rfl, Nat.le_of_ble_eq_true rfl⟩⟩ rfl rfl rfl (Nat.le_of_ble_eq_true rfl) dL_law_654 (fun zv zw hw => ?_)
  obtain ⟨Q1, kf1, hk1, rfl, rfl⟩ := hw
  refine g_perm List.perm_append_comm ?_
  show GW x _ _ (mdw (xy x) q m ++ tkw (xy x) a kf1 sf Q1 S o1.2) _ 657 [.int o1.1]
  refine g_aload_n C (pc := 657) 2 dL_law_657 rfl rfl ?_
  refine g_aload_n C (pc := 658) 0 dL_law_658 rfl rfl ?_
  refine g_iload_n C (pc := 659) 3 dL_law_659 rfl rfl ?_
  refine g_iconst C (pc := 660) dL_law_660 ck_iconst_1 ?_
  refine g_iadd C (pc := 661) dL_law_661 ?_
  refine g_sld C (pc := 662) hX hbl hbA hv1 dL_law_662 ?_
  refine g_callF C (pc := 663) (wc := mdw (xy x) q m) (wr := tkw (xy x) a kf1 sf Q1 S o1.2) (b := q 0) (As := [.int (sv (ix ((nI (6 * i)) + (1 : Int32))))]) (rest := [.int o1.1]) 0 lkX11_proves lVL_86 (kM_proves (xl x) (xD x) (xy x) q m (sv (ix ((nI (6 * i)) + (1 : Int32)))) o2 h2) rfl ⟨⟨Nat.le_of_ble_eq_true rfl, Nat.le_of_ble_eq_true rfl⟩, ⟨rfl, rfl⟩, ⟨Nat.le_of_ble_eq_true rfl, Nat.le_of_ble_eq_true rfl⟩⟩ rfl rfl rfl (Nat.le_of_ble_eq_true rfl) dL_law_663 (fun zv zw hw => ?_)
  obtain ⟨rfl, rfl⟩ := hw
  refine g_perm List.perm_append_comm ?_
  show GW x _ _ (tkw (xy x) a kf1 sf Q1 S o1.2 ++ mdw (xy x) q o2.2) _ 666 [.int o2.1, .int o1.1]
  refine g_icmp_eq C (pc := 666) 906 dL_law_666 (by decide) (fun _ => ?_) (fun c_666 => absurd he c_666)
  exact next o1.2 o2.2 kf1 Q1 hk1 hI'
set_option maxRecDepth 100000 in
set_option maxHeartbeats 4000000 in
theorem law_17 (x : GX) (C : GC x cL_law RL room_1) (b L i : Nat) (sv : Nat → Int32) (hX : va_X b L sv (xs x) (xs x).heap) (hbl : b < (xs x).heap.size) (hbA : ¬ xA x b) (hi : 6 * i + 6 ≤ L) (hL : L ≤ 3072) (hi512 : i < 512) (a : TA) (kf sf : Nat → Option Nat) (Q S : Nat → Nat → Nat) (c : CS) (q : Nat → Nat) (m : MD) (hk : ∀ i, i < 7 → kf i = some (Q i 0)) (hs : ∀ i, i < 2 → sf i = some (S i 0)) (hI : INV i c m) (next : ∀ (c1 : CS) (m1 : MD) (kf1 : Nat → Option Nat) (Q1 : Nat → Nat → Nat), (∀ i, i < 7 → kf1 i = some (Q1 i 0)) → INV (i + 1) c1 m1 → GW x 196 22076 (tkw (xy x) a kf1 sf Q1 S c1 ++ mdw (xy x) q m1) [(0, .ref b), (1, .ref a.1), (2, .ref (q 0)), (3, .int (nI (6 * i)))] 906 []) : GW x 196 22076 (tkw (xy x) a kf sf Q S c ++ mdw (xy x) q m) [(0, .ref b), (1, .ref a.1), (2, .ref (q 0)), (3, .int (nI (6 * i)))] 671 [] := by
  have hv1 : vp_in (nI (6 * i) + (1 : Int32)) L := hvv (j := 1) (by decide) hi hL (by decide)
  have hv2 : vp_in (nI (6 * i) + (2 : Int32)) L := hvv (j := 2) (by decide) hi hL (by decide)
  have hv3 : vp_in (nI (6 * i) + (3 : Int32)) L := hvv (j := 3) (by decide) hi hL (by decide)
  have hv4 : vp_in (nI (6 * i) + (4 : Int32)) L := hvv (j := 4) (by decide) hi hL (by decide)
  have hv5 : vp_in (nI (6 * i) + (5 : Int32)) L := hvv (j := 5) (by decide) hi hL (by decide)
  refine g_aload_n C (pc := 671) 1 dL_law_671 rfl rfl ?_
  refine g_aload_n C (pc := 672) 0 dL_law_672 rfl rfl ?_
  refine g_iload_n C (pc := 673) 3 dL_law_673 rfl rfl ?_
  refine g_iconst C (pc := 674) dL_law_674 ck_iconst_1 ?_
  refine g_iadd C (pc := 675) dL_law_675 ?_
  refine g_sld C (pc := 676) hX hbl hbA hv1 dL_law_676 ?_
  obtain ⟨o1, o2, h1, h2, he, hI'⟩ := S_witness hI hi512 (sv (ix ((nI (6 * i)) + (1 : Int32))))
  refine g_callF C (pc := 677) (wc := tkw (xy x) a kf sf Q S c) (wr := mdw (xy x) q m) (b := a.1) (As := [.int (sv (ix ((nI (6 * i)) + (1 : Int32))))]) (rest := []) 0 lkX10_witness lVL_87 (kC_witness (xl x) (xD x) (xy x) a kf sf Q S c (sv (ix ((nI (6 * i)) + (1 : Int32)))) o1 hk hs h1) rfl ⟨⟨Nat.le_of_ble_eq_true rfl, Nat.le_of_ble_eq_true rfl⟩, ⟨rfl, rfl⟩, ⟨Nat.le_of_ble_eq_true rfl, Nat.le_of_ble_eq_true rfl⟩⟩ rfl rfl rfl (Nat.le_of_ble_eq_true rfl) dL_law_677 (fun zv zw hw => ?_)
  obtain ⟨Q1, kf1, hk1, rfl, rfl⟩ := hw
  refine g_perm List.perm_append_comm ?_
  show GW x _ _ (mdw (xy x) q m ++ tkw (xy x) a kf1 sf Q1 S o1.2) _ 680 [.int o1.1]
  refine g_aload_n C (pc := 680) 2 dL_law_680 rfl rfl ?_
  refine g_aload_n C (pc := 681) 0 dL_law_681 rfl rfl ?_
  refine g_iload_n C (pc := 682) 3 dL_law_682 rfl rfl ?_
  refine g_iconst C (pc := 683) dL_law_683 ck_iconst_1 ?_
  refine g_iadd C (pc := 684) dL_law_684 ?_
  refine g_sld C (pc := 685) hX hbl hbA hv1 dL_law_685 ?_
  refine g_callF C (pc := 686) (wc := mdw (xy x) q m) (wr := tkw (xy x) a kf1 sf Q1 S o1.2) (b := q 0) (As := [.int (sv (ix ((nI (6 * i)) + (1 : Int32))))]) (rest := [.int o1.1]) 0 lkX11_witness lVL_90 (kM_witness (xl x) (xD x) (xy x) q m (sv (ix ((nI (6 * i)) + (1 : Int32)))) o2 h2) rfl ⟨⟨Nat.le_of_ble_eq_true rfl, Nat.le_of_ble_eq_true rfl⟩, ⟨rfl, rfl⟩, ⟨Nat.le_of_ble_eq_true rfl, Nat.le_of_ble_eq_true rfl⟩⟩ rfl rfl rfl (Nat.le_of_ble_eq_true rfl) dL_law_686 (fun zv zw hw => ?_)
  obtain ⟨rfl, rfl⟩ := hw
  refine g_perm List.perm_append_comm ?_
  show GW x _ _ (tkw (xy x) a kf1 sf Q1 S o1.2 ++ mdw (xy x) q o2.2) _ 689 [.int o2.1, .int o1.1]
  refine g_icmp_eq C (pc := 689) 906 dL_law_689 (by decide) (fun _ => ?_) (fun c_689 => absurd he c_689)
  exact next o1.2 o2.2 kf1 Q1 hk1 hI'
set_option maxRecDepth 100000 in
set_option maxHeartbeats 4000000 in
theorem law_18 (x : GX) (C : GC x cL_law RL room_1) (b L i : Nat) (sv : Nat → Int32) (hX : va_X b L sv (xs x) (xs x).heap) (hbl : b < (xs x).heap.size) (hbA : ¬ xA x b) (hi : 6 * i + 6 ≤ L) (hL : L ≤ 3072) (hi512 : i < 512) (a : TA) (kf sf : Nat → Option Nat) (Q S : Nat → Nat → Nat) (c : CS) (q : Nat → Nat) (m : MD) (hk : ∀ i, i < 7 → kf i = some (Q i 0)) (hs : ∀ i, i < 2 → sf i = some (S i 0)) (hI : INV i c m) (next : ∀ (c1 : CS) (m1 : MD) (kf1 : Nat → Option Nat) (Q1 : Nat → Nat → Nat), (∀ i, i < 7 → kf1 i = some (Q1 i 0)) → INV (i + 1) c1 m1 → GW x 196 22076 (tkw (xy x) a kf1 sf Q1 S c1 ++ mdw (xy x) q m1) [(0, .ref b), (1, .ref a.1), (2, .ref (q 0)), (3, .int (nI (6 * i)))] 906 []) : GW x 196 22076 (tkw (xy x) a kf sf Q S c ++ mdw (xy x) q m) [(0, .ref b), (1, .ref a.1), (2, .ref (q 0)), (3, .int (nI (6 * i)))] 694 [] := by
  have hv1 : vp_in (nI (6 * i) + (1 : Int32)) L := hvv (j := 1) (by decide) hi hL (by decide)
  have hv2 : vp_in (nI (6 * i) + (2 : Int32)) L := hvv (j := 2) (by decide) hi hL (by decide)
  have hv3 : vp_in (nI (6 * i) + (3 : Int32)) L := hvv (j := 3) (by decide) hi hL (by decide)
  have hv4 : vp_in (nI (6 * i) + (4 : Int32)) L := hvv (j := 4) (by decide) hi hL (by decide)
  have hv5 : vp_in (nI (6 * i) + (5 : Int32)) L := hvv (j := 5) (by decide) hi hL (by decide)
  refine g_aload_n C (pc := 694) 1 dL_law_694 rfl rfl ?_
  refine g_aload_n C (pc := 695) 0 dL_law_695 rfl rfl ?_
  refine g_iload_n C (pc := 696) 3 dL_law_696 rfl rfl ?_
  refine g_iconst C (pc := 697) dL_law_697 ck_iconst_1 ?_
  refine g_iadd C (pc := 698) dL_law_698 ?_
  refine g_sld C (pc := 699) hX hbl hbA hv1 dL_law_699 ?_
  obtain ⟨o1, o2, h1, h2, he, hI'⟩ := S_isTrue hI hi512 (sv (ix ((nI (6 * i)) + (1 : Int32))))
  refine g_callF C (pc := 700) (wc := tkw (xy x) a kf sf Q S c) (wr := mdw (xy x) q m) (b := a.1) (As := [.int (sv (ix ((nI (6 * i)) + (1 : Int32))))]) (rest := []) 0 lkX10_isTrue lVL_91 (kC_isTrue (xl x) (xD x) (xy x) a kf sf Q S c (sv (ix ((nI (6 * i)) + (1 : Int32)))) o1 hk hs h1) rfl ⟨⟨Nat.le_of_ble_eq_true rfl, Nat.le_of_ble_eq_true rfl⟩, ⟨rfl, rfl⟩, ⟨Nat.le_of_ble_eq_true rfl, Nat.le_of_ble_eq_true rfl⟩⟩ rfl rfl rfl (Nat.le_of_ble_eq_true rfl) dL_law_700 (fun zv zw hw => ?_)
  obtain ⟨Q1, kf1, hk1, rfl, rfl⟩ := hw
  refine g_perm List.perm_append_comm ?_
  show GW x _ _ (mdw (xy x) q m ++ tkw (xy x) a kf1 sf Q1 S o1.2) _ 703 [.int o1.1]
  refine g_aload_n C (pc := 703) 2 dL_law_703 rfl rfl ?_
  refine g_aload_n C (pc := 704) 0 dL_law_704 rfl rfl ?_
  refine g_iload_n C (pc := 705) 3 dL_law_705 rfl rfl ?_
  refine g_iconst C (pc := 706) dL_law_706 ck_iconst_1 ?_
  refine g_iadd C (pc := 707) dL_law_707 ?_
  refine g_sld C (pc := 708) hX hbl hbA hv1 dL_law_708 ?_
  refine g_callF C (pc := 709) (wc := mdw (xy x) q m) (wr := tkw (xy x) a kf1 sf Q1 S o1.2) (b := q 0) (As := [.int (sv (ix ((nI (6 * i)) + (1 : Int32))))]) (rest := [.int o1.1]) 0 lkX11_isTrue lVL_94 (kM_isTrue (xl x) (xD x) (xy x) q m (sv (ix ((nI (6 * i)) + (1 : Int32)))) o2 h2) rfl ⟨⟨Nat.le_of_ble_eq_true rfl, Nat.le_of_ble_eq_true rfl⟩, ⟨rfl, rfl⟩, ⟨Nat.le_of_ble_eq_true rfl, Nat.le_of_ble_eq_true rfl⟩⟩ rfl rfl rfl (Nat.le_of_ble_eq_true rfl) dL_law_709 (fun zv zw hw => ?_)
  obtain ⟨rfl, rfl⟩ := hw
  refine g_perm List.perm_append_comm ?_
  show GW x _ _ (tkw (xy x) a kf1 sf Q1 S o1.2 ++ mdw (xy x) q o2.2) _ 712 [.int o2.1, .int o1.1]
  refine g_icmp_eq C (pc := 712) 906 dL_law_712 (by decide) (fun _ => ?_) (fun c_712 => absurd he c_712)
  exact next o1.2 o2.2 kf1 Q1 hk1 hI'
set_option maxRecDepth 100000 in
set_option maxHeartbeats 4000000 in
theorem law_19 (x : GX) (C : GC x cL_law RL room_1) (b L i : Nat) (sv : Nat → Int32) (hX : va_X b L sv (xs x) (xs x).heap) (hbl : b < (xs x).heap.size) (hbA : ¬ xA x b) (hi : 6 * i + 6 ≤ L) (hL : L ≤ 3072) (hi512 : i < 512) (a : TA) (kf sf : Nat → Option Nat) (Q S : Nat → Nat → Nat) (c : CS) (q : Nat → Nat) (m : MD) (hk : ∀ i, i < 7 → kf i = some (Q i 0)) (hs : ∀ i, i < 2 → sf i = some (S i 0)) (hI : INV i c m) (next : ∀ (c1 : CS) (m1 : MD) (kf1 : Nat → Option Nat) (Q1 : Nat → Nat → Nat), (∀ i, i < 7 → kf1 i = some (Q1 i 0)) → INV (i + 1) c1 m1 → GW x 196 22076 (tkw (xy x) a kf1 sf Q1 S c1 ++ mdw (xy x) q m1) [(0, .ref b), (1, .ref a.1), (2, .ref (q 0)), (3, .int (nI (6 * i)))] 906 []) : GW x 196 22076 (tkw (xy x) a kf sf Q S c ++ mdw (xy x) q m) [(0, .ref b), (1, .ref a.1), (2, .ref (q 0)), (3, .int (nI (6 * i)))] 717 [] := by
  have hv1 : vp_in (nI (6 * i) + (1 : Int32)) L := hvv (j := 1) (by decide) hi hL (by decide)
  have hv2 : vp_in (nI (6 * i) + (2 : Int32)) L := hvv (j := 2) (by decide) hi hL (by decide)
  have hv3 : vp_in (nI (6 * i) + (3 : Int32)) L := hvv (j := 3) (by decide) hi hL (by decide)
  have hv4 : vp_in (nI (6 * i) + (4 : Int32)) L := hvv (j := 4) (by decide) hi hL (by decide)
  have hv5 : vp_in (nI (6 * i) + (5 : Int32)) L := hvv (j := 5) (by decide) hi hL (by decide)
  refine g_aload_n C (pc := 717) 1 dL_law_717 rfl rfl ?_
  obtain ⟨o1, o2, h1, h2, he, hI'⟩ := S_needless hI hi512
  refine g_callF C (pc := 718) (wc := tkw (xy x) a kf sf Q S c) (wr := mdw (xy x) q m) (b := a.1) (As := []) (rest := []) 0 lkX10_needless lVL_95 (kC_needless (xl x) (xD x) (xy x) a kf sf Q S c  o1 hk hs h1) rfl ⟨⟨Nat.le_of_ble_eq_true rfl, Nat.le_of_ble_eq_true rfl⟩, ⟨rfl, rfl⟩, ⟨Nat.le_of_ble_eq_true rfl, Nat.le_of_ble_eq_true rfl⟩⟩ rfl rfl rfl (Nat.le_of_ble_eq_true rfl) dL_law_718 (fun zv zw hw => ?_)
  obtain ⟨Q1, kf1, hk1, rfl, rfl⟩ := hw
  refine g_perm List.perm_append_comm ?_
  show GW x _ _ (mdw (xy x) q m ++ tkw (xy x) a kf1 sf Q1 S o1.2) _ 721 [.long o1.1]
  refine g_aload_n C (pc := 721) 2 dL_law_721 rfl rfl ?_
  refine g_callF C (pc := 722) (wc := mdw (xy x) q m) (wr := tkw (xy x) a kf1 sf Q1 S o1.2) (b := q 0) (As := []) (rest := [.long o1.1]) 0 lkX11_needless lVL_99 (kM_needless (xl x) (xD x) (xy x) q m  o2 h2) rfl ⟨⟨Nat.le_of_ble_eq_true rfl, Nat.le_of_ble_eq_true rfl⟩, ⟨rfl, rfl⟩, ⟨Nat.le_of_ble_eq_true rfl, Nat.le_of_ble_eq_true rfl⟩⟩ rfl rfl rfl (Nat.le_of_ble_eq_true rfl) dL_law_722 (fun zv zw hw => ?_)
  obtain ⟨rfl, rfl⟩ := hw
  refine g_perm List.perm_append_comm ?_
  show GW x _ _ (tkw (xy x) a kf1 sf Q1 S o1.2 ++ mdw (xy x) q o2.2) _ 725 [.long o2.1, .long o1.1]
  refine g_lcmp C (pc := 725) dL_law_725 ?_
  refine g_if_eq C (pc := 726) 906 dL_law_726 (by decide) (fun _ => ?_) (fun c_726 => absurd (by rw [he]; exact lcmp_self _) c_726)
  exact next o1.2 o2.2 kf1 Q1 hk1 hI'
set_option maxRecDepth 100000 in
set_option maxHeartbeats 4000000 in
theorem law_20 (x : GX) (C : GC x cL_law RL room_1) (b L i : Nat) (sv : Nat → Int32) (hX : va_X b L sv (xs x) (xs x).heap) (hbl : b < (xs x).heap.size) (hbA : ¬ xA x b) (hi : 6 * i + 6 ≤ L) (hL : L ≤ 3072) (hi512 : i < 512) (a : TA) (kf sf : Nat → Option Nat) (Q S : Nat → Nat → Nat) (c : CS) (q : Nat → Nat) (m : MD) (hk : ∀ i, i < 7 → kf i = some (Q i 0)) (hs : ∀ i, i < 2 → sf i = some (S i 0)) (hI : INV i c m) (next : ∀ (c1 : CS) (m1 : MD) (kf1 : Nat → Option Nat) (Q1 : Nat → Nat → Nat), (∀ i, i < 7 → kf1 i = some (Q1 i 0)) → INV (i + 1) c1 m1 → GW x 196 22076 (tkw (xy x) a kf1 sf Q1 S c1 ++ mdw (xy x) q m1) [(0, .ref b), (1, .ref a.1), (2, .ref (q 0)), (3, .int (nI (6 * i)))] 906 []) : GW x 196 22076 (tkw (xy x) a kf sf Q S c ++ mdw (xy x) q m) [(0, .ref b), (1, .ref a.1), (2, .ref (q 0)), (3, .int (nI (6 * i)))] 731 [] := by
  have hv1 : vp_in (nI (6 * i) + (1 : Int32)) L := hvv (j := 1) (by decide) hi hL (by decide)
  have hv2 : vp_in (nI (6 * i) + (2 : Int32)) L := hvv (j := 2) (by decide) hi hL (by decide)
  have hv3 : vp_in (nI (6 * i) + (3 : Int32)) L := hvv (j := 3) (by decide) hi hL (by decide)
  have hv4 : vp_in (nI (6 * i) + (4 : Int32)) L := hvv (j := 4) (by decide) hi hL (by decide)
  have hv5 : vp_in (nI (6 * i) + (5 : Int32)) L := hvv (j := 5) (by decide) hi hL (by decide)
  refine g_aload_n C (pc := 731) 1 dL_law_731 rfl rfl ?_
  refine g_aload_n C (pc := 732) 0 dL_law_732 rfl rfl ?_
  refine g_iload_n C (pc := 733) 3 dL_law_733 rfl rfl ?_
  refine g_iconst C (pc := 734) dL_law_734 ck_iconst_1 ?_
  refine g_iadd C (pc := 735) dL_law_735 ?_
  refine g_sld C (pc := 736) hX hbl hbA hv1 dL_law_736 ?_
  obtain ⟨o1, o2, h1, h2, he, hI'⟩ := S_core hI hi512 (sv (ix ((nI (6 * i)) + (1 : Int32))))
  refine g_callF C (pc := 737) (wc := tkw (xy x) a kf sf Q S c) (wr := mdw (xy x) q m) (b := a.1) (As := [.int (sv (ix ((nI (6 * i)) + (1 : Int32))))]) (rest := []) 0 lkX10_core lVL_100 (kC_core (xl x) (xD x) (xy x) a kf sf Q S c (sv (ix ((nI (6 * i)) + (1 : Int32)))) o1 hk hs h1) rfl ⟨⟨Nat.le_of_ble_eq_true rfl, Nat.le_of_ble_eq_true rfl⟩, ⟨rfl, rfl⟩, ⟨Nat.le_of_ble_eq_true rfl, Nat.le_of_ble_eq_true rfl⟩⟩ rfl rfl rfl (Nat.le_of_ble_eq_true rfl) dL_law_737 (fun zv zw hw => ?_)
  obtain ⟨Q1, kf1, hk1, rfl, rfl⟩ := hw
  refine g_perm List.perm_append_comm ?_
  show GW x _ _ (mdw (xy x) q m ++ tkw (xy x) a kf1 sf Q1 S o1.2) _ 740 [.long o1.1]
  refine g_aload_n C (pc := 740) 2 dL_law_740 rfl rfl ?_
  refine g_aload_n C (pc := 741) 0 dL_law_741 rfl rfl ?_
  refine g_iload_n C (pc := 742) 3 dL_law_742 rfl rfl ?_
  refine g_iconst C (pc := 743) dL_law_743 ck_iconst_1 ?_
  refine g_iadd C (pc := 744) dL_law_744 ?_
  refine g_sld C (pc := 745) hX hbl hbA hv1 dL_law_745 ?_
  refine g_callF C (pc := 746) (wc := mdw (xy x) q m) (wr := tkw (xy x) a kf1 sf Q1 S o1.2) (b := q 0) (As := [.int (sv (ix ((nI (6 * i)) + (1 : Int32))))]) (rest := [.long o1.1]) 0 lkX11_core lVL_104 (kM_core (xl x) (xD x) (xy x) q m (sv (ix ((nI (6 * i)) + (1 : Int32)))) o2 h2) rfl ⟨⟨Nat.le_of_ble_eq_true rfl, Nat.le_of_ble_eq_true rfl⟩, ⟨rfl, rfl⟩, ⟨Nat.le_of_ble_eq_true rfl, Nat.le_of_ble_eq_true rfl⟩⟩ rfl rfl rfl (Nat.le_of_ble_eq_true rfl) dL_law_746 (fun zv zw hw => ?_)
  obtain ⟨rfl, rfl⟩ := hw
  refine g_perm List.perm_append_comm ?_
  show GW x _ _ (tkw (xy x) a kf1 sf Q1 S o1.2 ++ mdw (xy x) q o2.2) _ 749 [.long o2.1, .long o1.1]
  refine g_lcmp C (pc := 749) dL_law_749 ?_
  refine g_if_eq C (pc := 750) 906 dL_law_750 (by decide) (fun _ => ?_) (fun c_750 => absurd (by rw [he]; exact lcmp_self _) c_750)
  exact next o1.2 o2.2 kf1 Q1 hk1 hI'
set_option maxRecDepth 100000 in
set_option maxHeartbeats 4000000 in
theorem law_21 (x : GX) (C : GC x cL_law RL room_1) (b L i : Nat) (sv : Nat → Int32) (hX : va_X b L sv (xs x) (xs x).heap) (hbl : b < (xs x).heap.size) (hbA : ¬ xA x b) (hi : 6 * i + 6 ≤ L) (hL : L ≤ 3072) (hi512 : i < 512) (a : TA) (kf sf : Nat → Option Nat) (Q S : Nat → Nat → Nat) (c : CS) (q : Nat → Nat) (m : MD) (hk : ∀ i, i < 7 → kf i = some (Q i 0)) (hs : ∀ i, i < 2 → sf i = some (S i 0)) (hI : INV i c m) (next : ∀ (c1 : CS) (m1 : MD) (kf1 : Nat → Option Nat) (Q1 : Nat → Nat → Nat), (∀ i, i < 7 → kf1 i = some (Q1 i 0)) → INV (i + 1) c1 m1 → GW x 196 22076 (tkw (xy x) a kf1 sf Q1 S c1 ++ mdw (xy x) q m1) [(0, .ref b), (1, .ref a.1), (2, .ref (q 0)), (3, .int (nI (6 * i)))] 906 []) : GW x 196 22076 (tkw (xy x) a kf sf Q S c ++ mdw (xy x) q m) [(0, .ref b), (1, .ref a.1), (2, .ref (q 0)), (3, .int (nI (6 * i)))] 755 [] := by
  have hv1 : vp_in (nI (6 * i) + (1 : Int32)) L := hvv (j := 1) (by decide) hi hL (by decide)
  have hv2 : vp_in (nI (6 * i) + (2 : Int32)) L := hvv (j := 2) (by decide) hi hL (by decide)
  have hv3 : vp_in (nI (6 * i) + (3 : Int32)) L := hvv (j := 3) (by decide) hi hL (by decide)
  have hv4 : vp_in (nI (6 * i) + (4 : Int32)) L := hvv (j := 4) (by decide) hi hL (by decide)
  have hv5 : vp_in (nI (6 * i) + (5 : Int32)) L := hvv (j := 5) (by decide) hi hL (by decide)
  refine g_aload_n C (pc := 755) 1 dL_law_755 rfl rfl ?_
  refine g_aload_n C (pc := 756) 0 dL_law_756 rfl rfl ?_
  refine g_iload_n C (pc := 757) 3 dL_law_757 rfl rfl ?_
  refine g_iconst C (pc := 758) dL_law_758 ck_iconst_1 ?_
  refine g_iadd C (pc := 759) dL_law_759 ?_
  refine g_sld C (pc := 760) hX hbl hbA hv1 dL_law_760 ?_
  refine g_i2l C (pc := 761) dL_law_761 ?_
  refine g_bipush C (pc := 762) dL_law_762 ck_bipush_32 ?_
  refine g_lshl C (pc := 764) dL_law_764 ?_
  refine g_aload_n C (pc := 765) 0 dL_law_765 rfl rfl ?_
  refine g_iload_n C (pc := 766) 3 dL_law_766 rfl rfl ?_
  refine g_iconst C (pc := 767) dL_law_767 ck_iconst_2 ?_
  refine g_iadd C (pc := 768) dL_law_768 ?_
  refine g_sld C (pc := 769) hX hbl hbA hv2 dL_law_769 ?_
  refine g_i2l C (pc := 770) dL_law_770 ?_
  refine g_ldc2 C (pc := 771) lcL_105 dL_law_771 ?_
  refine g_land C (pc := 774) dL_law_774 ?_
  refine g_lor C (pc := 775) dL_law_775 ?_
  obtain ⟨o1, o2, h1, h2, he, hI'⟩ := S_put hI hi512 ((((sv (ix ((nI (6 * i)) + (1 : Int32)))).toInt64) <<< ((32 : Int32).toInt64 &&& 63)) ||| (((sv (ix ((nI (6 * i)) + (2 : Int32)))).toInt64) &&& (4294967295 : Int64)))
  refine g_callF C (pc := 776) (wc := tkw (xy x) a kf sf Q S c) (wr := mdw (xy x) q m) (b := a.1) (As := [.long ((((sv (ix ((nI (6 * i)) + (1 : Int32)))).toInt64) <<< ((32 : Int32).toInt64 &&& 63)) ||| (((sv (ix ((nI (6 * i)) + (2 : Int32)))).toInt64) &&& (4294967295 : Int64)))]) (rest := []) 0 lkX10_put lVL_107 (kC_put (xl x) (xD x) (xy x) a kf sf Q S c ((((sv (ix ((nI (6 * i)) + (1 : Int32)))).toInt64) <<< ((32 : Int32).toInt64 &&& 63)) ||| (((sv (ix ((nI (6 * i)) + (2 : Int32)))).toInt64) &&& (4294967295 : Int64))) o1 hk hs h1) rfl ⟨⟨Nat.le_of_ble_eq_true rfl, Nat.le_of_ble_eq_true rfl⟩, ⟨rfl, rfl⟩, ⟨Nat.le_of_ble_eq_true rfl, Nat.le_of_ble_eq_true rfl⟩⟩ rfl rfl rfl (Nat.le_of_ble_eq_true rfl) dL_law_776 (fun zv zw hw => ?_)
  obtain ⟨Q1, kf1, hk1, rfl, rfl⟩ := hw
  refine g_perm List.perm_append_comm ?_
  show GW x _ _ (mdw (xy x) q m ++ tkw (xy x) a kf1 sf Q1 S o1.2) _ 779 [.int o1.1]
  refine g_aload_n C (pc := 779) 2 dL_law_779 rfl rfl ?_
  refine g_aload_n C (pc := 780) 0 dL_law_780 rfl rfl ?_
  refine g_iload_n C (pc := 781) 3 dL_law_781 rfl rfl ?_
  refine g_iconst C (pc := 782) dL_law_782 ck_iconst_1 ?_
  refine g_iadd C (pc := 783) dL_law_783 ?_
  refine g_sld C (pc := 784) hX hbl hbA hv1 dL_law_784 ?_
  refine g_i2l C (pc := 785) dL_law_785 ?_
  refine g_bipush C (pc := 786) dL_law_786 ck_bipush_32 ?_
  refine g_lshl C (pc := 788) dL_law_788 ?_
  refine g_aload_n C (pc := 789) 0 dL_law_789 rfl rfl ?_
  refine g_iload_n C (pc := 790) 3 dL_law_790 rfl rfl ?_
  refine g_iconst C (pc := 791) dL_law_791 ck_iconst_2 ?_
  refine g_iadd C (pc := 792) dL_law_792 ?_
  refine g_sld C (pc := 793) hX hbl hbA hv2 dL_law_793 ?_
  refine g_i2l C (pc := 794) dL_law_794 ?_
  refine g_ldc2 C (pc := 795) lcL_105 dL_law_795 ?_
  refine g_land C (pc := 798) dL_law_798 ?_
  refine g_lor C (pc := 799) dL_law_799 ?_
  refine g_callF C (pc := 800) (wc := mdw (xy x) q m) (wr := tkw (xy x) a kf1 sf Q1 S o1.2) (b := q 0) (As := [.long ((((sv (ix ((nI (6 * i)) + (1 : Int32)))).toInt64) <<< ((32 : Int32).toInt64 &&& 63)) ||| (((sv (ix ((nI (6 * i)) + (2 : Int32)))).toInt64) &&& (4294967295 : Int64)))]) (rest := [.int o1.1]) 0 lkX11_put lVL_111 (kM_put (xl x) (xD x) (xy x) q m ((((sv (ix ((nI (6 * i)) + (1 : Int32)))).toInt64) <<< ((32 : Int32).toInt64 &&& 63)) ||| (((sv (ix ((nI (6 * i)) + (2 : Int32)))).toInt64) &&& (4294967295 : Int64))) o2 h2) rfl ⟨⟨Nat.le_of_ble_eq_true rfl, Nat.le_of_ble_eq_true rfl⟩, ⟨rfl, rfl⟩, ⟨Nat.le_of_ble_eq_true rfl, Nat.le_of_ble_eq_true rfl⟩⟩ rfl rfl rfl (Nat.le_of_ble_eq_true rfl) dL_law_800 (fun zv zw hw => ?_)
  obtain ⟨rfl, rfl⟩ := hw
  refine g_perm List.perm_append_comm ?_
  show GW x _ _ (tkw (xy x) a kf1 sf Q1 S o1.2 ++ mdw (xy x) q o2.2) _ 803 [.int o2.1, .int o1.1]
  refine g_icmp_eq C (pc := 803) 906 dL_law_803 (by decide) (fun _ => ?_) (fun c_803 => absurd he c_803)
  exact next o1.2 o2.2 kf1 Q1 hk1 hI'
set_option maxRecDepth 100000 in
set_option maxHeartbeats 4000000 in
theorem law_22 (x : GX) (C : GC x cL_law RL room_1) (b L i : Nat) (sv : Nat → Int32) (hX : va_X b L sv (xs x) (xs x).heap) (hbl : b < (xs x).heap.size) (hbA : ¬ xA x b) (hi : 6 * i + 6 ≤ L) (hL : L ≤ 3072) (hi512 : i < 512) (a : TA) (kf sf : Nat → Option Nat) (Q S : Nat → Nat → Nat) (c : CS) (q : Nat → Nat) (m : MD) (hk : ∀ i, i < 7 → kf i = some (Q i 0)) (hs : ∀ i, i < 2 → sf i = some (S i 0)) (hI : INV i c m) (next : ∀ (c1 : CS) (m1 : MD) (kf1 : Nat → Option Nat) (Q1 : Nat → Nat → Nat), (∀ i, i < 7 → kf1 i = some (Q1 i 0)) → INV (i + 1) c1 m1 → GW x 196 22076 (tkw (xy x) a kf1 sf Q1 S c1 ++ mdw (xy x) q m1) [(0, .ref b), (1, .ref a.1), (2, .ref (q 0)), (3, .int (nI (6 * i)))] 906 []) : GW x 196 22076 (tkw (xy x) a kf sf Q S c ++ mdw (xy x) q m) [(0, .ref b), (1, .ref a.1), (2, .ref (q 0)), (3, .int (nI (6 * i)))] 808 [] := by
  have hv1 : vp_in (nI (6 * i) + (1 : Int32)) L := hvv (j := 1) (by decide) hi hL (by decide)
  have hv2 : vp_in (nI (6 * i) + (2 : Int32)) L := hvv (j := 2) (by decide) hi hL (by decide)
  have hv3 : vp_in (nI (6 * i) + (3 : Int32)) L := hvv (j := 3) (by decide) hi hL (by decide)
  have hv4 : vp_in (nI (6 * i) + (4 : Int32)) L := hvv (j := 4) (by decide) hi hL (by decide)
  have hv5 : vp_in (nI (6 * i) + (5 : Int32)) L := hvv (j := 5) (by decide) hi hL (by decide)
  refine g_aload_n C (pc := 808) 1 dL_law_808 rfl rfl ?_
  obtain ⟨o1, o2, h1, h2, he, hI'⟩ := S_wipe hI hi512
  refine g_callF C (pc := 809) (wc := tkw (xy x) a kf sf Q S c) (wr := mdw (xy x) q m) (b := a.1) (As := []) (rest := []) 0 lkX10_wipe lVL_112 (kC_wipe (xl x) (xD x) (xy x) a kf sf Q S c  o1 hk hs h1) rfl ⟨⟨Nat.le_of_ble_eq_true rfl, Nat.le_of_ble_eq_true rfl⟩, ⟨rfl, rfl⟩, ⟨Nat.le_of_ble_eq_true rfl, Nat.le_of_ble_eq_true rfl⟩⟩ rfl rfl rfl (Nat.le_of_ble_eq_true rfl) dL_law_809 (fun zv zw hw => ?_)
  obtain ⟨Q1, kf1, hk1, rfl, rfl⟩ := hw
  refine g_perm List.perm_append_comm ?_
  show GW x _ _ (mdw (xy x) q m ++ tkw (xy x) a kf1 sf Q1 S o1.2) _ 812 [.int o1.1]
  refine g_aload_n C (pc := 812) 2 dL_law_812 rfl rfl ?_
  refine g_callF C (pc := 813) (wc := mdw (xy x) q m) (wr := tkw (xy x) a kf1 sf Q1 S o1.2) (b := q 0) (As := []) (rest := [.int o1.1]) 0 lkX11_wipe lVL_115 (kM_wipe (xl x) (xD x) (xy x) q m  o2 h2) rfl ⟨⟨Nat.le_of_ble_eq_true rfl, Nat.le_of_ble_eq_true rfl⟩, ⟨rfl, rfl⟩, ⟨Nat.le_of_ble_eq_true rfl, Nat.le_of_ble_eq_true rfl⟩⟩ rfl rfl rfl (Nat.le_of_ble_eq_true rfl) dL_law_813 (fun zv zw hw => ?_)
  obtain ⟨rfl, rfl⟩ := hw
  refine g_perm List.perm_append_comm ?_
  show GW x _ _ (tkw (xy x) a kf1 sf Q1 S o1.2 ++ mdw (xy x) q o2.2) _ 816 [.int o2.1, .int o1.1]
  refine g_icmp_eq C (pc := 816) 906 dL_law_816 (by decide) (fun _ => ?_) (fun c_816 => absurd he c_816)
  exact next o1.2 o2.2 kf1 Q1 hk1 hI'
set_option maxRecDepth 100000 in
set_option maxHeartbeats 4000000 in
theorem law_23 (x : GX) (C : GC x cL_law RL room_1) (b L i : Nat) (sv : Nat → Int32) (hX : va_X b L sv (xs x) (xs x).heap) (hbl : b < (xs x).heap.size) (hbA : ¬ xA x b) (hi : 6 * i + 6 ≤ L) (hL : L ≤ 3072) (hi512 : i < 512) (a : TA) (kf sf : Nat → Option Nat) (Q S : Nat → Nat → Nat) (c : CS) (q : Nat → Nat) (m : MD) (hk : ∀ i, i < 7 → kf i = some (Q i 0)) (hs : ∀ i, i < 2 → sf i = some (S i 0)) (hI : INV i c m) (next : ∀ (c1 : CS) (m1 : MD) (kf1 : Nat → Option Nat) (Q1 : Nat → Nat → Nat), (∀ i, i < 7 → kf1 i = some (Q1 i 0)) → INV (i + 1) c1 m1 → GW x 196 22076 (tkw (xy x) a kf1 sf Q1 S c1 ++ mdw (xy x) q m1) [(0, .ref b), (1, .ref a.1), (2, .ref (q 0)), (3, .int (nI (6 * i)))] 906 []) : GW x 196 22076 (tkw (xy x) a kf sf Q S c ++ mdw (xy x) q m) [(0, .ref b), (1, .ref a.1), (2, .ref (q 0)), (3, .int (nI (6 * i)))] 821 [] := by
  have hv1 : vp_in (nI (6 * i) + (1 : Int32)) L := hvv (j := 1) (by decide) hi hL (by decide)
  have hv2 : vp_in (nI (6 * i) + (2 : Int32)) L := hvv (j := 2) (by decide) hi hL (by decide)
  have hv3 : vp_in (nI (6 * i) + (3 : Int32)) L := hvv (j := 3) (by decide) hi hL (by decide)
  have hv4 : vp_in (nI (6 * i) + (4 : Int32)) L := hvv (j := 4) (by decide) hi hL (by decide)
  have hv5 : vp_in (nI (6 * i) + (5 : Int32)) L := hvv (j := 5) (by decide) hi hL (by decide)
  refine g_aload_n C (pc := 821) 1 dL_law_821 rfl rfl ?_
  obtain ⟨o1, o2, h1, h2, he, hI'⟩ := S_fault hI hi512
  refine g_callF C (pc := 822) (wc := tkw (xy x) a kf sf Q S c) (wr := mdw (xy x) q m) (b := a.1) (As := []) (rest := []) 0 lkX10_fault lVL_116 (kC_fault (xl x) (xD x) (xy x) a kf sf Q S c  o1 hk hs h1) rfl ⟨⟨Nat.le_of_ble_eq_true rfl, Nat.le_of_ble_eq_true rfl⟩, ⟨rfl, rfl⟩, ⟨Nat.le_of_ble_eq_true rfl, Nat.le_of_ble_eq_true rfl⟩⟩ rfl rfl rfl (Nat.le_of_ble_eq_true rfl) dL_law_822 (fun zv zw hw => ?_)
  obtain ⟨Q1, kf1, hk1, rfl, rfl⟩ := hw
  refine g_perm List.perm_append_comm ?_
  show GW x _ _ (mdw (xy x) q m ++ tkw (xy x) a kf1 sf Q1 S o1.2) _ 825 [.int o1.1]
  refine g_aload_n C (pc := 825) 2 dL_law_825 rfl rfl ?_
  refine g_callF C (pc := 826) (wc := mdw (xy x) q m) (wr := tkw (xy x) a kf1 sf Q1 S o1.2) (b := q 0) (As := []) (rest := [.int o1.1]) 0 lkX11_fault lVL_119 (kM_fault (xl x) (xD x) (xy x) q m  o2 h2) rfl ⟨⟨Nat.le_of_ble_eq_true rfl, Nat.le_of_ble_eq_true rfl⟩, ⟨rfl, rfl⟩, ⟨Nat.le_of_ble_eq_true rfl, Nat.le_of_ble_eq_true rfl⟩⟩ rfl rfl rfl (Nat.le_of_ble_eq_true rfl) dL_law_826 (fun zv zw hw => ?_)
  obtain ⟨rfl, rfl⟩ := hw
  refine g_perm List.perm_append_comm ?_
  show GW x _ _ (tkw (xy x) a kf1 sf Q1 S o1.2 ++ mdw (xy x) q o2.2) _ 829 [.int o2.1, .int o1.1]
  refine g_icmp_eq C (pc := 829) 906 dL_law_829 (by decide) (fun _ => ?_) (fun c_829 => absurd he c_829)
  exact next o1.2 o2.2 kf1 Q1 hk1 hI'
set_option maxRecDepth 100000 in
set_option maxHeartbeats 4000000 in
theorem law_24 (x : GX) (C : GC x cL_law RL room_1) (b L i : Nat) (sv : Nat → Int32) (hX : va_X b L sv (xs x) (xs x).heap) (hbl : b < (xs x).heap.size) (hbA : ¬ xA x b) (hi : 6 * i + 6 ≤ L) (hL : L ≤ 3072) (hi512 : i < 512) (a : TA) (kf sf : Nat → Option Nat) (Q S : Nat → Nat → Nat) (c : CS) (q : Nat → Nat) (m : MD) (hk : ∀ i, i < 7 → kf i = some (Q i 0)) (hs : ∀ i, i < 2 → sf i = some (S i 0)) (hI : INV i c m) (next : ∀ (c1 : CS) (m1 : MD) (kf1 : Nat → Option Nat) (Q1 : Nat → Nat → Nat), (∀ i, i < 7 → kf1 i = some (Q1 i 0)) → INV (i + 1) c1 m1 → GW x 196 22076 (tkw (xy x) a kf1 sf Q1 S c1 ++ mdw (xy x) q m1) [(0, .ref b), (1, .ref a.1), (2, .ref (q 0)), (3, .int (nI (6 * i)))] 906 []) : GW x 196 22076 (tkw (xy x) a kf sf Q S c ++ mdw (xy x) q m) [(0, .ref b), (1, .ref a.1), (2, .ref (q 0)), (3, .int (nI (6 * i)))] 834 [] := by
  have hv1 : vp_in (nI (6 * i) + (1 : Int32)) L := hvv (j := 1) (by decide) hi hL (by decide)
  have hv2 : vp_in (nI (6 * i) + (2 : Int32)) L := hvv (j := 2) (by decide) hi hL (by decide)
  have hv3 : vp_in (nI (6 * i) + (3 : Int32)) L := hvv (j := 3) (by decide) hi hL (by decide)
  have hv4 : vp_in (nI (6 * i) + (4 : Int32)) L := hvv (j := 4) (by decide) hi hL (by decide)
  have hv5 : vp_in (nI (6 * i) + (5 : Int32)) L := hvv (j := 5) (by decide) hi hL (by decide)
  refine g_aload_n C (pc := 834) 1 dL_law_834 rfl rfl ?_
  obtain ⟨o1, o2, h1, h2, he, hI'⟩ := S_carryOut hI hi512
  refine g_callF C (pc := 835) (wc := tkw (xy x) a kf sf Q S c) (wr := mdw (xy x) q m) (b := a.1) (As := []) (rest := []) 0 lkX10_carryOut lVL_120 (kC_carryOut (xl x) (xD x) (xy x) a kf sf Q S c  o1 hk hs h1) rfl ⟨⟨Nat.le_of_ble_eq_true rfl, Nat.le_of_ble_eq_true rfl⟩, ⟨rfl, rfl⟩, ⟨Nat.le_of_ble_eq_true rfl, Nat.le_of_ble_eq_true rfl⟩⟩ rfl rfl rfl (Nat.le_of_ble_eq_true rfl) dL_law_835 (fun zv zw hw => ?_)
  obtain ⟨Q1, kf1, hk1, rfl, rfl⟩ := hw
  refine g_perm List.perm_append_comm ?_
  show GW x _ _ (mdw (xy x) q m ++ tkw (xy x) a kf1 sf Q1 S o1.2) _ 838 [.int o1.1]
  refine g_aload_n C (pc := 838) 2 dL_law_838 rfl rfl ?_
  refine g_callF C (pc := 839) (wc := mdw (xy x) q m) (wr := tkw (xy x) a kf1 sf Q1 S o1.2) (b := q 0) (As := []) (rest := [.int o1.1]) 0 lkX11_carryOut lVL_123 (kM_carryOut (xl x) (xD x) (xy x) q m  o2 h2) rfl ⟨⟨Nat.le_of_ble_eq_true rfl, Nat.le_of_ble_eq_true rfl⟩, ⟨rfl, rfl⟩, ⟨Nat.le_of_ble_eq_true rfl, Nat.le_of_ble_eq_true rfl⟩⟩ rfl rfl rfl (Nat.le_of_ble_eq_true rfl) dL_law_839 (fun zv zw hw => ?_)
  obtain ⟨rfl, rfl⟩ := hw
  refine g_perm List.perm_append_comm ?_
  show GW x _ _ (tkw (xy x) a kf1 sf Q1 S o1.2 ++ mdw (xy x) q o2.2) _ 842 [.int o2.1, .int o1.1]
  refine g_icmp_eq C (pc := 842) 906 dL_law_842 (by decide) (fun _ => ?_) (fun c_842 => absurd he c_842)
  exact next o1.2 o2.2 kf1 Q1 hk1 hI'
set_option maxRecDepth 100000 in
set_option maxHeartbeats 4000000 in
theorem law_25 (x : GX) (C : GC x cL_law RL room_1) (b L i : Nat) (sv : Nat → Int32) (hX : va_X b L sv (xs x) (xs x).heap) (hbl : b < (xs x).heap.size) (hbA : ¬ xA x b) (hi : 6 * i + 6 ≤ L) (hL : L ≤ 3072) (hi512 : i < 512) (a : TA) (kf sf : Nat → Option Nat) (Q S : Nat → Nat → Nat) (c : CS) (q : Nat → Nat) (m : MD) (hk : ∀ i, i < 7 → kf i = some (Q i 0)) (hs : ∀ i, i < 2 → sf i = some (S i 0)) (hI : INV i c m) (next : ∀ (c1 : CS) (m1 : MD) (kf1 : Nat → Option Nat) (Q1 : Nat → Nat → Nat), (∀ i, i < 7 → kf1 i = some (Q1 i 0)) → INV (i + 1) c1 m1 → GW x 196 22076 (tkw (xy x) a kf1 sf Q1 S c1 ++ mdw (xy x) q m1) [(0, .ref b), (1, .ref a.1), (2, .ref (q 0)), (3, .int (nI (6 * i)))] 906 []) : GW x 196 22076 (tkw (xy x) a kf sf Q S c ++ mdw (xy x) q m) [(0, .ref b), (1, .ref a.1), (2, .ref (q 0)), (3, .int (nI (6 * i)))] 847 [] := by
  have hv1 : vp_in (nI (6 * i) + (1 : Int32)) L := hvv (j := 1) (by decide) hi hL (by decide)
  have hv2 : vp_in (nI (6 * i) + (2 : Int32)) L := hvv (j := 2) (by decide) hi hL (by decide)
  have hv3 : vp_in (nI (6 * i) + (3 : Int32)) L := hvv (j := 3) (by decide) hi hL (by decide)
  have hv4 : vp_in (nI (6 * i) + (4 : Int32)) L := hvv (j := 4) (by decide) hi hL (by decide)
  have hv5 : vp_in (nI (6 * i) + (5 : Int32)) L := hvv (j := 5) (by decide) hi hL (by decide)
  refine g_aload_n C (pc := 847) 1 dL_law_847 rfl rfl ?_
  obtain ⟨o1, o2, h1, h2, he, hI'⟩ := S_undo hI hi512
  refine g_callF C (pc := 848) (wc := tkw (xy x) a kf sf Q S c) (wr := mdw (xy x) q m) (b := a.1) (As := []) (rest := []) 0 lkX10_undo lVL_124 (kC_undo (xl x) (xD x) (xy x) a kf sf Q S c  o1 hk hs h1) rfl ⟨⟨Nat.le_of_ble_eq_true rfl, Nat.le_of_ble_eq_true rfl⟩, ⟨rfl, rfl⟩, ⟨Nat.le_of_ble_eq_true rfl, Nat.le_of_ble_eq_true rfl⟩⟩ rfl rfl rfl (Nat.le_of_ble_eq_true rfl) dL_law_848 (fun zv zw hw => ?_)
  obtain ⟨Q1, kf1, hk1, rfl, rfl⟩ := hw
  refine g_perm List.perm_append_comm ?_
  show GW x _ _ (mdw (xy x) q m ++ tkw (xy x) a kf1 sf Q1 S o1.2) _ 851 [.int o1.1]
  refine g_aload_n C (pc := 851) 2 dL_law_851 rfl rfl ?_
  refine g_callF C (pc := 852) (wc := mdw (xy x) q m) (wr := tkw (xy x) a kf1 sf Q1 S o1.2) (b := q 0) (As := []) (rest := [.int o1.1]) 0 lkX11_undo lVL_127 (kM_undo (xl x) (xD x) (xy x) q m  o2 h2) rfl ⟨⟨Nat.le_of_ble_eq_true rfl, Nat.le_of_ble_eq_true rfl⟩, ⟨rfl, rfl⟩, ⟨Nat.le_of_ble_eq_true rfl, Nat.le_of_ble_eq_true rfl⟩⟩ rfl rfl rfl (Nat.le_of_ble_eq_true rfl) dL_law_852 (fun zv zw hw => ?_)
  obtain ⟨rfl, rfl⟩ := hw
  refine g_perm List.perm_append_comm ?_
  show GW x _ _ (tkw (xy x) a kf1 sf Q1 S o1.2 ++ mdw (xy x) q o2.2) _ 855 [.int o2.1, .int o1.1]
  refine g_icmp_eq C (pc := 855) 906 dL_law_855 (by decide) (fun _ => ?_) (fun c_855 => absurd he c_855)
  exact next o1.2 o2.2 kf1 Q1 hk1 hI'
set_option maxRecDepth 100000 in
set_option maxHeartbeats 4000000 in
theorem law_26 (x : GX) (C : GC x cL_law RL room_1) (b L i : Nat) (sv : Nat → Int32) (hX : va_X b L sv (xs x) (xs x).heap) (hbl : b < (xs x).heap.size) (hbA : ¬ xA x b) (hi : 6 * i + 6 ≤ L) (hL : L ≤ 3072) (hi512 : i < 512) (a : TA) (kf sf : Nat → Option Nat) (Q S : Nat → Nat → Nat) (c : CS) (q : Nat → Nat) (m : MD) (hk : ∀ i, i < 7 → kf i = some (Q i 0)) (hs : ∀ i, i < 2 → sf i = some (S i 0)) (hI : INV i c m) (next : ∀ (c1 : CS) (m1 : MD) (kf1 : Nat → Option Nat) (Q1 : Nat → Nat → Nat), (∀ i, i < 7 → kf1 i = some (Q1 i 0)) → INV (i + 1) c1 m1 → GW x 196 22076 (tkw (xy x) a kf1 sf Q1 S c1 ++ mdw (xy x) q m1) [(0, .ref b), (1, .ref a.1), (2, .ref (q 0)), (3, .int (nI (6 * i)))] 906 []) : GW x 196 22076 (tkw (xy x) a kf sf Q S c ++ mdw (xy x) q m) [(0, .ref b), (1, .ref a.1), (2, .ref (q 0)), (3, .int (nI (6 * i)))] 860 [] := by
  have hv1 : vp_in (nI (6 * i) + (1 : Int32)) L := hvv (j := 1) (by decide) hi hL (by decide)
  have hv2 : vp_in (nI (6 * i) + (2 : Int32)) L := hvv (j := 2) (by decide) hi hL (by decide)
  have hv3 : vp_in (nI (6 * i) + (3 : Int32)) L := hvv (j := 3) (by decide) hi hL (by decide)
  have hv4 : vp_in (nI (6 * i) + (4 : Int32)) L := hvv (j := 4) (by decide) hi hL (by decide)
  have hv5 : vp_in (nI (6 * i) + (5 : Int32)) L := hvv (j := 5) (by decide) hi hL (by decide)
  refine g_aload_n C (pc := 860) 1 dL_law_860 rfl rfl ?_
  refine g_aload_n C (pc := 861) 0 dL_law_861 rfl rfl ?_
  refine g_iload_n C (pc := 862) 3 dL_law_862 rfl rfl ?_
  refine g_iconst C (pc := 863) dL_law_863 ck_iconst_1 ?_
  refine g_iadd C (pc := 864) dL_law_864 ?_
  refine g_sld C (pc := 865) hX hbl hbA hv1 dL_law_865 ?_
  obtain ⟨o1, o2, h1, h2, he, hI'⟩ := S_save hI hi512 (sv (ix ((nI (6 * i)) + (1 : Int32))))
  refine g_callF C (pc := 866) (wc := tkw (xy x) a kf sf Q S c) (wr := mdw (xy x) q m) (b := a.1) (As := [.int (sv (ix ((nI (6 * i)) + (1 : Int32))))]) (rest := []) 0 lkX10_save lVL_128 (kC_save (xl x) (xD x) (xy x) a kf sf Q S c (sv (ix ((nI (6 * i)) + (1 : Int32)))) o1 hk hs h1) rfl ⟨⟨Nat.le_of_ble_eq_true rfl, Nat.le_of_ble_eq_true rfl⟩, ⟨rfl, rfl⟩, ⟨Nat.le_of_ble_eq_true rfl, Nat.le_of_ble_eq_true rfl⟩⟩ rfl rfl rfl (Nat.le_of_ble_eq_true rfl) dL_law_866 (fun zv zw hw => ?_)
  obtain ⟨Q1, kf1, hk1, rfl, rfl⟩ := hw
  refine g_perm List.perm_append_comm ?_
  show GW x _ _ (mdw (xy x) q m ++ tkw (xy x) a kf1 sf Q1 S o1.2) _ 869 [.int o1.1]
  refine g_aload_n C (pc := 869) 2 dL_law_869 rfl rfl ?_
  refine g_aload_n C (pc := 870) 0 dL_law_870 rfl rfl ?_
  refine g_iload_n C (pc := 871) 3 dL_law_871 rfl rfl ?_
  refine g_iconst C (pc := 872) dL_law_872 ck_iconst_1 ?_
  refine g_iadd C (pc := 873) dL_law_873 ?_
  refine g_sld C (pc := 874) hX hbl hbA hv1 dL_law_874 ?_
  refine g_callF C (pc := 875) (wc := mdw (xy x) q m) (wr := tkw (xy x) a kf1 sf Q1 S o1.2) (b := q 0) (As := [.int (sv (ix ((nI (6 * i)) + (1 : Int32))))]) (rest := [.int o1.1]) 0 lkX11_save lVL_131 (kM_save (xl x) (xD x) (xy x) q m (sv (ix ((nI (6 * i)) + (1 : Int32)))) o2 h2) rfl ⟨⟨Nat.le_of_ble_eq_true rfl, Nat.le_of_ble_eq_true rfl⟩, ⟨rfl, rfl⟩, ⟨Nat.le_of_ble_eq_true rfl, Nat.le_of_ble_eq_true rfl⟩⟩ rfl rfl rfl (Nat.le_of_ble_eq_true rfl) dL_law_875 (fun zv zw hw => ?_)
  obtain ⟨rfl, rfl⟩ := hw
  refine g_perm List.perm_append_comm ?_
  show GW x _ _ (tkw (xy x) a kf1 sf Q1 S o1.2 ++ mdw (xy x) q o2.2) _ 878 [.int o2.1, .int o1.1]
  refine g_icmp_eq C (pc := 878) 906 dL_law_878 (by decide) (fun _ => ?_) (fun c_878 => absurd he c_878)
  exact next o1.2 o2.2 kf1 Q1 hk1 hI'
set_option maxRecDepth 100000 in
set_option maxHeartbeats 4000000 in
theorem law_27 (x : GX) (C : GC x cL_law RL room_1) (b L i : Nat) (sv : Nat → Int32) (hX : va_X b L sv (xs x) (xs x).heap) (hbl : b < (xs x).heap.size) (hbA : ¬ xA x b) (hi : 6 * i + 6 ≤ L) (hL : L ≤ 3072) (hi512 : i < 512) (a : TA) (kf sf : Nat → Option Nat) (Q S : Nat → Nat → Nat) (c : CS) (q : Nat → Nat) (m : MD) (hk : ∀ i, i < 7 → kf i = some (Q i 0)) (hs : ∀ i, i < 2 → sf i = some (S i 0)) (hI : INV i c m) (next : ∀ (c1 : CS) (m1 : MD) (kf1 : Nat → Option Nat) (Q1 : Nat → Nat → Nat), (∀ i, i < 7 → kf1 i = some (Q1 i 0)) → INV (i + 1) c1 m1 → GW x 196 22076 (tkw (xy x) a kf1 sf Q1 S c1 ++ mdw (xy x) q m1) [(0, .ref b), (1, .ref a.1), (2, .ref (q 0)), (3, .int (nI (6 * i)))] 906 []) : GW x 196 22076 (tkw (xy x) a kf sf Q S c ++ mdw (xy x) q m) [(0, .ref b), (1, .ref a.1), (2, .ref (q 0)), (3, .int (nI (6 * i)))] 883 [] := by
  have hv1 : vp_in (nI (6 * i) + (1 : Int32)) L := hvv (j := 1) (by decide) hi hL (by decide)
  have hv2 : vp_in (nI (6 * i) + (2 : Int32)) L := hvv (j := 2) (by decide) hi hL (by decide)
  have hv3 : vp_in (nI (6 * i) + (3 : Int32)) L := hvv (j := 3) (by decide) hi hL (by decide)
  have hv4 : vp_in (nI (6 * i) + (4 : Int32)) L := hvv (j := 4) (by decide) hi hL (by decide)
  have hv5 : vp_in (nI (6 * i) + (5 : Int32)) L := hvv (j := 5) (by decide) hi hL (by decide)
  refine g_aload_n C (pc := 883) 1 dL_law_883 rfl rfl ?_
  refine g_aload_n C (pc := 884) 0 dL_law_884 rfl rfl ?_
  refine g_iload_n C (pc := 885) 3 dL_law_885 rfl rfl ?_
  refine g_iconst C (pc := 886) dL_law_886 ck_iconst_1 ?_
  refine g_iadd C (pc := 887) dL_law_887 ?_
  refine g_sld C (pc := 888) hX hbl hbA hv1 dL_law_888 ?_
  obtain ⟨o1, o2, h1, h2, he, hI'⟩ := S_restore hI hi512 (sv (ix ((nI (6 * i)) + (1 : Int32))))
  refine g_callF C (pc := 889) (wc := tkw (xy x) a kf sf Q S c) (wr := mdw (xy x) q m) (b := a.1) (As := [.int (sv (ix ((nI (6 * i)) + (1 : Int32))))]) (rest := []) 0 lkX10_restore lVL_132 (kC_restore (xl x) (xD x) (xy x) a kf sf Q S c (sv (ix ((nI (6 * i)) + (1 : Int32)))) o1 hk hs h1) rfl ⟨⟨Nat.le_of_ble_eq_true rfl, Nat.le_of_ble_eq_true rfl⟩, ⟨rfl, rfl⟩, ⟨Nat.le_of_ble_eq_true rfl, Nat.le_of_ble_eq_true rfl⟩⟩ rfl rfl rfl (Nat.le_of_ble_eq_true rfl) dL_law_889 (fun zv zw hw => ?_)
  obtain ⟨Q1, kf1, hk1, rfl, rfl⟩ := hw
  refine g_perm List.perm_append_comm ?_
  show GW x _ _ (mdw (xy x) q m ++ tkw (xy x) a kf1 sf Q1 S o1.2) _ 892 [.int o1.1]
  refine g_aload_n C (pc := 892) 2 dL_law_892 rfl rfl ?_
  refine g_aload_n C (pc := 893) 0 dL_law_893 rfl rfl ?_
  refine g_iload_n C (pc := 894) 3 dL_law_894 rfl rfl ?_
  refine g_iconst C (pc := 895) dL_law_895 ck_iconst_1 ?_
  refine g_iadd C (pc := 896) dL_law_896 ?_
  refine g_sld C (pc := 897) hX hbl hbA hv1 dL_law_897 ?_
  refine g_callF C (pc := 898) (wc := mdw (xy x) q m) (wr := tkw (xy x) a kf1 sf Q1 S o1.2) (b := q 0) (As := [.int (sv (ix ((nI (6 * i)) + (1 : Int32))))]) (rest := [.int o1.1]) 0 lkX11_restore lVL_135 (kM_restore (xl x) (xD x) (xy x) q m (sv (ix ((nI (6 * i)) + (1 : Int32)))) o2 h2) rfl ⟨⟨Nat.le_of_ble_eq_true rfl, Nat.le_of_ble_eq_true rfl⟩, ⟨rfl, rfl⟩, ⟨Nat.le_of_ble_eq_true rfl, Nat.le_of_ble_eq_true rfl⟩⟩ rfl rfl rfl (Nat.le_of_ble_eq_true rfl) dL_law_898 (fun zv zw hw => ?_)
  obtain ⟨rfl, rfl⟩ := hw
  refine g_perm List.perm_append_comm ?_
  show GW x _ _ (tkw (xy x) a kf1 sf Q1 S o1.2 ++ mdw (xy x) q o2.2) _ 901 [.int o2.1, .int o1.1]
  refine g_icmp_eq C (pc := 901) 906 dL_law_901 (by decide) (fun _ => ?_) (fun c_901 => absurd he c_901)
  exact next o1.2 o2.2 kf1 Q1 hk1 hI'
theorem law_sub {L : Nat} (hL : L ≤ 3072) : (Int32.ofNat L - 6).toInt = (L : Int) - 6 := pk_sub_toInt (a := L) (b := 6) (by omega) (by decide)
theorem law_gt {L i : Nat} (hL : L ≤ 3072) (h : L < 6 * i + 6 ∧ 6 * i ≤ L + 6) : Int32.ofNat L - 6 < nI (6 * i) := by
  rw [Int32.lt_iff_toInt_lt, law_sub hL, nI_toInt (by omega)]
  omega
theorem law_le {L i : Nat} (hL : L ≤ 3072) (h : 6 * i ≤ L + 6) (hc : ¬ Int32.ofNat L - 6 < nI (6 * i)) : 6 * i + 6 ≤ L := by
  rw [Int32.lt_iff_toInt_lt, law_sub hL, nI_toInt (by omega)] at hc
  omega
set_option maxRecDepth 100000 in
set_option maxHeartbeats 4000000 in
theorem law_loop (x : GX) (C : GC x cL_law RL room_1) (N : xn x = 4) (b L : Nat) (sv : Nat → Int32) (hX : va_X b L sv (xs x) (xs x).heap) (hbl : b < (xs x).heap.size) (hbA : ¬ xA x b) (hL : L ≤ 3072) (hend : ∀ (ws : va_W) (lo : List (Nat × Value)), GW x 196 22076 ws lo 912 []) (a : TA) (sf : Nat → Option Nat) (S : Nat → Nat → Nat) (q : Nat → Nat) (hs : ∀ i, i < 2 → sf i = some (S i 0)) :
    ∀ (d i : Nat), L < 6 * i + d → 6 * i ≤ L + 6 → ∀ (kf : Nat → Option Nat) (Q : Nat → Nat → Nat) (c : CS) (m : MD), (∀ i, i < 7 → kf i = some (Q i 0)) → INV i c m → GW x 196 22076 (tkw (xy x) a kf sf Q S c ++ mdw (xy x) q m) [(0, .ref b), (1, .ref a.1), (2, .ref (q 0)), (3, .int (nI (6 * i)))] 18 [] := by
  intro d
  induction d with
  | zero =>
    intro i h1 h2 kf Q c m hk hI
    refine g_iload_n C (pc := 18) 3 dL_law_18 rfl rfl ?_
    refine g_aload_n C (pc := 19) 0 dL_law_19 rfl rfl ?_
    refine g_slen C (pc := 20) hX hbl hbA dL_law_20 ?_
    refine g_bipush C (pc := 21) dL_law_21 ck_bipush_6 ?_
    refine g_isub C (pc := 23) dL_law_23 ?_
    refine g_icmp_gt C (pc := 24) 912 dL_law_24 (by decide) (fun _ => hend _ _) (fun c_24 => absurd ?_ c_24)
    exact law_gt (by omega) ⟨by omega, by omega⟩
  | succ d ih =>
    intro i h1 h2 kf Q c m hk hI
    refine g_iload_n C (pc := 18) 3 dL_law_18 rfl rfl ?_
    refine g_aload_n C (pc := 19) 0 dL_law_19 rfl rfl ?_
    refine g_slen C (pc := 20) hX hbl hbA dL_law_20 ?_
    refine g_bipush C (pc := 21) dL_law_21 ck_bipush_6 ?_
    refine g_isub C (pc := 23) dL_law_23 ?_
    refine g_icmp_gt C (pc := 24) 912 dL_law_24 (by decide) (fun _ => hend _ _) (fun c_24 => ?_)
    have hi6 : 6 * i + 6 ≤ L := law_le (by omega) (by omega) c_24
    have hi512 : i < 512 := by omega
    have next : ∀ (c1 : CS) (m1 : MD) (kf1 : Nat → Option Nat) (Q1 : Nat → Nat → Nat), (∀ i, i < 7 → kf1 i = some (Q1 i 0)) → INV (i + 1) c1 m1 → GW x 196 22076 (tkw (xy x) a kf1 sf Q1 S c1 ++ mdw (xy x) q m1) [(0, .ref b), (1, .ref a.1), (2, .ref (q 0)), (3, .int (nI (6 * i)))] 906 [] := fun c1 m1 kf1 Q1 hk1 hI1 => by
      refine g_iinc C (pc := 906) (v := nI (6 * i) + 6) (lo' := [(3, .int (nI (6 * i) + 6)), (0, .ref b), (1, .ref a.1), (2, .ref (q 0))]) 3 dL_law_906 rfl (congrArg (HAdd.hAdd _) ck_iinc_6) N rfl rfl ?_
      refine g_goto C (pc := 909) (tgt := 18) dL_law_909 (by decide) ?_
      refine g_lo [1, 2, 3, 0] rfl ?_
      rw [show nI (6 * i) + 6 = nI (6 * (i + 1)) from nI_add (6 * i) 6]
      exact ih (i + 1) (by omega) (by omega) kf1 Q1 c1 m1 hk1 hI1
    refine g_aload_n C (pc := 27) 0 dL_law_27 rfl rfl ?_
    refine g_iload_n C (pc := 28) 3 dL_law_28 rfl rfl ?_
    refine g_sld C (pc := 29) hX hbl hbA (vp_in_nI (by omega) (by omega)) dL_law_29 ?_
    refine g_bipush C (pc := 30) dL_law_30 ck_bipush_31 ?_
    refine g_iand C (pc := 32) dL_law_32 ?_
    by_cases s_0 : (sv (ix (nI (6 * i))) &&& 31) = 0
    · refine g_tsw C (pc := 33) (off := 127) 160 dL_law_33 (by rw [s_0]; decide +kernel) (by rw [s_0]; decide +kernel) (by rw [s_0] <;> rfl) (by decide) ?_
      exact law_0 x C b L i sv hX hbl hbA hi6 hL hi512 a kf sf Q S c q m hk hs hI next
    by_cases s_1 : (sv (ix (nI (6 * i))) &&& 31) = 1
    · refine g_tsw C (pc := 33) (off := 170) 203 dL_law_33 (by rw [s_1]; decide +kernel) (by rw [s_1]; decide +kernel) (by rw [s_1] <;> rfl) (by decide) ?_
      exact law_1 x C b L i sv hX hbl hbA hi6 hL hi512 a kf sf Q S c q m hk hs hI next
    by_cases s_2 : (sv (ix (nI (6 * i))) &&& 31) = 2
    · refine g_tsw C (pc := 33) (off := 193) 226 dL_law_33 (by rw [s_2]; decide +kernel) (by rw [s_2]; decide +kernel) (by rw [s_2] <;> rfl) (by decide) ?_
      exact law_2 x C b L i sv hX hbl hbA hi6 hL hi512 a kf sf Q S c q m hk hs hI next
    by_cases s_3 : (sv (ix (nI (6 * i))) &&& 31) = 3
    · refine g_tsw C (pc := 33) (off := 256) 289 dL_law_33 (by rw [s_3]; decide +kernel) (by rw [s_3]; decide +kernel) (by rw [s_3] <;> rfl) (by decide) ?_
      exact law_3 x C b L i sv hX hbl hbA hi6 hL hi512 a kf sf Q S c q m hk hs hI next
    by_cases s_4 : (sv (ix (nI (6 * i))) &&& 31) = 4
    · refine g_tsw C (pc := 33) (off := 279) 312 dL_law_33 (by rw [s_4]; decide +kernel) (by rw [s_4]; decide +kernel) (by rw [s_4] <;> rfl) (by decide) ?_
      exact law_4 x C b L i sv hX hbl hbA hi6 hL hi512 a kf sf Q S c q m hk hs hI next
    by_cases s_5 : (sv (ix (nI (6 * i))) &&& 31) = 5
    · refine g_tsw C (pc := 33) (off := 302) 335 dL_law_33 (by rw [s_5]; decide +kernel) (by rw [s_5]; decide +kernel) (by rw [s_5] <;> rfl) (by decide) ?_
      exact law_5 x C b L i sv hX hbl hbA hi6 hL hi512 a kf sf Q S c q m hk hs hI next
    by_cases s_6 : (sv (ix (nI (6 * i))) &&& 31) = 6
    · refine g_tsw C (pc := 33) (off := 325) 358 dL_law_33 (by rw [s_6]; decide +kernel) (by rw [s_6]; decide +kernel) (by rw [s_6] <;> rfl) (by decide) ?_
      exact law_6 x C b L i sv hX hbl hbA hi6 hL hi512 a kf sf Q S c q m hk hs hI next
    by_cases s_7 : (sv (ix (nI (6 * i))) &&& 31) = 7
    · refine g_tsw C (pc := 33) (off := 358) 391 dL_law_33 (by rw [s_7]; decide +kernel) (by rw [s_7]; decide +kernel) (by rw [s_7] <;> rfl) (by decide) ?_
      exact law_7 x C b L i sv hX hbl hbA hi6 hL hi512 a kf sf Q S c q m hk hs hI next
    by_cases s_8 : (sv (ix (nI (6 * i))) &&& 31) = 8
    · refine g_tsw C (pc := 33) (off := 371) 404 dL_law_33 (by rw [s_8]; decide +kernel) (by rw [s_8]; decide +kernel) (by rw [s_8] <;> rfl) (by decide) ?_
      exact law_8 x C b L i sv hX hbl hbA hi6 hL hi512 a kf sf Q S c q m hk hs hI next
    by_cases s_9 : (sv (ix (nI (6 * i))) &&& 31) = 9
    · refine g_tsw C (pc := 33) (off := 384) 417 dL_law_33 (by rw [s_9]; decide +kernel) (by rw [s_9]; decide +kernel) (by rw [s_9] <;> rfl) (by decide) ?_
      exact law_9 x C b L i sv hX hbl hbA hi6 hL hi512 a kf sf Q S c q m hk hs hI next
    by_cases s_10 : (sv (ix (nI (6 * i))) &&& 31) = 10
    · refine g_tsw C (pc := 33) (off := 437) 470 dL_law_33 (by rw [s_10]; decide +kernel) (by rw [s_10]; decide +kernel) (by rw [s_10] <;> rfl) (by decide) ?_
      exact law_10 x C b L i sv hX hbl hbA hi6 hL hi512 a kf sf Q S c q m hk hs hI next
    by_cases s_11 : (sv (ix (nI (6 * i))) &&& 31) = 11
    · refine g_tsw C (pc := 33) (off := 470) 503 dL_law_33 (by rw [s_11]; decide +kernel) (by rw [s_11]; decide +kernel) (by rw [s_11] <;> rfl) (by decide) ?_
      exact law_11 x C b L i sv hX hbl hbA hi6 hL hi512 a kf sf Q S c q m hk hs hI next
    by_cases s_12 : (sv (ix (nI (6 * i))) &&& 31) = 12
    · refine g_tsw C (pc := 33) (off := 503) 536 dL_law_33 (by rw [s_12]; decide +kernel) (by rw [s_12]; decide +kernel) (by rw [s_12] <;> rfl) (by decide) ?_
      exact law_12 x C b L i sv hX hbl hbA hi6 hL hi512 a kf sf Q S c q m hk hs hI next
    by_cases s_13 : (sv (ix (nI (6 * i))) &&& 31) = 13
    · refine g_tsw C (pc := 33) (off := 536) 569 dL_law_33 (by rw [s_13]; decide +kernel) (by rw [s_13]; decide +kernel) (by rw [s_13] <;> rfl) (by decide) ?_
      exact law_13 x C b L i sv hX hbl hbA hi6 hL hi512 a kf sf Q S c q m hk hs hI next
    by_cases s_14 : (sv (ix (nI (6 * i))) &&& 31) = 14
    · refine g_tsw C (pc := 33) (off := 569) 602 dL_law_33 (by rw [s_14]; decide +kernel) (by rw [s_14]; decide +kernel) (by rw [s_14] <;> rfl) (by decide) ?_
      exact law_14 x C b L i sv hX hbl hbA hi6 hL hi512 a kf sf Q S c q m hk hs hI next
    by_cases s_15 : (sv (ix (nI (6 * i))) &&& 31) = 15
    · refine g_tsw C (pc := 33) (off := 592) 625 dL_law_33 (by rw [s_15]; decide +kernel) (by rw [s_15]; decide +kernel) (by rw [s_15] <;> rfl) (by decide) ?_
      exact law_15 x C b L i sv hX hbl hbA hi6 hL hi512 a kf sf Q S c q m hk hs hI next
    by_cases s_16 : (sv (ix (nI (6 * i))) &&& 31) = 16
    · refine g_tsw C (pc := 33) (off := 615) 648 dL_law_33 (by rw [s_16]; decide +kernel) (by rw [s_16]; decide +kernel) (by rw [s_16] <;> rfl) (by decide) ?_
      exact law_16 x C b L i sv hX hbl hbA hi6 hL hi512 a kf sf Q S c q m hk hs hI next
    by_cases s_17 : (sv (ix (nI (6 * i))) &&& 31) = 17
    · refine g_tsw C (pc := 33) (off := 638) 671 dL_law_33 (by rw [s_17]; decide +kernel) (by rw [s_17]; decide +kernel) (by rw [s_17] <;> rfl) (by decide) ?_
      exact law_17 x C b L i sv hX hbl hbA hi6 hL hi512 a kf sf Q S c q m hk hs hI next
    by_cases s_18 : (sv (ix (nI (6 * i))) &&& 31) = 18
    · refine g_tsw C (pc := 33) (off := 661) 694 dL_law_33 (by rw [s_18]; decide +kernel) (by rw [s_18]; decide +kernel) (by rw [s_18] <;> rfl) (by decide) ?_
      exact law_18 x C b L i sv hX hbl hbA hi6 hL hi512 a kf sf Q S c q m hk hs hI next
    by_cases s_19 : (sv (ix (nI (6 * i))) &&& 31) = 19
    · refine g_tsw C (pc := 33) (off := 684) 717 dL_law_33 (by rw [s_19]; decide +kernel) (by rw [s_19]; decide +kernel) (by rw [s_19] <;> rfl) (by decide) ?_
      exact law_19 x C b L i sv hX hbl hbA hi6 hL hi512 a kf sf Q S c q m hk hs hI next
    by_cases s_20 : (sv (ix (nI (6 * i))) &&& 31) = 20
    · refine g_tsw C (pc := 33) (off := 698) 731 dL_law_33 (by rw [s_20]; decide +kernel) (by rw [s_20]; decide +kernel) (by rw [s_20] <;> rfl) (by decide) ?_
      exact law_20 x C b L i sv hX hbl hbA hi6 hL hi512 a kf sf Q S c q m hk hs hI next
    by_cases s_21 : (sv (ix (nI (6 * i))) &&& 31) = 21
    · refine g_tsw C (pc := 33) (off := 722) 755 dL_law_33 (by rw [s_21]; decide +kernel) (by rw [s_21]; decide +kernel) (by rw [s_21] <;> rfl) (by decide) ?_
      exact law_21 x C b L i sv hX hbl hbA hi6 hL hi512 a kf sf Q S c q m hk hs hI next
    by_cases s_22 : (sv (ix (nI (6 * i))) &&& 31) = 22
    · refine g_tsw C (pc := 33) (off := 775) 808 dL_law_33 (by rw [s_22]; decide +kernel) (by rw [s_22]; decide +kernel) (by rw [s_22] <;> rfl) (by decide) ?_
      exact law_22 x C b L i sv hX hbl hbA hi6 hL hi512 a kf sf Q S c q m hk hs hI next
    by_cases s_23 : (sv (ix (nI (6 * i))) &&& 31) = 23
    · refine g_tsw C (pc := 33) (off := 788) 821 dL_law_33 (by rw [s_23]; decide +kernel) (by rw [s_23]; decide +kernel) (by rw [s_23] <;> rfl) (by decide) ?_
      exact law_23 x C b L i sv hX hbl hbA hi6 hL hi512 a kf sf Q S c q m hk hs hI next
    by_cases s_24 : (sv (ix (nI (6 * i))) &&& 31) = 24
    · refine g_tsw C (pc := 33) (off := 801) 834 dL_law_33 (by rw [s_24]; decide +kernel) (by rw [s_24]; decide +kernel) (by rw [s_24] <;> rfl) (by decide) ?_
      exact law_24 x C b L i sv hX hbl hbA hi6 hL hi512 a kf sf Q S c q m hk hs hI next
    by_cases s_25 : (sv (ix (nI (6 * i))) &&& 31) = 25
    · refine g_tsw C (pc := 33) (off := 814) 847 dL_law_33 (by rw [s_25]; decide +kernel) (by rw [s_25]; decide +kernel) (by rw [s_25] <;> rfl) (by decide) ?_
      exact law_25 x C b L i sv hX hbl hbA hi6 hL hi512 a kf sf Q S c q m hk hs hI next
    by_cases s_26 : (sv (ix (nI (6 * i))) &&& 31) = 26
    · refine g_tsw C (pc := 33) (off := 827) 860 dL_law_33 (by rw [s_26]; decide +kernel) (by rw [s_26]; decide +kernel) (by rw [s_26] <;> rfl) (by decide) ?_
      exact law_26 x C b L i sv hX hbl hbA hi6 hL hi512 a kf sf Q S c q m hk hs hI next
    by_cases s_27 : (sv (ix (nI (6 * i))) &&& 31) = 27
    · refine g_tsw C (pc := 33) (off := 850) 883 dL_law_33 (by rw [s_27]; decide +kernel) (by rw [s_27]; decide +kernel) (by rw [s_27] <;> rfl) (by decide) ?_
      exact law_27 x C b L i sv hX hbl hbA hi6 hL hi512 a kf sf Q S c q m hk hs hI next
    refine g_tswD C (pc := 33) 906 dL_law_33 (tsw_out [0, 1, 2, 3, 4, 5, 6, 7, 8, 9, 10, 11, 12, 13, 14, 15, 16, 17, 18, 19, 20, 21, 22, 23, 24, 25, 26, 27] (by decide +kernel) (by decide) (List.forall_mem_cons.mpr ⟨s_0, List.forall_mem_cons.mpr ⟨s_1, List.forall_mem_cons.mpr ⟨s_2, List.forall_mem_cons.mpr ⟨s_3, List.forall_mem_cons.mpr ⟨s_4, List.forall_mem_cons.mpr ⟨s_5, List.forall_mem_cons.mpr ⟨s_6, List.forall_mem_cons.mpr ⟨s_7, List.forall_mem_cons.mpr ⟨s_8, List.forall_mem_cons.mpr ⟨s_9, List.forall_mem_cons.mpr ⟨s_10, List.forall_mem_cons.mpr ⟨s_11, List.forall_mem_cons.mpr ⟨s_12, List.forall_mem_cons.mpr ⟨s_13, List.forall_mem_cons.mpr ⟨s_14, List.forall_mem_cons.mpr ⟨s_15, List.forall_mem_cons.mpr ⟨s_16, List.forall_mem_cons.mpr ⟨s_17, List.forall_mem_cons.mpr ⟨s_18, List.forall_mem_cons.mpr ⟨s_19, List.forall_mem_cons.mpr ⟨s_20, List.forall_mem_cons.mpr ⟨s_21, List.forall_mem_cons.mpr ⟨s_22, List.forall_mem_cons.mpr ⟨s_23, List.forall_mem_cons.mpr ⟨s_24, List.forall_mem_cons.mpr ⟨s_25, List.forall_mem_cons.mpr ⟨s_26, List.forall_mem_cons.mpr ⟨s_27, fun _ h => absurd h List.not_mem_nil⟩⟩⟩⟩⟩⟩⟩⟩⟩⟩⟩⟩⟩⟩⟩⟩⟩⟩⟩⟩⟩⟩⟩⟩⟩⟩⟩⟩)) (by decide) ?_
    exact next c m kf Q hk hI.up
