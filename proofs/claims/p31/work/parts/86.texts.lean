def rmL_texts : Room := { frames := 9, cells := 5610, slots := 269940, locals := 197 }
set_option maxRecDepth 100000 in
def fL_texts  : Option (Int32) :=
  bd (fL_faultOf (0 : Int64) (0 : Int64)) fun y_2 : Int32 => if y_2 = 0 then bd (fL_faultOf (99 : Int64) (0 : Int64)) fun y_12 : Int32 => if y_12 = (1 : Int32) then bd (fL_faultOf (25386 : Int64) (0 : Int64)) fun y_23 : Int32 => if y_23 = (-6 : Int32) then bd (fL_faultOf (25441 : Int64) (0 : Int64)) fun y_35 : Int32 => if y_35 = (2 : Int32) then bd (fL_faultOf (6512957 : Int64) (0 : Int64)) fun y_46 : Int32 => if y_46 = (3 : Int32) then bd (fL_faultOf (1667317048 : Int64) (0 : Int64)) fun y_57 : Int32 => if y_57 = (3 : Int32) then bd (fL_faultOf (1667317043 : Int64) (0 : Int64)) fun y_68 : Int32 => if y_68 = (-6 : Int32) then bd (fL_faultOf (1667317090 : Int64) (0 : Int64)) fun y_80 : Int32 => if y_80 = (-6 : Int32) then bd (fL_faultOf (426833175083 : Int64) (0 : Int64)) fun y_92 : Int32 => if y_92 = (5 : Int32) then bd (fL_faultOf (109269292821815 : Int64) (0 : Int64)) fun y_103 : Int32 => if y_103 = (-6 : Int32) then bd (fL_faultOf (1667317346 : Int64) (0 : Int64)) fun y_115 : Int32 => if y_115 = (3 : Int32) then bd (fL_faultOf (1667311155 : Int64) (0 : Int64)) fun y_126 : Int32 => if y_126 = (3 : Int32) then bd (fL_faultOf (1667311202 : Int64) (0 : Int64)) fun y_137 : Int32 => if y_137 = (4 : Int32) then bd (fL_faultOf (426831667763 : Int64) (0 : Int64)) fun y_148 : Int32 => if y_148 = (-6 : Int32) then bd (fL_faultOf (426831602489 : Int64) (0 : Int64)) fun y_160 : Int32 => if y_160 = (4 : Int32) then bd (fL_faultOf (1935752497 : Int64) (0 : Int64)) fun y_173 : Int32 => if y_173 = (4 : Int32) then bd (fL_faultOf (1932147297 : Int64) (0 : Int64)) fun y_184 : Int32 => if y_184 = (4 : Int32) then bd (fL_faultOf (126625205271857 : Int64) (0 : Int64)) fun y_195 : Int32 => if y_195 = (-6 : Int32) then bd (fL_faultOf (126625205288545 : Int64) (0 : Int64)) fun y_207 : Int32 => if y_207 = (-6 : Int32) then bd (fL_faultOf (8298509452699642680 : Int64) (0 : Int64)) fun y_219 : Int32 => if y_219 = (7 : Int32) then bd (fL_faultOf (126625205264689 : Int64) (0 : Int64)) fun y_231 : Int32 => if y_231 = (4 : Int32) then bd (fL_faultOf (29233 : Int64) (0 : Int64)) fun y_242 : Int32 => if y_242 = (2 : Int32) then bd (fL_faultOf (490434800178 : Int64) (0 : Int64)) fun y_253 : Int32 => if y_253 = (2 : Int32) then bd (fL_faultOf (32142230381668914 : Int64) (0 : Int64)) fun y_264 : Int32 => if y_264 = (4 : Int32) then bd (fL_faultOf (8230672711680604473 : Int64) (0 : Int64)) fun y_275 : Int32 => if y_275 = (-6 : Int32) then bd (fL_faultOf (27451 : Int64) (0 : Int64)) fun y_287 : Int32 => if y_287 = (2 : Int32) then bd (fL_faultOf (27499 : Int64) (0 : Int64)) fun y_298 : Int32 => if y_298 = (1 : Int32) then bd (fL_faultOf (7027576 : Int64) (0 : Int64)) fun y_309 : Int32 => if y_309 = (2 : Int32) then bd (fL_faultOf (109269276048235 : Int64) (0 : Int64)) fun y_320 : Int32 => if y_320 = (-6 : Int32) then bd (fL_faultOf (6498859 : Int64) (0 : Int64)) fun y_332 : Int32 => if y_332 = (2 : Int32) then some (1 : Int32) else some (0 : Int32) else some (0 : Int32) else some (0 : Int32) else some (0 : Int32) else some (0 : Int32) else some (0 : Int32) else some (0 : Int32) else some (0 : Int32) else some (0 : Int32) else some (0 : Int32) else some (0 : Int32) else some (0 : Int32) else some (0 : Int32) else some (0 : Int32) else some (0 : Int32) else some (0 : Int32) else some (0 : Int32) else some (0 : Int32) else some (0 : Int32) else some (0 : Int32) else some (0 : Int32) else some (0 : Int32) else some (0 : Int32) else some (0 : Int32) else some (0 : Int32) else some (0 : Int32) else some (0 : Int32) else some (0 : Int32) else some (0 : Int32) else some (0 : Int32)
set_option maxRecDepth 100000 in
set_option maxHeartbeats 4000000 in
theorem eL_texts (x : GX) (C : GC x cL_texts RL rmL_texts) (N : xn x = 0)  (o : Int32) (E : GE x (some .boolean) 5610 269940 (fun zv _ => zv = some ((.int o)))) (hf : fL_texts  = some o)  : GW x 0 0 [] [] 0 [] := by
  unfold fL_texts at hf
  refine g_lconst C (pc := 0) (v := 0) dL_texts_0 rfl ?_
  refine g_lconst C (pc := 1) (v := 0) dL_texts_1 rfl ?_
  obtain ⟨y_2, h_2, hf⟩ := k_bd hf
  refine g_callN C (pc := 2) (mc := 187) (ms := 8998) (As := [.long (0 : Int64), .long (0 : Int64)]) (rest := []) (v1 := .int y_2) (st' := [.int y_2]) lkL_faultOf lSL_142 (cL_faultOf_k (xl x) (xD x) (xy x) (0 : Int64) (0 : Int64) y_2 h_2) rfl ⟨⟨Nat.le_of_ble_eq_true rfl, Nat.le_of_ble_eq_true rfl⟩, ⟨rfl, rfl⟩, ⟨Nat.le_of_ble_eq_true rfl, Nat.le_of_ble_eq_true rfl⟩⟩ rfl (Nat.le_of_ble_eq_true rfl) rfl dL_texts_2 ?_
  show GW x 187 8998 [] _ 5 [.int y_2]
  refine g_if_ne C (pc := 5) 167 dL_texts_5 (by decide) (fun c_5 => ?_) (fun c_5 => ?_)
  · replace hf := (k_if hf).2 c_5
    refine g_iconst C (pc := 167) dL_texts_167 ck_iconst_0 ?_
    cases hf
    exact g_wid (Nat.le_of_ble_eq_true rfl) (Nat.le_of_ble_eq_true rfl) (g_zret C E rfl (pc := 168) dL_texts_168 rfl)
  · replace hf := (k_if hf).1 c_5
    refine g_ldc2 C (pc := 8) lcL_146 dL_texts_8 ?_
    refine g_lconst C (pc := 11) (v := 0) dL_texts_11 rfl ?_
    obtain ⟨y_12, h_12, hf⟩ := k_bd hf
    refine g_callN C (pc := 12) (mc := 187) (ms := 8998) (As := [.long (99 : Int64), .long (0 : Int64)]) (rest := []) (v1 := .int y_12) (st' := [.int y_12]) lkL_faultOf lSL_142 (cL_faultOf_k (xl x) (xD x) (xy x) (99 : Int64) (0 : Int64) y_12 h_12) rfl ⟨⟨Nat.le_of_ble_eq_true rfl, Nat.le_of_ble_eq_true rfl⟩, ⟨rfl, rfl⟩, ⟨Nat.le_of_ble_eq_true rfl, Nat.le_of_ble_eq_true rfl⟩⟩ rfl (Nat.le_of_ble_eq_true rfl) rfl dL_texts_12 ?_
    show GW x 374 17996 [] _ 15 [.int y_12]
    refine g_iconst C (pc := 15) dL_texts_15 ck_iconst_1 ?_
    refine g_icmp_ne C (pc := 16) 167 dL_texts_16 (by decide) (fun c_16 => ?_) (fun c_16 => ?_)
    · replace hf := (k_if hf).2 c_16
      refine g_iconst C (pc := 167) dL_texts_167 ck_iconst_0 ?_
      cases hf
      exact g_wid (Nat.le_of_ble_eq_true rfl) (Nat.le_of_ble_eq_true rfl) (g_zret C E rfl (pc := 168) dL_texts_168 rfl)
    · replace hf := (k_if hf).1 c_16
      refine g_ldc2 C (pc := 19) lcL_148 dL_texts_19 ?_
      refine g_lconst C (pc := 22) (v := 0) dL_texts_22 rfl ?_
      obtain ⟨y_23, h_23, hf⟩ := k_bd hf
      refine g_callN C (pc := 23) (mc := 187) (ms := 8998) (As := [.long (25386 : Int64), .long (0 : Int64)]) (rest := []) (v1 := .int y_23) (st' := [.int y_23]) lkL_faultOf lSL_142 (cL_faultOf_k (xl x) (xD x) (xy x) (25386 : Int64) (0 : Int64) y_23 h_23) rfl ⟨⟨Nat.le_of_ble_eq_true rfl, Nat.le_of_ble_eq_true rfl⟩, ⟨rfl, rfl⟩, ⟨Nat.le_of_ble_eq_true rfl, Nat.le_of_ble_eq_true rfl⟩⟩ rfl (Nat.le_of_ble_eq_true rfl) rfl dL_texts_23 ?_
      show GW x 561 26994 [] _ 26 [.int y_23]
      refine g_bipush C (pc := 26) dL_texts_26 ck_bipush_m6 ?_
      refine g_icmp_ne C (pc := 28) 167 dL_texts_28 (by decide) (fun c_28 => ?_) (fun c_28 => ?_)
      · replace hf := (k_if hf).2 c_28
        refine g_iconst C (pc := 167) dL_texts_167 ck_iconst_0 ?_
        cases hf
        exact g_wid (Nat.le_of_ble_eq_true rfl) (Nat.le_of_ble_eq_true rfl) (g_zret C E rfl (pc := 168) dL_texts_168 rfl)
      · replace hf := (k_if hf).1 c_28
        refine g_ldc2 C (pc := 31) lcL_150 dL_texts_31 ?_
        refine g_lconst C (pc := 34) (v := 0) dL_texts_34 rfl ?_
        obtain ⟨y_35, h_35, hf⟩ := k_bd hf
        refine g_callN C (pc := 35) (mc := 187) (ms := 8998) (As := [.long (25441 : Int64), .long (0 : Int64)]) (rest := []) (v1 := .int y_35) (st' := [.int y_35]) lkL_faultOf lSL_142 (cL_faultOf_k (xl x) (xD x) (xy x) (25441 : Int64) (0 : Int64) y_35 h_35) rfl ⟨⟨Nat.le_of_ble_eq_true rfl, Nat.le_of_ble_eq_true rfl⟩, ⟨rfl, rfl⟩, ⟨Nat.le_of_ble_eq_true rfl, Nat.le_of_ble_eq_true rfl⟩⟩ rfl (Nat.le_of_ble_eq_true rfl) rfl dL_texts_35 ?_
        show GW x 748 35992 [] _ 38 [.int y_35]
        refine g_iconst C (pc := 38) dL_texts_38 ck_iconst_2 ?_
        refine g_icmp_ne C (pc := 39) 167 dL_texts_39 (by decide) (fun c_39 => ?_) (fun c_39 => ?_)
        · replace hf := (k_if hf).2 c_39
          refine g_iconst C (pc := 167) dL_texts_167 ck_iconst_0 ?_
          cases hf
          exact g_wid (Nat.le_of_ble_eq_true rfl) (Nat.le_of_ble_eq_true rfl) (g_zret C E rfl (pc := 168) dL_texts_168 rfl)
        · replace hf := (k_if hf).1 c_39
          refine g_ldc2 C (pc := 42) lcL_152 dL_texts_42 ?_
          refine g_lconst C (pc := 45) (v := 0) dL_texts_45 rfl ?_
          obtain ⟨y_46, h_46, hf⟩ := k_bd hf
          refine g_callN C (pc := 46) (mc := 187) (ms := 8998) (As := [.long (6512957 : Int64), .long (0 : Int64)]) (rest := []) (v1 := .int y_46) (st' := [.int y_46]) lkL_faultOf lSL_142 (cL_faultOf_k (xl x) (xD x) (xy x) (6512957 : Int64) (0 : Int64) y_46 h_46) rfl ⟨⟨Nat.le_of_ble_eq_true rfl, Nat.le_of_ble_eq_true rfl⟩, ⟨rfl, rfl⟩, ⟨Nat.le_of_ble_eq_true rfl, Nat.le_of_ble_eq_true rfl⟩⟩ rfl (Nat.le_of_ble_eq_true rfl) rfl dL_texts_46 ?_
          show GW x 935 44990 [] _ 49 [.int y_46]
          refine g_iconst C (pc := 49) dL_texts_49 ck_iconst_3 ?_
          refine g_icmp_ne C (pc := 50) 167 dL_texts_50 (by decide) (fun c_50 => ?_) (fun c_50 => ?_)
          · replace hf := (k_if hf).2 c_50
            refine g_iconst C (pc := 167) dL_texts_167 ck_iconst_0 ?_
            cases hf
            exact g_wid (Nat.le_of_ble_eq_true rfl) (Nat.le_of_ble_eq_true rfl) (g_zret C E rfl (pc := 168) dL_texts_168 rfl)
          · replace hf := (k_if hf).1 c_50
            refine g_ldc2 C (pc := 53) lcL_154 dL_texts_53 ?_
            refine g_lconst C (pc := 56) (v := 0) dL_texts_56 rfl ?_
            obtain ⟨y_57, h_57, hf⟩ := k_bd hf
            refine g_callN C (pc := 57) (mc := 187) (ms := 8998) (As := [.long (1667317048 : Int64), .long (0 : Int64)]) (rest := []) (v1 := .int y_57) (st' := [.int y_57]) lkL_faultOf lSL_142 (cL_faultOf_k (xl x) (xD x) (xy x) (1667317048 : Int64) (0 : Int64) y_57 h_57) rfl ⟨⟨Nat.le_of_ble_eq_true rfl, Nat.le_of_ble_eq_true rfl⟩, ⟨rfl, rfl⟩, ⟨Nat.le_of_ble_eq_true rfl, Nat.le_of_ble_eq_true rfl⟩⟩ rfl (Nat.le_of_ble_eq_true rfl) rfl dL_texts_57 ?_
            show GW x 1122 53988 [] _ 60 [.int y_57]
            refine g_iconst C (pc := 60) dL_texts_60 ck_iconst_3 ?_
            refine g_icmp_ne C (pc := 61) 167 dL_texts_61 (by decide) (fun c_61 => ?_) (fun c_61 => ?_)
            · replace hf := (k_if hf).2 c_61
              refine g_iconst C (pc := 167) dL_texts_167 ck_iconst_0 ?_
              cases hf
              exact g_wid (Nat.le_of_ble_eq_true rfl) (Nat.le_of_ble_eq_true rfl) (g_zret C E rfl (pc := 168) dL_texts_168 rfl)
            · replace hf := (k_if hf).1 c_61
              refine g_ldc2 C (pc := 64) lcL_156 dL_texts_64 ?_
              refine g_lconst C (pc := 67) (v := 0) dL_texts_67 rfl ?_
              obtain ⟨y_68, h_68, hf⟩ := k_bd hf
              refine g_callN C (pc := 68) (mc := 187) (ms := 8998) (As := [.long (1667317043 : Int64), .long (0 : Int64)]) (rest := []) (v1 := .int y_68) (st' := [.int y_68]) lkL_faultOf lSL_142 (cL_faultOf_k (xl x) (xD x) (xy x) (1667317043 : Int64) (0 : Int64) y_68 h_68) rfl ⟨⟨Nat.le_of_ble_eq_true rfl, Nat.le_of_ble_eq_true rfl⟩, ⟨rfl, rfl⟩, ⟨Nat.le_of_ble_eq_true rfl, Nat.le_of_ble_eq_true rfl⟩⟩ rfl (Nat.le_of_ble_eq_true rfl) rfl dL_texts_68 ?_
              show GW x 1309 62986 [] _ 71 [.int y_68]
              refine g_bipush C (pc := 71) dL_texts_71 ck_bipush_m6 ?_
              refine g_icmp_ne C (pc := 73) 167 dL_texts_73 (by decide) (fun c_73 => ?_) (fun c_73 => ?_)
              · replace hf := (k_if hf).2 c_73
                refine g_iconst C (pc := 167) dL_texts_167 ck_iconst_0 ?_
                cases hf
                exact g_wid (Nat.le_of_ble_eq_true rfl) (Nat.le_of_ble_eq_true rfl) (g_zret C E rfl (pc := 168) dL_texts_168 rfl)
              · replace hf := (k_if hf).1 c_73
                refine g_ldc2 C (pc := 76) lcL_158 dL_texts_76 ?_
                refine g_lconst C (pc := 79) (v := 0) dL_texts_79 rfl ?_
                obtain ⟨y_80, h_80, hf⟩ := k_bd hf
                refine g_callN C (pc := 80) (mc := 187) (ms := 8998) (As := [.long (1667317090 : Int64), .long (0 : Int64)]) (rest := []) (v1 := .int y_80) (st' := [.int y_80]) lkL_faultOf lSL_142 (cL_faultOf_k (xl x) (xD x) (xy x) (1667317090 : Int64) (0 : Int64) y_80 h_80) rfl ⟨⟨Nat.le_of_ble_eq_true rfl, Nat.le_of_ble_eq_true rfl⟩, ⟨rfl, rfl⟩, ⟨Nat.le_of_ble_eq_true rfl, Nat.le_of_ble_eq_true rfl⟩⟩ rfl (Nat.le_of_ble_eq_true rfl) rfl dL_texts_80 ?_
                show GW x 1496 71984 [] _ 83 [.int y_80]
                refine g_bipush C (pc := 83) dL_texts_83 ck_bipush_m6 ?_
                refine g_icmp_ne C (pc := 85) 167 dL_texts_85 (by decide) (fun c_85 => ?_) (fun c_85 => ?_)
                · replace hf := (k_if hf).2 c_85
                  refine g_iconst C (pc := 167) dL_texts_167 ck_iconst_0 ?_
                  cases hf
                  exact g_wid (Nat.le_of_ble_eq_true rfl) (Nat.le_of_ble_eq_true rfl) (g_zret C E rfl (pc := 168) dL_texts_168 rfl)
                · replace hf := (k_if hf).1 c_85
                  refine g_ldc2 C (pc := 88) lcL_160 dL_texts_88 ?_
                  refine g_lconst C (pc := 91) (v := 0) dL_texts_91 rfl ?_
                  obtain ⟨y_92, h_92, hf⟩ := k_bd hf
                  refine g_callN C (pc := 92) (mc := 187) (ms := 8998) (As := [.long (426833175083 : Int64), .long (0 : Int64)]) (rest := []) (v1 := .int y_92) (st' := [.int y_92]) lkL_faultOf lSL_142 (cL_faultOf_k (xl x) (xD x) (xy x) (426833175083 : Int64) (0 : Int64) y_92 h_92) rfl ⟨⟨Nat.le_of_ble_eq_true rfl, Nat.le_of_ble_eq_true rfl⟩, ⟨rfl, rfl⟩, ⟨Nat.le_of_ble_eq_true rfl, Nat.le_of_ble_eq_true rfl⟩⟩ rfl (Nat.le_of_ble_eq_true rfl) rfl dL_texts_92 ?_
                  show GW x 1683 80982 [] _ 95 [.int y_92]
                  refine g_iconst C (pc := 95) dL_texts_95 ck_iconst_5 ?_
                  refine g_icmp_ne C (pc := 96) 167 dL_texts_96 (by decide) (fun c_96 => ?_) (fun c_96 => ?_)
                  · replace hf := (k_if hf).2 c_96
                    refine g_iconst C (pc := 167) dL_texts_167 ck_iconst_0 ?_
                    cases hf
                    exact g_wid (Nat.le_of_ble_eq_true rfl) (Nat.le_of_ble_eq_true rfl) (g_zret C E rfl (pc := 168) dL_texts_168 rfl)
                  · replace hf := (k_if hf).1 c_96
                    refine g_ldc2 C (pc := 99) lcL_162 dL_texts_99 ?_
                    refine g_lconst C (pc := 102) (v := 0) dL_texts_102 rfl ?_
                    obtain ⟨y_103, h_103, hf⟩ := k_bd hf
                    refine g_callN C (pc := 103) (mc := 187) (ms := 8998) (As := [.long (109269292821815 : Int64), .long (0 : Int64)]) (rest := []) (v1 := .int y_103) (st' := [.int y_103]) lkL_faultOf lSL_142 (cL_faultOf_k (xl x) (xD x) (xy x) (109269292821815 : Int64) (0 : Int64) y_103 h_103) rfl ⟨⟨Nat.le_of_ble_eq_true rfl, Nat.le_of_ble_eq_true rfl⟩, ⟨rfl, rfl⟩, ⟨Nat.le_of_ble_eq_true rfl, Nat.le_of_ble_eq_true rfl⟩⟩ rfl (Nat.le_of_ble_eq_true rfl) rfl dL_texts_103 ?_
                    show GW x 1870 89980 [] _ 106 [.int y_103]
                    refine g_bipush C (pc := 106) dL_texts_106 ck_bipush_m6 ?_
                    refine g_icmp_ne C (pc := 108) 167 dL_texts_108 (by decide) (fun c_108 => ?_) (fun c_108 => ?_)
                    · replace hf := (k_if hf).2 c_108
                      refine g_iconst C (pc := 167) dL_texts_167 ck_iconst_0 ?_
                      cases hf
                      exact g_wid (Nat.le_of_ble_eq_true rfl) (Nat.le_of_ble_eq_true rfl) (g_zret C E rfl (pc := 168) dL_texts_168 rfl)
                    · replace hf := (k_if hf).1 c_108
                      refine g_ldc2 C (pc := 111) lcL_164 dL_texts_111 ?_
                      refine g_lconst C (pc := 114) (v := 0) dL_texts_114 rfl ?_
                      obtain ⟨y_115, h_115, hf⟩ := k_bd hf
                      refine g_callN C (pc := 115) (mc := 187) (ms := 8998) (As := [.long (1667317346 : Int64), .long (0 : Int64)]) (rest := []) (v1 := .int y_115) (st' := [.int y_115]) lkL_faultOf lSL_142 (cL_faultOf_k (xl x) (xD x) (xy x) (1667317346 : Int64) (0 : Int64) y_115 h_115) rfl ⟨⟨Nat.le_of_ble_eq_true rfl, Nat.le_of_ble_eq_true rfl⟩, ⟨rfl, rfl⟩, ⟨Nat.le_of_ble_eq_true rfl, Nat.le_of_ble_eq_true rfl⟩⟩ rfl (Nat.le_of_ble_eq_true rfl) rfl dL_texts_115 ?_
                      show GW x 2057 98978 [] _ 118 [.int y_115]
                      refine g_iconst C (pc := 118) dL_texts_118 ck_iconst_3 ?_
                      refine g_icmp_ne C (pc := 119) 167 dL_texts_119 (by decide) (fun c_119 => ?_) (fun c_119 => ?_)
                      · replace hf := (k_if hf).2 c_119
                        refine g_iconst C (pc := 167) dL_texts_167 ck_iconst_0 ?_
                        cases hf
                        exact g_wid (Nat.le_of_ble_eq_true rfl) (Nat.le_of_ble_eq_true rfl) (g_zret C E rfl (pc := 168) dL_texts_168 rfl)
                      · replace hf := (k_if hf).1 c_119
                        refine g_ldc2 C (pc := 122) lcL_166 dL_texts_122 ?_
                        refine g_lconst C (pc := 125) (v := 0) dL_texts_125 rfl ?_
                        obtain ⟨y_126, h_126, hf⟩ := k_bd hf
                        refine g_callN C (pc := 126) (mc := 187) (ms := 8998) (As := [.long (1667311155 : Int64), .long (0 : Int64)]) (rest := []) (v1 := .int y_126) (st' := [.int y_126]) lkL_faultOf lSL_142 (cL_faultOf_k (xl x) (xD x) (xy x) (1667311155 : Int64) (0 : Int64) y_126 h_126) rfl ⟨⟨Nat.le_of_ble_eq_true rfl, Nat.le_of_ble_eq_true rfl⟩, ⟨rfl, rfl⟩, ⟨Nat.le_of_ble_eq_true rfl, Nat.le_of_ble_eq_true rfl⟩⟩ rfl (Nat.le_of_ble_eq_true rfl) rfl dL_texts_126 ?_
                        show GW x 2244 107976 [] _ 129 [.int y_126]
                        refine g_iconst C (pc := 129) dL_texts_129 ck_iconst_3 ?_
                        refine g_icmp_ne C (pc := 130) 167 dL_texts_130 (by decide) (fun c_130 => ?_) (fun c_130 => ?_)
                        · replace hf := (k_if hf).2 c_130
                          refine g_iconst C (pc := 167) dL_texts_167 ck_iconst_0 ?_
                          cases hf
                          exact g_wid (Nat.le_of_ble_eq_true rfl) (Nat.le_of_ble_eq_true rfl) (g_zret C E rfl (pc := 168) dL_texts_168 rfl)
                        · replace hf := (k_if hf).1 c_130
                          refine g_ldc2 C (pc := 133) lcL_168 dL_texts_133 ?_
                          refine g_lconst C (pc := 136) (v := 0) dL_texts_136 rfl ?_
                          obtain ⟨y_137, h_137, hf⟩ := k_bd hf
                          refine g_callN C (pc := 137) (mc := 187) (ms := 8998) (As := [.long (1667311202 : Int64), .long (0 : Int64)]) (rest := []) (v1 := .int y_137) (st' := [.int y_137]) lkL_faultOf lSL_142 (cL_faultOf_k (xl x) (xD x) (xy x) (1667311202 : Int64) (0 : Int64) y_137 h_137) rfl ⟨⟨Nat.le_of_ble_eq_true rfl, Nat.le_of_ble_eq_true rfl⟩, ⟨rfl, rfl⟩, ⟨Nat.le_of_ble_eq_true rfl, Nat.le_of_ble_eq_true rfl⟩⟩ rfl (Nat.le_of_ble_eq_true rfl) rfl dL_texts_137 ?_
                          show GW x 2431 116974 [] _ 140 [.int y_137]
                          refine g_iconst C (pc := 140) dL_texts_140 ck_iconst_4 ?_
                          refine g_icmp_ne C (pc := 141) 167 dL_texts_141 (by decide) (fun c_141 => ?_) (fun c_141 => ?_)
                          · replace hf := (k_if hf).2 c_141
                            refine g_iconst C (pc := 167) dL_texts_167 ck_iconst_0 ?_
                            cases hf
                            exact g_wid (Nat.le_of_ble_eq_true rfl) (Nat.le_of_ble_eq_true rfl) (g_zret C E rfl (pc := 168) dL_texts_168 rfl)
                          · replace hf := (k_if hf).1 c_141
                            refine g_ldc2 C (pc := 144) lcL_170 dL_texts_144 ?_
                            refine g_lconst C (pc := 147) (v := 0) dL_texts_147 rfl ?_
                            obtain ⟨y_148, h_148, hf⟩ := k_bd hf
                            refine g_callN C (pc := 148) (mc := 187) (ms := 8998) (As := [.long (426831667763 : Int64), .long (0 : Int64)]) (rest := []) (v1 := .int y_148) (st' := [.int y_148]) lkL_faultOf lSL_142 (cL_faultOf_k (xl x) (xD x) (xy x) (426831667763 : Int64) (0 : Int64) y_148 h_148) rfl ⟨⟨Nat.le_of_ble_eq_true rfl, Nat.le_of_ble_eq_true rfl⟩, ⟨rfl, rfl⟩, ⟨Nat.le_of_ble_eq_true rfl, Nat.le_of_ble_eq_true rfl⟩⟩ rfl (Nat.le_of_ble_eq_true rfl) rfl dL_texts_148 ?_
                            show GW x 2618 125972 [] _ 151 [.int y_148]
                            refine g_bipush C (pc := 151) dL_texts_151 ck_bipush_m6 ?_
                            refine g_icmp_ne C (pc := 153) 167 dL_texts_153 (by decide) (fun c_153 => ?_) (fun c_153 => ?_)
                            · replace hf := (k_if hf).2 c_153
                              refine g_iconst C (pc := 167) dL_texts_167 ck_iconst_0 ?_
                              cases hf
                              exact g_wid (Nat.le_of_ble_eq_true rfl) (Nat.le_of_ble_eq_true rfl) (g_zret C E rfl (pc := 168) dL_texts_168 rfl)
                            · replace hf := (k_if hf).1 c_153
                              refine g_ldc2 C (pc := 156) lcL_172 dL_texts_156 ?_
                              refine g_lconst C (pc := 159) (v := 0) dL_texts_159 rfl ?_
                              obtain ⟨y_160, h_160, hf⟩ := k_bd hf
                              refine g_callN C (pc := 160) (mc := 187) (ms := 8998) (As := [.long (426831602489 : Int64), .long (0 : Int64)]) (rest := []) (v1 := .int y_160) (st' := [.int y_160]) lkL_faultOf lSL_142 (cL_faultOf_k (xl x) (xD x) (xy x) (426831602489 : Int64) (0 : Int64) y_160 h_160) rfl ⟨⟨Nat.le_of_ble_eq_true rfl, Nat.le_of_ble_eq_true rfl⟩, ⟨rfl, rfl⟩, ⟨Nat.le_of_ble_eq_true rfl, Nat.le_of_ble_eq_true rfl⟩⟩ rfl (Nat.le_of_ble_eq_true rfl) rfl dL_texts_160 ?_
                              show GW x 2805 134970 [] _ 163 [.int y_160]
                              refine g_iconst C (pc := 163) dL_texts_163 ck_iconst_4 ?_
                              refine g_icmp_eq C (pc := 164) 169 dL_texts_164 (by decide) (fun c_164 => ?_) (fun c_164 => ?_)
                              · replace hf := (k_if hf).1 c_164
                                refine g_ldc2 C (pc := 169) lcL_174 dL_texts_169 ?_
                                refine g_lconst C (pc := 172) (v := 0) dL_texts_172 rfl ?_
                                obtain ⟨y_173, h_173, hf⟩ := k_bd hf
                                refine g_callN C (pc := 173) (mc := 187) (ms := 8998) (As := [.long (1935752497 : Int64), .long (0 : Int64)]) (rest := []) (v1 := .int y_173) (st' := [.int y_173]) lkL_faultOf lSL_142 (cL_faultOf_k (xl x) (xD x) (xy x) (1935752497 : Int64) (0 : Int64) y_173 h_173) rfl ⟨⟨Nat.le_of_ble_eq_true rfl, Nat.le_of_ble_eq_true rfl⟩, ⟨rfl, rfl⟩, ⟨Nat.le_of_ble_eq_true rfl, Nat.le_of_ble_eq_true rfl⟩⟩ rfl (Nat.le_of_ble_eq_true rfl) rfl dL_texts_173 ?_
                                show GW x 2992 143968 [] _ 176 [.int y_173]
                                refine g_iconst C (pc := 176) dL_texts_176 ck_iconst_4 ?_
                                refine g_icmp_ne C (pc := 177) 343 dL_texts_177 (by decide) (fun c_177 => ?_) (fun c_177 => ?_)
                                · replace hf := (k_if hf).2 c_177
                                  refine g_iconst C (pc := 343) dL_texts_343 ck_iconst_0 ?_
                                  cases hf
                                  exact g_wid (Nat.le_of_ble_eq_true rfl) (Nat.le_of_ble_eq_true rfl) (g_zret C E rfl (pc := 344) dL_texts_344 rfl)
                                · replace hf := (k_if hf).1 c_177
                                  refine g_ldc2 C (pc := 180) lcL_176 dL_texts_180 ?_
                                  refine g_lconst C (pc := 183) (v := 0) dL_texts_183 rfl ?_
                                  obtain ⟨y_184, h_184, hf⟩ := k_bd hf
                                  refine g_callN C (pc := 184) (mc := 187) (ms := 8998) (As := [.long (1932147297 : Int64), .long (0 : Int64)]) (rest := []) (v1 := .int y_184) (st' := [.int y_184]) lkL_faultOf lSL_142 (cL_faultOf_k (xl x) (xD x) (xy x) (1932147297 : Int64) (0 : Int64) y_184 h_184) rfl ⟨⟨Nat.le_of_ble_eq_true rfl, Nat.le_of_ble_eq_true rfl⟩, ⟨rfl, rfl⟩, ⟨Nat.le_of_ble_eq_true rfl, Nat.le_of_ble_eq_true rfl⟩⟩ rfl (Nat.le_of_ble_eq_true rfl) rfl dL_texts_184 ?_
                                  show GW x 3179 152966 [] _ 187 [.int y_184]
                                  refine g_iconst C (pc := 187) dL_texts_187 ck_iconst_4 ?_
                                  refine g_icmp_ne C (pc := 188) 343 dL_texts_188 (by decide) (fun c_188 => ?_) (fun c_188 => ?_)
                                  · replace hf := (k_if hf).2 c_188
                                    refine g_iconst C (pc := 343) dL_texts_343 ck_iconst_0 ?_
                                    cases hf
                                    exact g_wid (Nat.le_of_ble_eq_true rfl) (Nat.le_of_ble_eq_true rfl) (g_zret C E rfl (pc := 344) dL_texts_344 rfl)
                                  · replace hf := (k_if hf).1 c_188
                                    refine g_ldc2 C (pc := 191) lcL_178 dL_texts_191 ?_
                                    refine g_lconst C (pc := 194) (v := 0) dL_texts_194 rfl ?_
                                    obtain ⟨y_195, h_195, hf⟩ := k_bd hf
                                    refine g_callN C (pc := 195) (mc := 187) (ms := 8998) (As := [.long (126625205271857 : Int64), .long (0 : Int64)]) (rest := []) (v1 := .int y_195) (st' := [.int y_195]) lkL_faultOf lSL_142 (cL_faultOf_k (xl x) (xD x) (xy x) (126625205271857 : Int64) (0 : Int64) y_195 h_195) rfl ⟨⟨Nat.le_of_ble_eq_true rfl, Nat.le_of_ble_eq_true rfl⟩, ⟨rfl, rfl⟩, ⟨Nat.le_of_ble_eq_true rfl, Nat.le_of_ble_eq_true rfl⟩⟩ rfl (Nat.le_of_ble_eq_true rfl) rfl dL_texts_195 ?_
                                    show GW x 3366 161964 [] _ 198 [.int y_195]
                                    refine g_bipush C (pc := 198) dL_texts_198 ck_bipush_m6 ?_
                                    refine g_icmp_ne C (pc := 200) 343 dL_texts_200 (by decide) (fun c_200 => ?_) (fun c_200 => ?_)
                                    · replace hf := (k_if hf).2 c_200
                                      refine g_iconst C (pc := 343) dL_texts_343 ck_iconst_0 ?_
                                      cases hf
                                      exact g_wid (Nat.le_of_ble_eq_true rfl) (Nat.le_of_ble_eq_true rfl) (g_zret C E rfl (pc := 344) dL_texts_344 rfl)
                                    · replace hf := (k_if hf).1 c_200
                                      refine g_ldc2 C (pc := 203) lcL_180 dL_texts_203 ?_
                                      refine g_lconst C (pc := 206) (v := 0) dL_texts_206 rfl ?_
                                      obtain ⟨y_207, h_207, hf⟩ := k_bd hf
                                      refine g_callN C (pc := 207) (mc := 187) (ms := 8998) (As := [.long (126625205288545 : Int64), .long (0 : Int64)]) (rest := []) (v1 := .int y_207) (st' := [.int y_207]) lkL_faultOf lSL_142 (cL_faultOf_k (xl x) (xD x) (xy x) (126625205288545 : Int64) (0 : Int64) y_207 h_207) rfl ⟨⟨Nat.le_of_ble_eq_true rfl, Nat.le_of_ble_eq_true rfl⟩, ⟨rfl, rfl⟩, ⟨Nat.le_of_ble_eq_true rfl, Nat.le_of_ble_eq_true rfl⟩⟩ rfl (Nat.le_of_ble_eq_true rfl) rfl dL_texts_207 ?_
                                      show GW x 3553 170962 [] _ 210 [.int y_207]
                                      refine g_bipush C (pc := 210) dL_texts_210 ck_bipush_m6 ?_
                                      refine g_icmp_ne C (pc := 212) 343 dL_texts_212 (by decide) (fun c_212 => ?_) (fun c_212 => ?_)
                                      · replace hf := (k_if hf).2 c_212
                                        refine g_iconst C (pc := 343) dL_texts_343 ck_iconst_0 ?_
                                        cases hf
                                        exact g_wid (Nat.le_of_ble_eq_true rfl) (Nat.le_of_ble_eq_true rfl) (g_zret C E rfl (pc := 344) dL_texts_344 rfl)
                                      · replace hf := (k_if hf).1 c_212
                                        refine g_ldc2 C (pc := 215) lcL_182 dL_texts_215 ?_
                                        refine g_lconst C (pc := 218) (v := 0) dL_texts_218 rfl ?_
                                        obtain ⟨y_219, h_219, hf⟩ := k_bd hf
                                        refine g_callN C (pc := 219) (mc := 187) (ms := 8998) (As := [.long (8298509452699642680 : Int64), .long (0 : Int64)]) (rest := []) (v1 := .int y_219) (st' := [.int y_219]) lkL_faultOf lSL_142 (cL_faultOf_k (xl x) (xD x) (xy x) (8298509452699642680 : Int64) (0 : Int64) y_219 h_219) rfl ⟨⟨Nat.le_of_ble_eq_true rfl, Nat.le_of_ble_eq_true rfl⟩, ⟨rfl, rfl⟩, ⟨Nat.le_of_ble_eq_true rfl, Nat.le_of_ble_eq_true rfl⟩⟩ rfl (Nat.le_of_ble_eq_true rfl) rfl dL_texts_219 ?_
                                        show GW x 3740 179960 [] _ 222 [.int y_219]
                                        refine g_bipush C (pc := 222) dL_texts_222 ck_bipush_7 ?_
                                        refine g_icmp_ne C (pc := 224) 343 dL_texts_224 (by decide) (fun c_224 => ?_) (fun c_224 => ?_)
                                        · replace hf := (k_if hf).2 c_224
                                          refine g_iconst C (pc := 343) dL_texts_343 ck_iconst_0 ?_
                                          cases hf
                                          exact g_wid (Nat.le_of_ble_eq_true rfl) (Nat.le_of_ble_eq_true rfl) (g_zret C E rfl (pc := 344) dL_texts_344 rfl)
                                        · replace hf := (k_if hf).1 c_224
                                          refine g_ldc2 C (pc := 227) lcL_184 dL_texts_227 ?_
                                          refine g_lconst C (pc := 230) (v := 0) dL_texts_230 rfl ?_
                                          obtain ⟨y_231, h_231, hf⟩ := k_bd hf
                                          refine g_callN C (pc := 231) (mc := 187) (ms := 8998) (As := [.long (126625205264689 : Int64), .long (0 : Int64)]) (rest := []) (v1 := .int y_231) (st' := [.int y_231]) lkL_faultOf lSL_142 (cL_faultOf_k (xl x) (xD x) (xy x) (126625205264689 : Int64) (0 : Int64) y_231 h_231) rfl ⟨⟨Nat.le_of_ble_eq_true rfl, Nat.le_of_ble_eq_true rfl⟩, ⟨rfl, rfl⟩, ⟨Nat.le_of_ble_eq_true rfl, Nat.le_of_ble_eq_true rfl⟩⟩ rfl (Nat.le_of_ble_eq_true rfl) rfl dL_texts_231 ?_
                                          show GW x 3927 188958 [] _ 234 [.int y_231]
                                          refine g_iconst C (pc := 234) dL_texts_234 ck_iconst_4 ?_
                                          refine g_icmp_ne C (pc := 235) 343 dL_texts_235 (by decide) (fun c_235 => ?_) (fun c_235 => ?_)
                                          · replace hf := (k_if hf).2 c_235
                                            refine g_iconst C (pc := 343) dL_texts_343 ck_iconst_0 ?_
                                            cases hf
                                            exact g_wid (Nat.le_of_ble_eq_true rfl) (Nat.le_of_ble_eq_true rfl) (g_zret C E rfl (pc := 344) dL_texts_344 rfl)
                                          · replace hf := (k_if hf).1 c_235
                                            refine g_ldc2 C (pc := 238) lcL_186 dL_texts_238 ?_
                                            refine g_lconst C (pc := 241) (v := 0) dL_texts_241 rfl ?_
                                            obtain ⟨y_242, h_242, hf⟩ := k_bd hf
                                            refine g_callN C (pc := 242) (mc := 187) (ms := 8998) (As := [.long (29233 : Int64), .long (0 : Int64)]) (rest := []) (v1 := .int y_242) (st' := [.int y_242]) lkL_faultOf lSL_142 (cL_faultOf_k (xl x) (xD x) (xy x) (29233 : Int64) (0 : Int64) y_242 h_242) rfl ⟨⟨Nat.le_of_ble_eq_true rfl, Nat.le_of_ble_eq_true rfl⟩, ⟨rfl, rfl⟩, ⟨Nat.le_of_ble_eq_true rfl, Nat.le_of_ble_eq_true rfl⟩⟩ rfl (Nat.le_of_ble_eq_true rfl) rfl dL_texts_242 ?_
                                            show GW x 4114 197956 [] _ 245 [.int y_242]
                                            refine g_iconst C (pc := 245) dL_texts_245 ck_iconst_2 ?_
                                            refine g_icmp_ne C (pc := 246) 343 dL_texts_246 (by decide) (fun c_246 => ?_) (fun c_246 => ?_)
                                            · replace hf := (k_if hf).2 c_246
                                              refine g_iconst C (pc := 343) dL_texts_343 ck_iconst_0 ?_
                                              cases hf
                                              exact g_wid (Nat.le_of_ble_eq_true rfl) (Nat.le_of_ble_eq_true rfl) (g_zret C E rfl (pc := 344) dL_texts_344 rfl)
                                            · replace hf := (k_if hf).1 c_246
                                              refine g_ldc2 C (pc := 249) lcL_188 dL_texts_249 ?_
                                              refine g_lconst C (pc := 252) (v := 0) dL_texts_252 rfl ?_
                                              obtain ⟨y_253, h_253, hf⟩ := k_bd hf
                                              refine g_callN C (pc := 253) (mc := 187) (ms := 8998) (As := [.long (490434800178 : Int64), .long (0 : Int64)]) (rest := []) (v1 := .int y_253) (st' := [.int y_253]) lkL_faultOf lSL_142 (cL_faultOf_k (xl x) (xD x) (xy x) (490434800178 : Int64) (0 : Int64) y_253 h_253) rfl ⟨⟨Nat.le_of_ble_eq_true rfl, Nat.le_of_ble_eq_true rfl⟩, ⟨rfl, rfl⟩, ⟨Nat.le_of_ble_eq_true rfl, Nat.le_of_ble_eq_true rfl⟩⟩ rfl (Nat.le_of_ble_eq_true rfl) rfl dL_texts_253 ?_
                                              show GW x 4301 206954 [] _ 256 [.int y_253]
                                              refine g_iconst C (pc := 256) dL_texts_256 ck_iconst_2 ?_
                                              refine g_icmp_ne C (pc := 257) 343 dL_texts_257 (by decide) (fun c_257 => ?_) (fun c_257 => ?_)
                                              · replace hf := (k_if hf).2 c_257
                                                refine g_iconst C (pc := 343) dL_texts_343 ck_iconst_0 ?_
                                                cases hf
                                                exact g_wid (Nat.le_of_ble_eq_true rfl) (Nat.le_of_ble_eq_true rfl) (g_zret C E rfl (pc := 344) dL_texts_344 rfl)
                                              · replace hf := (k_if hf).1 c_257
                                                refine g_ldc2 C (pc := 260) lcL_190 dL_texts_260 ?_
                                                refine g_lconst C (pc := 263) (v := 0) dL_texts_263 rfl ?_
                                                obtain ⟨y_264, h_264, hf⟩ := k_bd hf
                                                refine g_callN C (pc := 264) (mc := 187) (ms := 8998) (As := [.long (32142230381668914 : Int64), .long (0 : Int64)]) (rest := []) (v1 := .int y_264) (st' := [.int y_264]) lkL_faultOf lSL_142 (cL_faultOf_k (xl x) (xD x) (xy x) (32142230381668914 : Int64) (0 : Int64) y_264 h_264) rfl ⟨⟨Nat.le_of_ble_eq_true rfl, Nat.le_of_ble_eq_true rfl⟩, ⟨rfl, rfl⟩, ⟨Nat.le_of_ble_eq_true rfl, Nat.le_of_ble_eq_true rfl⟩⟩ rfl (Nat.le_of_ble_eq_true rfl) rfl dL_texts_264 ?_
                                                show GW x 4488 215952 [] _ 267 [.int y_264]
                                                refine g_iconst C (pc := 267) dL_texts_267 ck_iconst_4 ?_
                                                refine g_icmp_ne C (pc := 268) 343 dL_texts_268 (by decide) (fun c_268 => ?_) (fun c_268 => ?_)
                                                · replace hf := (k_if hf).2 c_268
                                                  refine g_iconst C (pc := 343) dL_texts_343 ck_iconst_0 ?_
                                                  cases hf
                                                  exact g_wid (Nat.le_of_ble_eq_true rfl) (Nat.le_of_ble_eq_true rfl) (g_zret C E rfl (pc := 344) dL_texts_344 rfl)
                                                · replace hf := (k_if hf).1 c_268
                                                  refine g_ldc2 C (pc := 271) lcL_192 dL_texts_271 ?_
                                                  refine g_lconst C (pc := 274) (v := 0) dL_texts_274 rfl ?_
                                                  obtain ⟨y_275, h_275, hf⟩ := k_bd hf
                                                  refine g_callN C (pc := 275) (mc := 187) (ms := 8998) (As := [.long (8230672711680604473 : Int64), .long (0 : Int64)]) (rest := []) (v1 := .int y_275) (st' := [.int y_275]) lkL_faultOf lSL_142 (cL_faultOf_k (xl x) (xD x) (xy x) (8230672711680604473 : Int64) (0 : Int64) y_275 h_275) rfl ⟨⟨Nat.le_of_ble_eq_true rfl, Nat.le_of_ble_eq_true rfl⟩, ⟨rfl, rfl⟩, ⟨Nat.le_of_ble_eq_true rfl, Nat.le_of_ble_eq_true rfl⟩⟩ rfl (Nat.le_of_ble_eq_true rfl) rfl dL_texts_275 ?_
                                                  show GW x 4675 224950 [] _ 278 [.int y_275]
                                                  refine g_bipush C (pc := 278) dL_texts_278 ck_bipush_m6 ?_
                                                  refine g_icmp_ne C (pc := 280) 343 dL_texts_280 (by decide) (fun c_280 => ?_) (fun c_280 => ?_)
                                                  · replace hf := (k_if hf).2 c_280
                                                    refine g_iconst C (pc := 343) dL_texts_343 ck_iconst_0 ?_
                                                    cases hf
                                                    exact g_wid (Nat.le_of_ble_eq_true rfl) (Nat.le_of_ble_eq_true rfl) (g_zret C E rfl (pc := 344) dL_texts_344 rfl)
                                                  · replace hf := (k_if hf).1 c_280
                                                    refine g_ldc2 C (pc := 283) lcL_194 dL_texts_283 ?_
                                                    refine g_lconst C (pc := 286) (v := 0) dL_texts_286 rfl ?_
                                                    obtain ⟨y_287, h_287, hf⟩ := k_bd hf
                                                    refine g_callN C (pc := 287) (mc := 187) (ms := 8998) (As := [.long (27451 : Int64), .long (0 : Int64)]) (rest := []) (v1 := .int y_287) (st' := [.int y_287]) lkL_faultOf lSL_142 (cL_faultOf_k (xl x) (xD x) (xy x) (27451 : Int64) (0 : Int64) y_287 h_287) rfl ⟨⟨Nat.le_of_ble_eq_true rfl, Nat.le_of_ble_eq_true rfl⟩, ⟨rfl, rfl⟩, ⟨Nat.le_of_ble_eq_true rfl, Nat.le_of_ble_eq_true rfl⟩⟩ rfl (Nat.le_of_ble_eq_true rfl) rfl dL_texts_287 ?_
                                                    show GW x 4862 233948 [] _ 290 [.int y_287]
                                                    refine g_iconst C (pc := 290) dL_texts_290 ck_iconst_2 ?_
                                                    refine g_icmp_ne C (pc := 291) 343 dL_texts_291 (by decide) (fun c_291 => ?_) (fun c_291 => ?_)
                                                    · replace hf := (k_if hf).2 c_291
                                                      refine g_iconst C (pc := 343) dL_texts_343 ck_iconst_0 ?_
                                                      cases hf
                                                      exact g_wid (Nat.le_of_ble_eq_true rfl) (Nat.le_of_ble_eq_true rfl) (g_zret C E rfl (pc := 344) dL_texts_344 rfl)
                                                    · replace hf := (k_if hf).1 c_291
                                                      refine g_ldc2 C (pc := 294) lcL_196 dL_texts_294 ?_
                                                      refine g_lconst C (pc := 297) (v := 0) dL_texts_297 rfl ?_
                                                      obtain ⟨y_298, h_298, hf⟩ := k_bd hf
                                                      refine g_callN C (pc := 298) (mc := 187) (ms := 8998) (As := [.long (27499 : Int64), .long (0 : Int64)]) (rest := []) (v1 := .int y_298) (st' := [.int y_298]) lkL_faultOf lSL_142 (cL_faultOf_k (xl x) (xD x) (xy x) (27499 : Int64) (0 : Int64) y_298 h_298) rfl ⟨⟨Nat.le_of_ble_eq_true rfl, Nat.le_of_ble_eq_true rfl⟩, ⟨rfl, rfl⟩, ⟨Nat.le_of_ble_eq_true rfl, Nat.le_of_ble_eq_true rfl⟩⟩ rfl (Nat.le_of_ble_eq_true rfl) rfl dL_texts_298 ?_
                                                      show GW x 5049 242946 [] _ 301 [.int y_298]
                                                      refine g_iconst C (pc := 301) dL_texts_301 ck_iconst_1 ?_
                                                      refine g_icmp_ne C (pc := 302) 343 dL_texts_302 (by decide) (fun c_302 => ?_) (fun c_302 => ?_)
                                                      · replace hf := (k_if hf).2 c_302
                                                        refine g_iconst C (pc := 343) dL_texts_343 ck_iconst_0 ?_
                                                        cases hf
                                                        exact g_wid (Nat.le_of_ble_eq_true rfl) (Nat.le_of_ble_eq_true rfl) (g_zret C E rfl (pc := 344) dL_texts_344 rfl)
                                                      · replace hf := (k_if hf).1 c_302
                                                        refine g_ldc2 C (pc := 305) lcL_198 dL_texts_305 ?_
                                                        refine g_lconst C (pc := 308) (v := 0) dL_texts_308 rfl ?_
                                                        obtain ⟨y_309, h_309, hf⟩ := k_bd hf
                                                        refine g_callN C (pc := 309) (mc := 187) (ms := 8998) (As := [.long (7027576 : Int64), .long (0 : Int64)]) (rest := []) (v1 := .int y_309) (st' := [.int y_309]) lkL_faultOf lSL_142 (cL_faultOf_k (xl x) (xD x) (xy x) (7027576 : Int64) (0 : Int64) y_309 h_309) rfl ⟨⟨Nat.le_of_ble_eq_true rfl, Nat.le_of_ble_eq_true rfl⟩, ⟨rfl, rfl⟩, ⟨Nat.le_of_ble_eq_true rfl, Nat.le_of_ble_eq_true rfl⟩⟩ rfl (Nat.le_of_ble_eq_true rfl) rfl dL_texts_309 ?_
                                                        show GW x 5236 251944 [] _ 312 [.int y_309]
                                                        refine g_iconst C (pc := 312) dL_texts_312 ck_iconst_2 ?_
                                                        refine g_icmp_ne C (pc := 313) 343 dL_texts_313 (by decide) (fun c_313 => ?_) (fun c_313 => ?_)
                                                        · replace hf := (k_if hf).2 c_313
                                                          refine g_iconst C (pc := 343) dL_texts_343 ck_iconst_0 ?_
                                                          cases hf
                                                          exact g_wid (Nat.le_of_ble_eq_true rfl) (Nat.le_of_ble_eq_true rfl) (g_zret C E rfl (pc := 344) dL_texts_344 rfl)
                                                        · replace hf := (k_if hf).1 c_313
                                                          refine g_ldc2 C (pc := 316) lcL_200 dL_texts_316 ?_
                                                          refine g_lconst C (pc := 319) (v := 0) dL_texts_319 rfl ?_
                                                          obtain ⟨y_320, h_320, hf⟩ := k_bd hf
                                                          refine g_callN C (pc := 320) (mc := 187) (ms := 8998) (As := [.long (109269276048235 : Int64), .long (0 : Int64)]) (rest := []) (v1 := .int y_320) (st' := [.int y_320]) lkL_faultOf lSL_142 (cL_faultOf_k (xl x) (xD x) (xy x) (109269276048235 : Int64) (0 : Int64) y_320 h_320) rfl ⟨⟨Nat.le_of_ble_eq_true rfl, Nat.le_of_ble_eq_true rfl⟩, ⟨rfl, rfl⟩, ⟨Nat.le_of_ble_eq_true rfl, Nat.le_of_ble_eq_true rfl⟩⟩ rfl (Nat.le_of_ble_eq_true rfl) rfl dL_texts_320 ?_
                                                          show GW x 5423 260942 [] _ 323 [.int y_320]
                                                          refine g_bipush C (pc := 323) dL_texts_323 ck_bipush_m6 ?_
                                                          refine g_icmp_ne C (pc := 325) 343 dL_texts_325 (by decide) (fun c_325 => ?_) (fun c_325 => ?_)
                                                          · replace hf := (k_if hf).2 c_325
                                                            refine g_iconst C (pc := 343) dL_texts_343 ck_iconst_0 ?_
                                                            cases hf
                                                            exact g_wid (Nat.le_of_ble_eq_true rfl) (Nat.le_of_ble_eq_true rfl) (g_zret C E rfl (pc := 344) dL_texts_344 rfl)
                                                          · replace hf := (k_if hf).1 c_325
                                                            refine g_ldc2 C (pc := 328) lcL_202 dL_texts_328 ?_
                                                            refine g_lconst C (pc := 331) (v := 0) dL_texts_331 rfl ?_
                                                            obtain ⟨y_332, h_332, hf⟩ := k_bd hf
                                                            refine g_callN C (pc := 332) (mc := 187) (ms := 8998) (As := [.long (6498859 : Int64), .long (0 : Int64)]) (rest := []) (v1 := .int y_332) (st' := [.int y_332]) lkL_faultOf lSL_142 (cL_faultOf_k (xl x) (xD x) (xy x) (6498859 : Int64) (0 : Int64) y_332 h_332) rfl ⟨⟨Nat.le_of_ble_eq_true rfl, Nat.le_of_ble_eq_true rfl⟩, ⟨rfl, rfl⟩, ⟨Nat.le_of_ble_eq_true rfl, Nat.le_of_ble_eq_true rfl⟩⟩ rfl (Nat.le_of_ble_eq_true rfl) rfl dL_texts_332 ?_
                                                            show GW x 5610 269940 [] _ 335 [.int y_332]
                                                            refine g_iconst C (pc := 335) dL_texts_335 ck_iconst_2 ?_
                                                            refine g_icmp_ne C (pc := 336) 343 dL_texts_336 (by decide) (fun c_336 => ?_) (fun c_336 => ?_)
                                                            · replace hf := (k_if hf).2 c_336
                                                              refine g_iconst C (pc := 343) dL_texts_343 ck_iconst_0 ?_
                                                              cases hf
                                                              exact g_wid (Nat.le_of_ble_eq_true rfl) (Nat.le_of_ble_eq_true rfl) (g_zret C E rfl (pc := 344) dL_texts_344 rfl)
                                                            · replace hf := (k_if hf).1 c_336
                                                              refine g_iconst C (pc := 339) dL_texts_339 ck_iconst_1 ?_
                                                              refine g_goto C (pc := 340) (tgt := 344) dL_texts_340 (by decide) ?_
                                                              cases hf
                                                              exact g_wid (Nat.le_of_ble_eq_true rfl) (Nat.le_of_ble_eq_true rfl) (g_zret C E rfl (pc := 344) dL_texts_344 rfl)
                              · replace hf := (k_if hf).2 c_164
                                refine g_iconst C (pc := 167) dL_texts_167 ck_iconst_0 ?_
                                cases hf
                                exact g_wid (Nat.le_of_ble_eq_true rfl) (Nat.le_of_ble_eq_true rfl) (g_zret C E rfl (pc := 168) dL_texts_168 rfl)
set_option maxRecDepth 100000 in
theorem cL_texts_k (l : Launch) (D : va_G) (yy : Nat → ClassId)  (o : Int32) (hf : fL_texts  = some o) : GMet l yL_texts cL_texts 0 (some .boolean) rmL_texts 5610 269940 D yy [] ([]) (fun zv _ => zv = some ((.int o))) :=
  g_met (by decide +kernel) (Nat.le_of_ble_eq_true rfl) (fun x hl hD hy hn C E _ => by subst hD; subst hy; exact (eL_texts x C hn  o E hf))
