theorem uws_X0 : ∀ w ∈ u_ws RX0 TX0 6, w ∈ WL := fun w h => by
  obtain ⟨j, hj, rfl⟩ := List.mem_map.mp h
  have hj := List.mem_range.mp hj
  match j, hj with
  | 0, _ => exact WL_at 106 (by decide +kernel) (by decide +kernel)
  | 1, _ => exact WL_at 108 (by decide +kernel) (by decide +kernel)
  | 2, _ => exact WL_at 110 (by decide +kernel) (by decide +kernel)
  | 3, _ => exact WL_at 112 (by decide +kernel) (by decide +kernel)
  | 4, _ => exact WL_at 114 (by decide +kernel) (by decide +kernel)
  | 5, _ => exact WL_at 116 (by decide +kernel) (by decide +kernel)
  | j + 6, hj => exact absurd hj (by omega)
theorem uws_X2 : ∀ w ∈ u_ws RX2 TX2 2, w ∈ WL := fun w h => by
  obtain ⟨j, hj, rfl⟩ := List.mem_map.mp h
  have hj := List.mem_range.mp hj
  match j, hj with
  | 0, _ => exact WL_at 216 (by decide +kernel) (by decide +kernel)
  | 1, _ => exact WL_at 218 (by decide +kernel) (by decide +kernel)
  | j + 2, hj => exact absurd hj (by omega)
theorem uws_X3 : ∀ w ∈ u_ws RX3 TX3 7, w ∈ WL := fun w h => by
  obtain ⟨j, hj, rfl⟩ := List.mem_map.mp h
  have hj := List.mem_range.mp hj
  match j, hj with
  | 0, _ => exact WL_at 189 (by decide +kernel) (by decide +kernel)
  | 1, _ => exact WL_at 191 (by decide +kernel) (by decide +kernel)
  | 2, _ => exact WL_at 193 (by decide +kernel) (by decide +kernel)
  | 3, _ => exact WL_at 195 (by decide +kernel) (by decide +kernel)
  | 4, _ => exact WL_at 197 (by decide +kernel) (by decide +kernel)
  | 5, _ => exact WL_at 199 (by decide +kernel) (by decide +kernel)
  | 6, _ => exact WL_at 201 (by decide +kernel) (by decide +kernel)
  | j + 7, hj => exact absurd hj (by omega)
theorem uws_X4 : ∀ w ∈ u_ws RX4 TX4 2, w ∈ WL := fun w h => by
  obtain ⟨j, hj, rfl⟩ := List.mem_map.mp h
  have hj := List.mem_range.mp hj
  match j, hj with
  | 0, _ => exact WL_at 265 (by decide +kernel) (by decide +kernel)
  | 1, _ => exact WL_at 267 (by decide +kernel) (by decide +kernel)
  | j + 2, hj => exact absurd hj (by omega)
theorem uws_X5 : ∀ w ∈ u_ws RX5 TX5 10, w ∈ WL := fun w h => by
  obtain ⟨j, hj, rfl⟩ := List.mem_map.mp h
  have hj := List.mem_range.mp hj
  match j, hj with
  | 0, _ => exact WL_at 290 (by decide +kernel) (by decide +kernel)
  | 1, _ => exact WL_at 292 (by decide +kernel) (by decide +kernel)
  | 2, _ => exact WL_at 294 (by decide +kernel) (by decide +kernel)
  | 3, _ => exact WL_at 296 (by decide +kernel) (by decide +kernel)
  | 4, _ => exact WL_at 298 (by decide +kernel) (by decide +kernel)
  | 5, _ => exact WL_at 300 (by decide +kernel) (by decide +kernel)
  | 6, _ => exact WL_at 302 (by decide +kernel) (by decide +kernel)
  | 7, _ => exact WL_at 304 (by decide +kernel) (by decide +kernel)
  | 8, _ => exact WL_at 306 (by decide +kernel) (by decide +kernel)
  | 9, _ => exact WL_at 308 (by decide +kernel) (by decide +kernel)
  | j + 10, hj => exact absurd hj (by omega)
theorem uws_X6 : ∀ w ∈ u_ws RX6 TX6 3, w ∈ WL := fun w h => by
  obtain ⟨j, hj, rfl⟩ := List.mem_map.mp h
  have hj := List.mem_range.mp hj
  match j, hj with
  | 0, _ => exact WL_at 142 (by decide +kernel) (by decide +kernel)
  | 1, _ => exact WL_at 144 (by decide +kernel) (by decide +kernel)
  | 2, _ => exact WL_at 146 (by decide +kernel) (by decide +kernel)
  | j + 3, hj => exact absurd hj (by omega)
theorem uws_X7 : ∀ w ∈ u_ws RX7 TX7 1, w ∈ WL := fun w h => by
  obtain ⟨j, hj, rfl⟩ := List.mem_map.mp h
  have hj := List.mem_range.mp hj
  match j, hj with
  | 0, _ => exact WL_at 132 (by decide +kernel) (by decide +kernel)
  | j + 1, hj => exact absurd hj (by omega)
theorem uws_X8 : ∀ w ∈ u_ws RX8 TX8 6, w ∈ WL := fun w h => by
  obtain ⟨j, hj, rfl⟩ := List.mem_map.mp h
  have hj := List.mem_range.mp hj
  match j, hj with
  | 0, _ => exact WL_at 69 (by decide +kernel) (by decide +kernel)
  | 1, _ => exact WL_at 71 (by decide +kernel) (by decide +kernel)
  | 2, _ => exact WL_at 73 (by decide +kernel) (by decide +kernel)
  | 3, _ => exact WL_at 75 (by decide +kernel) (by decide +kernel)
  | 4, _ => exact WL_at 77 (by decide +kernel) (by decide +kernel)
  | 5, _ => exact WL_at 79 (by decide +kernel) (by decide +kernel)
  | j + 6, hj => exact absurd hj (by omega)
theorem uws_X9 : ∀ w ∈ u_ws RX9 TX9 5, w ∈ WL := fun w h => by
  obtain ⟨j, hj, rfl⟩ := List.mem_map.mp h
  have hj := List.mem_range.mp hj
  match j, hj with
  | 0, _ => exact WL_at 237 (by decide +kernel) (by decide +kernel)
  | 1, _ => exact WL_at 239 (by decide +kernel) (by decide +kernel)
  | 2, _ => exact WL_at 241 (by decide +kernel) (by decide +kernel)
  | 3, _ => exact WL_at 243 (by decide +kernel) (by decide +kernel)
  | 4, _ => exact WL_at 245 (by decide +kernel) (by decide +kernel)
  | j + 5, hj => exact absurd hj (by omega)
theorem uws_X10 : ∀ w ∈ u_ws RX10 TX10 7, w ∈ WL := fun w h => by
  obtain ⟨j, hj, rfl⟩ := List.mem_map.mp h
  have hj := List.mem_range.mp hj
  match j, hj with
  | 0, _ => exact WL_at 318 (by decide +kernel) (by decide +kernel)
  | 1, _ => exact WL_at 320 (by decide +kernel) (by decide +kernel)
  | 2, _ => exact WL_at 322 (by decide +kernel) (by decide +kernel)
  | 3, _ => exact WL_at 324 (by decide +kernel) (by decide +kernel)
  | 4, _ => exact WL_at 326 (by decide +kernel) (by decide +kernel)
  | 5, _ => exact WL_at 328 (by decide +kernel) (by decide +kernel)
  | 6, _ => exact WL_at 330 (by decide +kernel) (by decide +kernel)
  | j + 7, hj => exact absurd hj (by omega)
theorem lkJ13_bitCount_95d88 : gLk yJ13_bitCount_95d88 cJ13_bitCount_95d88 2 (some .int) 1 := ⟨WL_at 584 (by decide +kernel) (by decide +kernel), WL_at 34 (by decide +kernel) (by decide +kernel), by decide +kernel⟩
theorem lkX0_allow : gLk yX0_allow cX0_allow 3 (some .boolean) 1 := ⟨WL_at 548 (by decide +kernel) (by decide +kernel), WL_at 25 (by decide +kernel) (by decide +kernel), by decide +kernel⟩
theorem lkX0_copyFrom : gLk yX0_copyFrom cX0_copyFrom 2 none 1 := ⟨WL_at 356 (by decide +kernel) (by decide +kernel), WL_at 25 (by decide +kernel) (by decide +kernel), by decide +kernel⟩
theorem lkX0_countStanding : gLk yX0_countStanding cX0_countStanding 1 (some .int) 0 := ⟨WL_at 577 (by decide +kernel) (by decide +kernel), WL_at 25 (by decide +kernel) (by decide +kernel), by decide +kernel⟩
theorem lkX0_findNeedless : gLk yX0_findNeedless cX0_findNeedless 5 (some .long) 0 := ⟨WL_at 772 (by decide +kernel) (by decide +kernel), WL_at 25 (by decide +kernel) (by decide +kernel), by decide +kernel⟩
theorem lkX0_findStanding : gLk yX0_findStanding cX0_findStanding 4 (some .long) 0 := ⟨WL_at 581 (by decide +kernel) (by decide +kernel), WL_at 25 (by decide +kernel) (by decide +kernel), by decide +kernel⟩
theorem lkX0_has : gLk yX0_has cX0_has 2 (some .boolean) 1 := ⟨WL_at 569 (by decide +kernel) (by decide +kernel), WL_at 25 (by decide +kernel) (by decide +kernel), by decide +kernel⟩
theorem lkX0_hasCode : gLk yX0_hasCode cX0_hasCode 3 (some .boolean) 1 := ⟨WL_at 479 (by decide +kernel) (by decide +kernel), WL_at 25 (by decide +kernel) (by decide +kernel), by decide +kernel⟩
theorem lkX0_init : gLk yX0_init cX0_init 1 none 0 := ⟨WL_at 87 (by decide +kernel) (by decide +kernel), WL_at 25 (by decide +kernel) (by decide +kernel), by decide +kernel⟩
theorem lkX0_nextMiss : gLk yX0_nextMiss cX0_nextMiss 4 (some .int) 2 := ⟨WL_at 776 (by decide +kernel) (by decide +kernel), WL_at 25 (by decide +kernel) (by decide +kernel), by decide +kernel⟩
theorem lkX0_setFate : gLk yX0_setFate cX0_setFate 6 none 5 := ⟨WL_at 402 (by decide +kernel) (by decide +kernel), WL_at 25 (by decide +kernel) (by decide +kernel), by decide +kernel⟩
theorem lkX0_standsAgainst : gLk yX0_standsAgainst cX0_standsAgainst 3 (some .boolean) 2 := ⟨WL_at 530 (by decide +kernel) (by decide +kernel), WL_at 25 (by decide +kernel) (by decide +kernel), by decide +kernel⟩
theorem lkX1_encode : gLk yX1_encode cX1_encode 4 (some .int) 4 := ⟨WL_at 561 (by decide +kernel) (by decide +kernel), WL_at 32 (by decide +kernel) (by decide +kernel), by decide +kernel⟩
theorem lkX1_isClaim : gLk yX1_isClaim cX1_isClaim 4 (some .boolean) 4 := ⟨WL_at 441 (by decide +kernel) (by decide +kernel), WL_at 32 (by decide +kernel) (by decide +kernel), by decide +kernel⟩
theorem lkX1_isCode : gLk yX1_isCode cX1_isCode 2 (some .boolean) 1 := ⟨WL_at 438 (by decide +kernel) (by decide +kernel), WL_at 32 (by decide +kernel) (by decide +kernel), by decide +kernel⟩
theorem lkX1_isDigit : gLk yX1_isDigit cX1_isDigit 1 (some .boolean) 1 := ⟨WL_at 376 (by decide +kernel) (by decide +kernel), WL_at 32 (by decide +kernel) (by decide +kernel), by decide +kernel⟩
theorem lkX1_isMetBy : gLk yX1_isMetBy cX1_isMetBy 6 (some .boolean) 2 := ⟨WL_at 395 (by decide +kernel) (by decide +kernel), WL_at 32 (by decide +kernel) (by decide +kernel), by decide +kernel⟩
theorem lkX1_isOffset : gLk yX1_isOffset cX1_isOffset 1 (some .boolean) 1 := ⟨WL_at 445 (by decide +kernel) (by decide +kernel), WL_at 32 (by decide +kernel) (by decide +kernel), by decide +kernel⟩
theorem lkX1_numberOf : gLk yX1_numberOf cX1_numberOf 2 (some .int) 2 := ⟨WL_at 398 (by decide +kernel) (by decide +kernel), WL_at 32 (by decide +kernel) (by decide +kernel), by decide +kernel⟩
theorem lkX10_asNumber : gLk yX10_asNumber cX10_asNumber 1 (some .int) 1 := ⟨WL_at 521 (by decide +kernel) (by decide +kernel), WL_at 22 (by decide +kernel) (by decide +kernel), by decide +kernel⟩
theorem lkX10_candidate : gLk yX10_candidate cX10_candidate 2 (some .int) 1 := ⟨WL_at 470 (by decide +kernel) (by decide +kernel), WL_at 22 (by decide +kernel) (by decide +kernel), by decide +kernel⟩
theorem lkX10_carryOrderOut : gLk yX10_carryOrderOut cX10_carryOrderOut 1 (some .int) 0 := ⟨WL_at 898 (by decide +kernel) (by decide +kernel), WL_at 22 (by decide +kernel) (by decide +kernel), by decide +kernel⟩
theorem lkX10_carryOut : gLk yX10_carryOut cX10_carryOut 2 (some .int) 0 := ⟨WL_at 892 (by decide +kernel) (by decide +kernel), WL_at 22 (by decide +kernel) (by decide +kernel), by decide +kernel⟩
theorem lkX10_claim : gLk yX10_claim cX10_claim 5 (some .int) 4 := ⟨WL_at 558 (by decide +kernel) (by decide +kernel), WL_at 22 (by decide +kernel) (by decide +kernel), by decide +kernel⟩
theorem lkX10_core : gLk yX10_core cX10_core 2 (some .long) 1 := ⟨WL_at 702 (by decide +kernel) (by decide +kernel), WL_at 22 (by decide +kernel) (by decide +kernel), by decide +kernel⟩
theorem lkX10_count : gLk yX10_count cX10_count 2 (some .int) 1 := ⟨WL_at 573 (by decide +kernel) (by decide +kernel), WL_at 22 (by decide +kernel) (by decide +kernel), by decide +kernel⟩
theorem lkX10_drop : gLk yX10_drop cX10_drop 2 (some .int) 1 := ⟨WL_at 454 (by decide +kernel) (by decide +kernel), WL_at 22 (by decide +kernel) (by decide +kernel), by decide +kernel⟩
theorem lkX10_fault : gLk yX10_fault cX10_fault 1 (some .int) 0 := ⟨WL_at 792 (by decide +kernel) (by decide +kernel), WL_at 22 (by decide +kernel) (by decide +kernel), by decide +kernel⟩
theorem lkX10_guess : gLk yX10_guess cX10_guess 2 (some .int) 1 := ⟨WL_at 483 (by decide +kernel) (by decide +kernel), WL_at 22 (by decide +kernel) (by decide +kernel), by decide +kernel⟩
theorem lkX10_holds : gLk yX10_holds cX10_holds 3 (some .int) 2 := ⟨WL_at 665 (by decide +kernel) (by decide +kernel), WL_at 22 (by decide +kernel) (by decide +kernel), by decide +kernel⟩
theorem lkX10_init : gLk yX10_init cX10_init 2 none 0 := ⟨WL_at 39 (by decide +kernel) (by decide +kernel), WL_at 22 (by decide +kernel) (by decide +kernel), by decide +kernel⟩
theorem lkX10_isState : gLk yX10_isState cX10_isState 1 (some .boolean) 1 := ⟨WL_at 167 (by decide +kernel) (by decide +kernel), WL_at 22 (by decide +kernel) (by decide +kernel), by decide +kernel⟩
theorem lkX10_isTrue : gLk yX10_isTrue cX10_isTrue 2 (some .int) 1 := ⟨WL_at 697 (by decide +kernel) (by decide +kernel), WL_at 22 (by decide +kernel) (by decide +kernel), by decide +kernel⟩
theorem lkX10_leads : gLk yX10_leads cX10_leads 3 (some .int) 2 := ⟨WL_at 672 (by decide +kernel) (by decide +kernel), WL_at 22 (by decide +kernel) (by decide +kernel), by decide +kernel⟩
theorem lkX10_needless : gLk yX10_needless cX10_needless 1 (some .long) 0 := ⟨WL_at 768 (by decide +kernel) (by decide +kernel), WL_at 22 (by decide +kernel) (by decide +kernel), by decide +kernel⟩
theorem lkX10_ofCandidate : gLk yX10_ofCandidate cX10_ofCandidate 4 (some .int) 2 := ⟨WL_at 565 (by decide +kernel) (by decide +kernel), WL_at 22 (by decide +kernel) (by decide +kernel), by decide +kernel⟩
theorem lkX10_ofState : gLk yX10_ofState cX10_ofState 2 (some .int) 1 := ⟨WL_at 677 (by decide +kernel) (by decide +kernel), WL_at 22 (by decide +kernel) (by decide +kernel), by decide +kernel⟩
theorem lkX10_ofStep : gLk yX10_ofStep cX10_ofStep 4 (some .int) 2 := ⟨WL_at 645 (by decide +kernel) (by decide +kernel), WL_at 22 (by decide +kernel) (by decide +kernel), by decide +kernel⟩
theorem lkX10_proves : gLk yX10_proves cX10_proves 2 (some .int) 1 := ⟨WL_at 683 (by decide +kernel) (by decide +kernel), WL_at 22 (by decide +kernel) (by decide +kernel), by decide +kernel⟩
theorem lkX10_put : gLk yX10_put cX10_put 4 (some .int) 1 := ⟨WL_at 731 (by decide +kernel) (by decide +kernel), WL_at 22 (by decide +kernel) (by decide +kernel), by decide +kernel⟩
theorem lkX10_restore : gLk yX10_restore cX10_restore 2 (some .int) 1 := ⟨WL_at 628 (by decide +kernel) (by decide +kernel), WL_at 22 (by decide +kernel) (by decide +kernel), by decide +kernel⟩
theorem lkX10_run : gLk yX10_run cX10_run 3 (some .int) 2 := ⟨WL_at 492 (by decide +kernel) (by decide +kernel), WL_at 22 (by decide +kernel) (by decide +kernel), by decide +kernel⟩
theorem lkX10_save : gLk yX10_save cX10_save 2 (some .int) 1 := ⟨WL_at 623 (by decide +kernel) (by decide +kernel), WL_at 22 (by decide +kernel) (by decide +kernel), by decide +kernel⟩
theorem lkX10_settle : gLk yX10_settle cX10_settle 1 (some .int) 0 := ⟨WL_at 757 (by decide +kernel) (by decide +kernel), WL_at 22 (by decide +kernel) (by decide +kernel), by decide +kernel⟩
theorem lkX10_start : gLk yX10_start cX10_start 4 (some .int) 3 := ⟨WL_at 336 (by decide +kernel) (by decide +kernel), WL_at 22 (by decide +kernel) (by decide +kernel), by decide +kernel⟩
theorem lkX10_step : gLk yX10_step cX10_step 6 (some .int) 5 := ⟨WL_at 427 (by decide +kernel) (by decide +kernel), WL_at 22 (by decide +kernel) (by decide +kernel), by decide +kernel⟩
theorem lkX10_strike : gLk yX10_strike cX10_strike 1 (some .int) 0 := ⟨WL_at 535 (by decide +kernel) (by decide +kernel), WL_at 22 (by decide +kernel) (by decide +kernel), by decide +kernel⟩
theorem lkX10_undo : gLk yX10_undo cX10_undo 1 (some .int) 0 := ⟨WL_at 615 (by decide +kernel) (by decide +kernel), WL_at 22 (by decide +kernel) (by decide +kernel), by decide +kernel⟩
theorem lkX10_wipe : gLk yX10_wipe cX10_wipe 2 (some .int) 0 := ⟨WL_at 906 (by decide +kernel) (by decide +kernel), WL_at 22 (by decide +kernel) (by decide +kernel), by decide +kernel⟩
theorem lkX10_witness : gLk yX10_witness cX10_witness 2 (some .int) 1 := ⟨WL_at 693 (by decide +kernel) (by decide +kernel), WL_at 22 (by decide +kernel) (by decide +kernel), by decide +kernel⟩
theorem lkX10_wrap : gLk yX10_wrap cX10_wrap 2 (some .int) 1 := ⟨WL_at 419 (by decide +kernel) (by decide +kernel), WL_at 22 (by decide +kernel) (by decide +kernel), by decide +kernel⟩
theorem lkX2_confirm : gLk yX2_confirm cX2_confirm 2 (some .int) 1 := ⟨WL_at 411 (by decide +kernel) (by decide +kernel), WL_at 28 (by decide +kernel) (by decide +kernel), by decide +kernel⟩
theorem lkX2_init : gLk yX2_init cX2_init 2 none 0 := ⟨WL_at 208 (by decide +kernel) (by decide +kernel), WL_at 28 (by decide +kernel) (by decide +kernel), by decide +kernel⟩
theorem lkX2_moveOldestBehind : gLk yX2_moveOldestBehind cX2_moveOldestBehind 3 none 0 := ⟨WL_at 415 (by decide +kernel) (by decide +kernel), WL_at 28 (by decide +kernel) (by decide +kernel), by decide +kernel⟩
theorem lkX2_prepare : gLk yX2_prepare cX2_prepare 2 none 1 := ⟨WL_at 340 (by decide +kernel) (by decide +kernel), WL_at 28 (by decide +kernel) (by decide +kernel), by decide +kernel⟩
theorem lkX2_takeBack : gLk yX2_takeBack cX2_takeBack 2 (some .boolean) 1 := ⟨WL_at 619 (by decide +kernel) (by decide +kernel), WL_at 28 (by decide +kernel) (by decide +kernel), by decide +kernel⟩
theorem lkX3_addCandidate : gLk yX3_addCandidate cX3_addCandidate 3 (some .int) 1 := ⟨WL_at 474 (by decide +kernel) (by decide +kernel), WL_at 23 (by decide +kernel) (by decide +kernel), by decide +kernel⟩
theorem lkX3_addGuesses : gLk yX3_addGuesses cX3_addGuesses 5 (some .int) 1 := ⟨WL_at 487 (by decide +kernel) (by decide +kernel), WL_at 23 (by decide +kernel) (by decide +kernel), by decide +kernel⟩
theorem lkX3_addStep : gLk yX3_addStep cX3_addStep 7 (some .int) 5 := ⟨WL_at 431 (by decide +kernel) (by decide +kernel), WL_at 23 (by decide +kernel) (by decide +kernel), by decide +kernel⟩
theorem lkX3_beginAnew : gLk yX3_beginAnew cX3_beginAnew 2 none 0 := ⟨WL_at 380 (by decide +kernel) (by decide +kernel), WL_at 23 (by decide +kernel) (by decide +kernel), by decide +kernel⟩
theorem lkX3_copyFrom : gLk yX3_copyFrom cX3_copyFrom 2 none 1 := ⟨WL_at 344 (by decide +kernel) (by decide +kernel), WL_at 23 (by decide +kernel) (by decide +kernel), by decide +kernel⟩
theorem lkX3_countAble : gLk yX3_countAble cX3_countAble 5 (some .int) 2 := ⟨WL_at 655 (by decide +kernel) (by decide +kernel), WL_at 23 (by decide +kernel) (by decide +kernel), by decide +kernel⟩
theorem lkX3_findAllowed : gLk yX3_findAllowed cX3_findAllowed 3 none 1 := ⟨WL_at 543 (by decide +kernel) (by decide +kernel), WL_at 23 (by decide +kernel) (by decide +kernel), by decide +kernel⟩
theorem lkX3_init : gLk yX3_init cX3_init 1 none 0 := ⟨WL_at 47 (by decide +kernel) (by decide +kernel), WL_at 23 (by decide +kernel) (by decide +kernel), by decide +kernel⟩
theorem lkX3_judgeBySeen : gLk yX3_judgeBySeen cX3_judgeBySeen 3 none 1 := ⟨WL_at 384 (by decide +kernel) (by decide +kernel), WL_at 23 (by decide +kernel) (by decide +kernel), by decide +kernel⟩
theorem lkX3_keeps : gLk yX3_keeps cX3_keeps 5 (some .boolean) 1 := ⟨WL_at 610 (by decide +kernel) (by decide +kernel), WL_at 23 (by decide +kernel) (by decide +kernel), by decide +kernel⟩
theorem lkX3_makeRound : gLk yX3_makeRound cX3_makeRound 6 (some .int) 1 := ⟨WL_at 539 (by decide +kernel) (by decide +kernel), WL_at 23 (by decide +kernel) (by decide +kernel), by decide +kernel⟩
theorem lkX3_makeRounds : gLk yX3_makeRounds cX3_makeRounds 3 (some .int) 1 := ⟨WL_at 761 (by decide +kernel) (by decide +kernel), WL_at 23 (by decide +kernel) (by decide +kernel), by decide +kernel⟩
theorem lkX3_makeRun : gLk yX3_makeRun cX3_makeRun 8 (some .int) 2 := ⟨WL_at 496 (by decide +kernel) (by decide +kernel), WL_at 23 (by decide +kernel) (by decide +kernel), by decide +kernel⟩
theorem lkX3_pickTarget : gLk yX3_pickTarget cX3_pickTarget 9 (some .int) 2 := ⟨WL_at 504 (by decide +kernel) (by decide +kernel), WL_at 23 (by decide +kernel) (by decide +kernel), by decide +kernel⟩
theorem lkX3_removeStep : gLk yX3_removeStep cX3_removeStep 3 (some .int) 1 := ⟨WL_at 458 (by decide +kernel) (by decide +kernel), WL_at 23 (by decide +kernel) (by decide +kernel), by decide +kernel⟩
theorem lkX3_setStart : gLk yX3_setStart cX3_setStart 5 (some .int) 3 := ⟨WL_at 373 (by decide +kernel) (by decide +kernel), WL_at 23 (by decide +kernel) (by decide +kernel), by decide +kernel⟩
theorem lkX3_setWrap : gLk yX3_setWrap cX3_setWrap 3 (some .int) 1 := ⟨WL_at 423 (by decide +kernel) (by decide +kernel), WL_at 23 (by decide +kernel) (by decide +kernel), by decide +kernel⟩
theorem lkX3_strikeByRun : gLk yX3_strikeByRun cX3_strikeByRun 3 none 1 := ⟨WL_at 526 (by decide +kernel) (by decide +kernel), WL_at 23 (by decide +kernel) (by decide +kernel), by decide +kernel⟩
theorem lkX3_strikeByStep : gLk yX3_strikeByStep cX3_strikeByStep 6 (some .int) 3 := ⟨WL_at 554 (by decide +kernel) (by decide +kernel), WL_at 23 (by decide +kernel) (by decide +kernel), by decide +kernel⟩
theorem lkX3_target : gLk yX3_target cX3_target 3 (some .int) 2 := ⟨WL_at 508 (by decide +kernel) (by decide +kernel), WL_at 23 (by decide +kernel) (by decide +kernel), by decide +kernel⟩
theorem lkX4_append : gLk yX4_append cX4_append 5 none 2 := ⟨WL_at 741 (by decide +kernel) (by decide +kernel), WL_at 31 (by decide +kernel) (by decide +kernel), by decide +kernel⟩
theorem lkX4_countSigns : gLk yX4_countSigns cX4_countSigns 7 (some .int) 1 := ⟨WL_at 734 (by decide +kernel) (by decide +kernel), WL_at 31 (by decide +kernel) (by decide +kernel), by decide +kernel⟩
theorem lkX4_init : gLk yX4_init cX4_init 1 none 0 := ⟨WL_at 259 (by decide +kernel) (by decide +kernel), WL_at 31 (by decide +kernel) (by decide +kernel), by decide +kernel⟩
theorem lkX4_signAt : gLk yX4_signAt cX4_signAt 2 (some .int) 1 := ⟨WL_at 812 (by decide +kernel) (by decide +kernel), WL_at 31 (by decide +kernel) (by decide +kernel), by decide +kernel⟩
theorem lkX5_begin : gLk yX5_begin cX5_begin 1 none 0 := ⟨WL_at 800 (by decide +kernel) (by decide +kernel), WL_at 30 (by decide +kernel) (by decide +kernel), by decide +kernel⟩
theorem lkX5_findFault : gLk yX5_findFault cX5_findFault 2 (some .int) 0 := ⟨WL_at 796 (by decide +kernel) (by decide +kernel), WL_at 30 (by decide +kernel) (by decide +kernel), by decide +kernel⟩
theorem lkX5_formOf : gLk yX5_formOf cX5_formOf 1 (some .int) 1 := ⟨WL_at 832 (by decide +kernel) (by decide +kernel), WL_at 30 (by decide +kernel) (by decide +kernel), by decide +kernel⟩
theorem lkX5_init : gLk yX5_init cX5_init 1 none 0 := ⟨WL_at 253 (by decide +kernel) (by decide +kernel), WL_at 30 (by decide +kernel) (by decide +kernel), by decide +kernel⟩
theorem lkX5_readAction : gLk yX5_readAction cX5_readAction 1 (some .boolean) 0 := ⟨WL_at 844 (by decide +kernel) (by decide +kernel), WL_at 30 (by decide +kernel) (by decide +kernel), by decide +kernel⟩
theorem lkX5_readBetween : gLk yX5_readBetween cX5_readBetween 4 (some .int) 2 := ⟨WL_at 825 (by decide +kernel) (by decide +kernel), WL_at 30 (by decide +kernel) (by decide +kernel), by decide +kernel⟩
theorem lkX5_readClaim : gLk yX5_readClaim cX5_readClaim 7 (some .boolean) 0 := ⟨WL_at 816 (by decide +kernel) (by decide +kernel), WL_at 30 (by decide +kernel) (by decide +kernel), by decide +kernel⟩
theorem lkX5_readDigit : gLk yX5_readDigit cX5_readDigit 1 (some .int) 0 := ⟨WL_at 840 (by decide +kernel) (by decide +kernel), WL_at 30 (by decide +kernel) (by decide +kernel), by decide +kernel⟩
theorem lkX5_readForm : gLk yX5_readForm cX5_readForm 2 (some .int) 0 := ⟨WL_at 829 (by decide +kernel) (by decide +kernel), WL_at 30 (by decide +kernel) (by decide +kernel), by decide +kernel⟩
theorem lkX5_readNextOrder : gLk yX5_readNextOrder cX5_readNextOrder 1 (some .boolean) 0 := ⟨WL_at 804 (by decide +kernel) (by decide +kernel), WL_at 30 (by decide +kernel) (by decide +kernel), by decide +kernel⟩
theorem lkX5_readNumber : gLk yX5_readNumber cX5_readNumber 4 (some .int) 0 := ⟨WL_at 852 (by decide +kernel) (by decide +kernel), WL_at 30 (by decide +kernel) (by decide +kernel), by decide +kernel⟩
theorem lkX5_readOffset : gLk yX5_readOffset cX5_readOffset 3 (some .int) 0 := ⟨WL_at 836 (by decide +kernel) (by decide +kernel), WL_at 30 (by decide +kernel) (by decide +kernel), by decide +kernel⟩
theorem lkX5_readRun : gLk yX5_readRun cX5_readRun 1 (some .boolean) 0 := ⟨WL_at 848 (by decide +kernel) (by decide +kernel), WL_at 30 (by decide +kernel) (by decide +kernel), by decide +kernel⟩
theorem lkX5_readVar : gLk yX5_readVar cX5_readVar 1 (some .int) 0 := ⟨WL_at 821 (by decide +kernel) (by decide +kernel), WL_at 30 (by decide +kernel) (by decide +kernel), by decide +kernel⟩
theorem lkX5_take : gLk yX5_take cX5_take 2 (some .boolean) 1 := ⟨WL_at 808 (by decide +kernel) (by decide +kernel), WL_at 30 (by decide +kernel) (by decide +kernel), by decide +kernel⟩
theorem lkX6_add : gLk yX6_add cX6_add 3 (some .boolean) 2 := ⟨WL_at 160 (by decide +kernel) (by decide +kernel), WL_at 26 (by decide +kernel) (by decide +kernel), by decide +kernel⟩
theorem lkX6_beginAt : gLk yX6_beginAt cX6_beginAt 2 none 1 := ⟨WL_at 152 (by decide +kernel) (by decide +kernel), WL_at 26 (by decide +kernel) (by decide +kernel), by decide +kernel⟩
theorem lkX6_copyFrom : gLk yX6_copyFrom cX6_copyFrom 2 none 1 := ⟨WL_at 363 (by decide +kernel) (by decide +kernel), WL_at 26 (by decide +kernel) (by decide +kernel), by decide +kernel⟩
theorem lkX6_firstMiss : gLk yX6_firstMiss cX6_firstMiss 3 (some .int) 1 := ⟨WL_at 388 (by decide +kernel) (by decide +kernel), WL_at 26 (by decide +kernel) (by decide +kernel), by decide +kernel⟩
theorem lkX6_init : gLk yX6_init cX6_init 1 none 0 := ⟨WL_at 123 (by decide +kernel) (by decide +kernel), WL_at 26 (by decide +kernel) (by decide +kernel), by decide +kernel⟩
theorem lkX6_runAt : gLk yX6_runAt cX6_runAt 2 (some .int) 1 := ⟨WL_at 407 (by decide +kernel) (by decide +kernel), WL_at 26 (by decide +kernel) (by decide +kernel), by decide +kernel⟩
theorem lkX6_stateAt : gLk yX6_stateAt cX6_stateAt 2 (some .int) 1 := ⟨WL_at 392 (by decide +kernel) (by decide +kernel), WL_at 26 (by decide +kernel) (by decide +kernel), by decide +kernel⟩
theorem lkX7_add : gLk yX7_add cX7_add 2 none 1 := ⟨WL_at 171 (by decide +kernel) (by decide +kernel), WL_at 27 (by decide +kernel) (by decide +kernel), by decide +kernel⟩
theorem lkX7_clear : gLk yX7_clear cX7_clear 2 none 0 := ⟨WL_at 156 (by decide +kernel) (by decide +kernel), WL_at 27 (by decide +kernel) (by decide +kernel), by decide +kernel⟩
theorem lkX7_copyFrom : gLk yX7_copyFrom cX7_copyFrom 2 none 1 := ⟨WL_at 368 (by decide +kernel) (by decide +kernel), WL_at 27 (by decide +kernel) (by decide +kernel), by decide +kernel⟩
theorem lkX7_fill : gLk yX7_fill cX7_fill 2 none 0 := ⟨WL_at 650 (by decide +kernel) (by decide +kernel), WL_at 27 (by decide +kernel) (by decide +kernel), by decide +kernel⟩
theorem lkX7_firstMiss : gLk yX7_firstMiss cX7_firstMiss 3 (some .int) 1 := ⟨WL_at 687 (by decide +kernel) (by decide +kernel), WL_at 27 (by decide +kernel) (by decide +kernel), by decide +kernel⟩
theorem lkX7_has : gLk yX7_has cX7_has 2 (some .boolean) 1 := ⟨WL_at 164 (by decide +kernel) (by decide +kernel), WL_at 27 (by decide +kernel) (by decide +kernel), by decide +kernel⟩
theorem lkX7_init : gLk yX7_init cX7_init 1 none 0 := ⟨WL_at 129 (by decide +kernel) (by decide +kernel), WL_at 27 (by decide +kernel) (by decide +kernel), by decide +kernel⟩
theorem lkX7_size : gLk yX7_size cX7_size 3 (some .int) 0 := ⟨WL_at 592 (by decide +kernel) (by decide +kernel), WL_at 27 (by decide +kernel) (by decide +kernel), by decide +kernel⟩
theorem lkX8_add : gLk yX8_add cX8_add 6 (some .int) 5 := ⟨WL_at 435 (by decide +kernel) (by decide +kernel), WL_at 24 (by decide +kernel) (by decide +kernel), by decide +kernel⟩
theorem lkX8_copyFrom : gLk yX8_copyFrom cX8_copyFrom 3 none 1 := ⟨WL_at 348 (by decide +kernel) (by decide +kernel), WL_at 24 (by decide +kernel) (by decide +kernel), by decide +kernel⟩
theorem lkX8_copyStep : gLk yX8_copyStep cX8_copyStep 4 none 3 := ⟨WL_at 352 (by decide +kernel) (by decide +kernel), WL_at 24 (by decide +kernel) (by decide +kernel), by decide +kernel⟩
theorem lkX8_has : gLk yX8_has cX8_has 2 (some .boolean) 1 := ⟨WL_at 466 (by decide +kernel) (by decide +kernel), WL_at 24 (by decide +kernel) (by decide +kernel), by decide +kernel⟩
theorem lkX8_init : gLk yX8_init cX8_init 1 none 0 := ⟨WL_at 53 (by decide +kernel) (by decide +kernel), WL_at 24 (by decide +kernel) (by decide +kernel), by decide +kernel⟩
theorem lkX8_isAction : gLk yX8_isAction cX8_isAction 4 (some .boolean) 4 := ⟨WL_at 448 (by decide +kernel) (by decide +kernel), WL_at 24 (by decide +kernel) (by decide +kernel), by decide +kernel⟩
theorem lkX8_remove : gLk yX8_remove cX8_remove 3 (some .int) 1 := ⟨WL_at 462 (by decide +kernel) (by decide +kernel), WL_at 24 (by decide +kernel) (by decide +kernel), by decide +kernel⟩
theorem lkX8_replace : gLk yX8_replace cX8_replace 4 (some .int) 3 := ⟨WL_at 518 (by decide +kernel) (by decide +kernel), WL_at 24 (by decide +kernel) (by decide +kernel), by decide +kernel⟩
theorem lkX8_target : gLk yX8_target cX8_target 7 (some .int) 3 := ⟨WL_at 513 (by decide +kernel) (by decide +kernel), WL_at 24 (by decide +kernel) (by decide +kernel), by decide +kernel⟩
theorem lkX9_addMisses : gLk yX9_addMisses cX9_addMisses 4 none 2 := ⟨WL_at 718 (by decide +kernel) (by decide +kernel), WL_at 29 (by decide +kernel) (by decide +kernel), by decide +kernel⟩
theorem lkX9_countMisses : gLk yX9_countMisses cX9_countMisses 3 none 1 := ⟨WL_at 714 (by decide +kernel) (by decide +kernel), WL_at 29 (by decide +kernel) (by decide +kernel), by decide +kernel⟩
theorem lkX9_findCore : gLk yX9_findCore cX9_findCore 7 (some .long) 2 := ⟨WL_at 709 (by decide +kernel) (by decide +kernel), WL_at 29 (by decide +kernel) (by decide +kernel), by decide +kernel⟩
theorem lkX9_findReached : gLk yX9_findReached cX9_findReached 6 none 1 := ⟨WL_at 597 (by decide +kernel) (by decide +kernel), WL_at 29 (by decide +kernel) (by decide +kernel), by decide +kernel⟩
theorem lkX9_init : gLk yX9_init cX9_init 1 none 0 := ⟨WL_at 225 (by decide +kernel) (by decide +kernel), WL_at 29 (by decide +kernel) (by decide +kernel), by decide +kernel⟩
theorem lkX9_isEnough : gLk yX9_isEnough cX9_isEnough 4 (some .boolean) 2 := ⟨WL_at 723 (by decide +kernel) (by decide +kernel), WL_at 29 (by decide +kernel) (by decide +kernel), by decide +kernel⟩
theorem lkX9_isKernel : gLk yX9_isKernel cX9_isKernel 2 (some .boolean) 1 := ⟨WL_at 605 (by decide +kernel) (by decide +kernel), WL_at 29 (by decide +kernel) (by decide +kernel), by decide +kernel⟩
theorem lcJ13_314 : Cond.constantLong RJ13 314 (6148914691236517205) ∈ WL := WL_at 585 (by decide +kernel) (by decide +kernel)
theorem lcJ13_316 : Cond.constantLong RJ13 316 (3689348814741910323) ∈ WL := WL_at 586 (by decide +kernel) (by decide +kernel)
theorem lcJ13_318 : Cond.constantLong RJ13 318 (1085102592571150095) ∈ WL := WL_at 587 (by decide +kernel) (by decide +kernel)
theorem lIL_100 : gLI RL 100 yX10_init := ⟨WL_at 37 (by decide +kernel) (by decide +kernel), WL_at 38 (by decide +kernel) (by decide +kernel), rfl⟩
theorem lcL_204 : Cond.constantLong RL 204 (8298509452699577137) ∈ WL := WL_at 885 (by decide +kernel) (by decide +kernel)
theorem lSL_135 : gLS RL 135 yL_puts := ⟨WL_at 786 (by decide +kernel) (by decide +kernel), WL_at 787 (by decide +kernel) (by decide +kernel)⟩
theorem lcL_206 : Cond.constantLong RL 206 (4279370982167896931) ∈ WL := WL_at 886 (by decide +kernel) (by decide +kernel)
theorem lcL_208 : Cond.constantLong RL 208 (4409089333213356592) ∈ WL := WL_at 887 (by decide +kernel) (by decide +kernel)
theorem lcL_210 : Cond.constantLong RL 210 (16732574817925995) ∈ WL := WL_at 888 (by decide +kernel) (by decide +kernel)
theorem lVL_13 : gLV RL 13 yX10_count := ⟨WL_at 570 (by decide +kernel) (by decide +kernel), WL_at 571 (by decide +kernel) (by decide +kernel), WL_at 572 (by decide +kernel) (by decide +kernel)⟩
theorem lVL_212 : gLV RL 212 yX10_carryOut := ⟨WL_at 889 (by decide +kernel) (by decide +kernel), WL_at 890 (by decide +kernel) (by decide +kernel), WL_at 891 (by decide +kernel) (by decide +kernel)⟩
theorem lSL_109 : gLS RL 109 yL_isCandidate := ⟨WL_at 750 (by decide +kernel) (by decide +kernel), WL_at 751 (by decide +kernel) (by decide +kernel)⟩
theorem lVL_23 : gLV RL 23 yX10_ofCandidate := ⟨WL_at 562 (by decide +kernel) (by decide +kernel), WL_at 563 (by decide +kernel) (by decide +kernel), WL_at 564 (by decide +kernel) (by decide +kernel)⟩
theorem lcL_215 : Cond.constantLong RL 215 (109269292759915) ∈ WL := WL_at 899 (by decide +kernel) (by decide +kernel)
theorem lcL_217 : Cond.constantLong RL 217 (125551191800683) ∈ WL := WL_at 900 (by decide +kernel) (by decide +kernel)
theorem lcL_219 : Cond.constantLong RL 219 (8314276247528242785) ∈ WL := WL_at 901 (by decide +kernel) (by decide +kernel)
theorem lVL_19 : gLV RL 19 yX10_ofStep := ⟨WL_at 642 (by decide +kernel) (by decide +kernel), WL_at 643 (by decide +kernel) (by decide +kernel), WL_at 644 (by decide +kernel) (by decide +kernel)⟩
theorem lVL_101 : gLV RL 101 yX10_claim := ⟨WL_at 555 (by decide +kernel) (by decide +kernel), WL_at 556 (by decide +kernel) (by decide +kernel), WL_at 557 (by decide +kernel) (by decide +kernel)⟩
theorem lcL_221 : Cond.constantLong RL 221 (27973918198149435) ∈ WL := WL_at 902 (by decide +kernel) (by decide +kernel)
theorem lcL_148 : Cond.constantLong RL 148 (25386) ∈ WL := WL_at 854 (by decide +kernel) (by decide +kernel)
theorem lcL_194 : Cond.constantLong RL 194 (27451) ∈ WL := WL_at 877 (by decide +kernel) (by decide +kernel)
theorem lVL_223 : gLV RL 223 yX10_wipe := ⟨WL_at 903 (by decide +kernel) (by decide +kernel), WL_at 904 (by decide +kernel) (by decide +kernel), WL_at 905 (by decide +kernel) (by decide +kernel)⟩
theorem lcL_226 : Cond.constantLong RL 226 (7740398493674204011) ∈ WL := WL_at 907 (by decide +kernel) (by decide +kernel)
theorem lVL_78 : gLV RL 78 yX10_put := ⟨WL_at 728 (by decide +kernel) (by decide +kernel), WL_at 729 (by decide +kernel) (by decide +kernel), WL_at 730 (by decide +kernel) (by decide +kernel)⟩
theorem lcL_228 : Cond.constantLong RL 228 (107) ∈ WL := WL_at 908 (by decide +kernel) (by decide +kernel)
theorem lVL_105 : gLV RL 105 yX10_undo := ⟨WL_at 612 (by decide +kernel) (by decide +kernel), WL_at 613 (by decide +kernel) (by decide +kernel), WL_at 614 (by decide +kernel) (by decide +kernel)⟩
theorem lVL_51 : gLV RL 51 yX10_holds := ⟨WL_at 662 (by decide +kernel) (by decide +kernel), WL_at 663 (by decide +kernel) (by decide +kernel), WL_at 664 (by decide +kernel) (by decide +kernel)⟩
theorem lVL_89 : gLV RL 89 yX10_restore := ⟨WL_at 625 (by decide +kernel) (by decide +kernel), WL_at 626 (by decide +kernel) (by decide +kernel), WL_at 627 (by decide +kernel) (by decide +kernel)⟩
theorem lVL_70 : gLV RL 70 yX10_core := ⟨WL_at 699 (by decide +kernel) (by decide +kernel), WL_at 700 (by decide +kernel) (by decide +kernel), WL_at 701 (by decide +kernel) (by decide +kernel)⟩
theorem lVL_35 : gLV RL 35 yX10_step := ⟨WL_at 424 (by decide +kernel) (by decide +kernel), WL_at 425 (by decide +kernel) (by decide +kernel), WL_at 426 (by decide +kernel) (by decide +kernel)⟩
theorem lVL_54 : gLV RL 54 yX10_leads := ⟨WL_at 669 (by decide +kernel) (by decide +kernel), WL_at 670 (by decide +kernel) (by decide +kernel), WL_at 671 (by decide +kernel) (by decide +kernel)⟩
theorem lVL_42 : gLV RL 42 yX10_candidate := ⟨WL_at 467 (by decide +kernel) (by decide +kernel), WL_at 468 (by decide +kernel) (by decide +kernel), WL_at 469 (by decide +kernel) (by decide +kernel)⟩
theorem lVL_48 : gLV RL 48 yX10_run := ⟨WL_at 489 (by decide +kernel) (by decide +kernel), WL_at 490 (by decide +kernel) (by decide +kernel), WL_at 491 (by decide +kernel) (by decide +kernel)⟩
theorem lVL_60 : gLV RL 60 yX10_proves := ⟨WL_at 680 (by decide +kernel) (by decide +kernel), WL_at 681 (by decide +kernel) (by decide +kernel), WL_at 682 (by decide +kernel) (by decide +kernel)⟩
theorem lcL_113 : Cond.constantLong RL 113 (-5) ∈ WL := WL_at 753 (by decide +kernel) (by decide +kernel)
theorem lVL_63 : gLV RL 63 yX10_witness := ⟨WL_at 690 (by decide +kernel) (by decide +kernel), WL_at 691 (by decide +kernel) (by decide +kernel), WL_at 692 (by decide +kernel) (by decide +kernel)⟩
theorem lVL_115 : gLV RL 115 yX10_strike := ⟨WL_at 532 (by decide +kernel) (by decide +kernel), WL_at 533 (by decide +kernel) (by decide +kernel), WL_at 534 (by decide +kernel) (by decide +kernel)⟩
theorem lVL_118 : gLV RL 118 yX10_settle := ⟨WL_at 754 (by decide +kernel) (by decide +kernel), WL_at 755 (by decide +kernel) (by decide +kernel), WL_at 756 (by decide +kernel) (by decide +kernel)⟩
theorem lVL_66 : gLV RL 66 yX10_isTrue := ⟨WL_at 694 (by decide +kernel) (by decide +kernel), WL_at 695 (by decide +kernel) (by decide +kernel), WL_at 696 (by decide +kernel) (by decide +kernel)⟩
theorem lcL_121 : Cond.constantLong RL 121 (-6) ∈ WL := WL_at 763 (by decide +kernel) (by decide +kernel)
theorem lcL_123 : Cond.constantLong RL 123 (2) ∈ WL := WL_at 764 (by decide +kernel) (by decide +kernel)
theorem lVL_125 : gLV RL 125 yX10_needless := ⟨WL_at 765 (by decide +kernel) (by decide +kernel), WL_at 766 (by decide +kernel) (by decide +kernel), WL_at 767 (by decide +kernel) (by decide +kernel)⟩
theorem lcL_129 : Cond.constantLong RL 129 (16) ∈ WL := WL_at 779 (by decide +kernel) (by decide +kernel)
theorem lVL_57 : gLV RL 57 yX10_ofState := ⟨WL_at 674 (by decide +kernel) (by decide +kernel), WL_at 675 (by decide +kernel) (by decide +kernel), WL_at 676 (by decide +kernel) (by decide +kernel)⟩
theorem lVL_45 : gLV RL 45 yX10_guess := ⟨WL_at 480 (by decide +kernel) (by decide +kernel), WL_at 481 (by decide +kernel) (by decide +kernel), WL_at 482 (by decide +kernel) (by decide +kernel)⟩
theorem lSL_131 : gLS RL 131 yL_refused := ⟨WL_at 656 (by decide +kernel) (by decide +kernel), WL_at 657 (by decide +kernel) (by decide +kernel)⟩
theorem lVL_32 : gLV RL 32 yX10_wrap := ⟨WL_at 416 (by decide +kernel) (by decide +kernel), WL_at 417 (by decide +kernel) (by decide +kernel), WL_at 418 (by decide +kernel) (by decide +kernel)⟩
theorem lVL_39 : gLV RL 39 yX10_drop := ⟨WL_at 451 (by decide +kernel) (by decide +kernel), WL_at 452 (by decide +kernel) (by decide +kernel), WL_at 453 (by decide +kernel) (by decide +kernel)⟩
theorem lVL_26 : gLV RL 26 yX10_start := ⟨WL_at 333 (by decide +kernel) (by decide +kernel), WL_at 334 (by decide +kernel) (by decide +kernel), WL_at 335 (by decide +kernel) (by decide +kernel)⟩
theorem lVL_86 : gLV RL 86 yX10_save := ⟨WL_at 620 (by decide +kernel) (by decide +kernel), WL_at 621 (by decide +kernel) (by decide +kernel), WL_at 622 (by decide +kernel) (by decide +kernel)⟩
theorem lciL_8 : Cond.constant RL 8 (2654435) ∈ WL := WL_at 636 (by decide +kernel) (by decide +kernel)
theorem lVL_139 : gLV RL 139 yX10_fault := ⟨WL_at 789 (by decide +kernel) (by decide +kernel), WL_at 790 (by decide +kernel) (by decide +kernel), WL_at 791 (by decide +kernel) (by decide +kernel)⟩
theorem lSL_230 : gLS RL 230 yL_codes := ⟨WL_at 744 (by decide +kernel) (by decide +kernel), WL_at 745 (by decide +kernel) (by decide +kernel)⟩
theorem lSL_234 : gLS RL 234 yL_counts := ⟨WL_at 747 (by decide +kernel) (by decide +kernel), WL_at 748 (by decide +kernel) (by decide +kernel)⟩
theorem lSL_237 : gLS RL 237 yL_texts := ⟨WL_at 780 (by decide +kernel) (by decide +kernel), WL_at 781 (by decide +kernel) (by decide +kernel)⟩
theorem lSL_240 : gLS RL 240 yL_carried := ⟨WL_at 882 (by decide +kernel) (by decide +kernel), WL_at 883 (by decide +kernel) (by decide +kernel)⟩
theorem lSL_243 : gLS RL 243 yL_drawn := ⟨WL_at 633 (by decide +kernel) (by decide +kernel), WL_at 634 (by decide +kernel) (by decide +kernel)⟩
theorem lSL_247 : gLS RL 247 yL_part := ⟨WL_at 629 (by decide +kernel) (by decide +kernel), WL_at 630 (by decide +kernel) (by decide +kernel)⟩
theorem lSL_92 : gLS RL 92 yL_seen := ⟨WL_at 637 (by decide +kernel) (by decide +kernel), WL_at 638 (by decide +kernel) (by decide +kernel)⟩
theorem lciL_7 : Cond.constant RL 7 (2147483647) ∈ WL := WL_at 632 (by decide +kernel) (by decide +kernel)
theorem lSL_96 : gLS RL 96 yL_refusesAny := ⟨WL_at 659 (by decide +kernel) (by decide +kernel), WL_at 660 (by decide +kernel) (by decide +kernel)⟩
theorem lciL_69 : Cond.constant RL 69 (-2147483648) ∈ WL := WL_at 698 (by decide +kernel) (by decide +kernel)
theorem lcL_74 : Cond.constantLong RL 74 (-2) ∈ WL := WL_at 726 (by decide +kernel) (by decide +kernel)
theorem lcL_76 : Cond.constantLong RL 76 (32) ∈ WL := WL_at 727 (by decide +kernel) (by decide +kernel)
theorem lcL_82 : Cond.constantLong RL 82 (6488163) ∈ WL := WL_at 742 (by decide +kernel) (by decide +kernel)
theorem lcL_84 : Cond.constantLong RL 84 (32611) ∈ WL := WL_at 743 (by decide +kernel) (by decide +kernel)
theorem lcL_9 : Cond.constantLong RL 9 (7) ∈ WL := WL_at 640 (by decide +kernel) (by decide +kernel)
theorem lcL_11 : Cond.constantLong RL 11 (31) ∈ WL := WL_at 641 (by decide +kernel) (by decide +kernel)
theorem lSL_142 : gLS RL 142 yL_faultOf := ⟨WL_at 783 (by decide +kernel) (by decide +kernel), WL_at 784 (by decide +kernel) (by decide +kernel)⟩
theorem lcL_146 : Cond.constantLong RL 146 (99) ∈ WL := WL_at 853 (by decide +kernel) (by decide +kernel)
theorem lcL_150 : Cond.constantLong RL 150 (25441) ∈ WL := WL_at 855 (by decide +kernel) (by decide +kernel)
theorem lcL_152 : Cond.constantLong RL 152 (6512957) ∈ WL := WL_at 856 (by decide +kernel) (by decide +kernel)
theorem lcL_154 : Cond.constantLong RL 154 (1667317048) ∈ WL := WL_at 857 (by decide +kernel) (by decide +kernel)
theorem lcL_156 : Cond.constantLong RL 156 (1667317043) ∈ WL := WL_at 858 (by decide +kernel) (by decide +kernel)
theorem lcL_158 : Cond.constantLong RL 158 (1667317090) ∈ WL := WL_at 859 (by decide +kernel) (by decide +kernel)
theorem lcL_160 : Cond.constantLong RL 160 (426833175083) ∈ WL := WL_at 860 (by decide +kernel) (by decide +kernel)
theorem lcL_162 : Cond.constantLong RL 162 (109269292821815) ∈ WL := WL_at 861 (by decide +kernel) (by decide +kernel)
theorem lcL_164 : Cond.constantLong RL 164 (1667317346) ∈ WL := WL_at 862 (by decide +kernel) (by decide +kernel)
theorem lcL_166 : Cond.constantLong RL 166 (1667311155) ∈ WL := WL_at 863 (by decide +kernel) (by decide +kernel)
theorem lcL_168 : Cond.constantLong RL 168 (1667311202) ∈ WL := WL_at 864 (by decide +kernel) (by decide +kernel)
theorem lcL_170 : Cond.constantLong RL 170 (426831667763) ∈ WL := WL_at 865 (by decide +kernel) (by decide +kernel)
theorem lcL_172 : Cond.constantLong RL 172 (426831602489) ∈ WL := WL_at 866 (by decide +kernel) (by decide +kernel)
theorem lcL_174 : Cond.constantLong RL 174 (1935752497) ∈ WL := WL_at 867 (by decide +kernel) (by decide +kernel)
theorem lcL_176 : Cond.constantLong RL 176 (1932147297) ∈ WL := WL_at 868 (by decide +kernel) (by decide +kernel)
theorem lcL_178 : Cond.constantLong RL 178 (126625205271857) ∈ WL := WL_at 869 (by decide +kernel) (by decide +kernel)
theorem lcL_180 : Cond.constantLong RL 180 (126625205288545) ∈ WL := WL_at 870 (by decide +kernel) (by decide +kernel)
theorem lcL_182 : Cond.constantLong RL 182 (8298509452699642680) ∈ WL := WL_at 871 (by decide +kernel) (by decide +kernel)
theorem lcL_184 : Cond.constantLong RL 184 (126625205264689) ∈ WL := WL_at 872 (by decide +kernel) (by decide +kernel)
theorem lcL_186 : Cond.constantLong RL 186 (29233) ∈ WL := WL_at 873 (by decide +kernel) (by decide +kernel)
theorem lcL_188 : Cond.constantLong RL 188 (490434800178) ∈ WL := WL_at 874 (by decide +kernel) (by decide +kernel)
theorem lcL_190 : Cond.constantLong RL 190 (32142230381668914) ∈ WL := WL_at 875 (by decide +kernel) (by decide +kernel)
theorem lcL_192 : Cond.constantLong RL 192 (8230672711680604473) ∈ WL := WL_at 876 (by decide +kernel) (by decide +kernel)
theorem lcL_196 : Cond.constantLong RL 196 (27499) ∈ WL := WL_at 878 (by decide +kernel) (by decide +kernel)
theorem lcL_198 : Cond.constantLong RL 198 (7027576) ∈ WL := WL_at 879 (by decide +kernel) (by decide +kernel)
theorem lcL_200 : Cond.constantLong RL 200 (109269276048235) ∈ WL := WL_at 880 (by decide +kernel) (by decide +kernel)
theorem lcL_202 : Cond.constantLong RL 202 (6498859) ∈ WL := WL_at 881 (by decide +kernel) (by decide +kernel)
theorem lfX0_27 : gLf RX0 27 0 0 RX0 TX0 6 := ⟨uws_X0, rfl, by decide, WL_at 89 (by decide +kernel) (by decide +kernel)⟩
theorem lpX0_27 : gLp RX0 27 0 0 RX0 TX0 6 tyX0 := ⟨lfX0_27, tyX0_ok, nmX0⟩
theorem lfX0_15 : gLf RX0 15 0 2 RX0 TX0 6 := ⟨uws_X0, rfl, by decide, WL_at 97 (by decide +kernel) (by decide +kernel)⟩
theorem lpX0_15 : gLp RX0 15 0 2 RX0 TX0 6 tyX0 := ⟨lfX0_15, tyX0_ok, nmX0⟩
theorem lfX0_9 : gLf RX0 9 0 1 RX0 TX0 6 := ⟨uws_X0, rfl, by decide, WL_at 93 (by decide +kernel) (by decide +kernel)⟩
theorem lpX0_9 : gLp RX0 9 0 1 RX0 TX0 6 tyX0 := ⟨lfX0_9, tyX0_ok, nmX0⟩
theorem lSX0_47 : gLS RX0 47 yX1_isMetBy := ⟨WL_at 531 (by decide +kernel) (by decide +kernel), WL_at 394 (by decide +kernel) (by decide +kernel)⟩
theorem lfX0_18 : gLf RX0 18 0 3 RX0 TX0 6 := ⟨uws_X0, rfl, by decide, WL_at 100 (by decide +kernel) (by decide +kernel)⟩
theorem lpX0_18 : gLp RX0 18 0 3 RX0 TX0 6 tyX0 := ⟨lfX0_18, tyX0_ok, nmX0⟩
theorem lfX0_21 : gLf RX0 21 0 4 RX0 TX0 6 := ⟨uws_X0, rfl, by decide, WL_at 102 (by decide +kernel) (by decide +kernel)⟩
theorem lpX0_21 : gLp RX0 21 0 4 RX0 TX0 6 tyX0 := ⟨lfX0_21, tyX0_ok, nmX0⟩
theorem lfX0_24 : gLf RX0 24 0 5 RX0 TX0 6 := ⟨uws_X0, rfl, by decide, WL_at 104 (by decide +kernel) (by decide +kernel)⟩
theorem lpX0_24 : gLp RX0 24 0 5 RX0 TX0 6 tyX0 := ⟨lfX0_24, tyX0_ok, nmX0⟩
theorem lVX0_37 : gLV RX0 37 yX0_findStanding := ⟨WL_at 578 (by decide +kernel) (by decide +kernel), WL_at 579 (by decide +kernel) (by decide +kernel), WL_at 580 (by decide +kernel) (by decide +kernel)⟩
theorem lSX0_41 : gLS RX0 41 yJ13_bitCount_95d88 := ⟨WL_at 582 (by decide +kernel) (by decide +kernel), WL_at 583 (by decide +kernel) (by decide +kernel)⟩
theorem lVX0_56 : gLV RX0 56 yX0_nextMiss := ⟨WL_at 773 (by decide +kernel) (by decide +kernel), WL_at 774 (by decide +kernel) (by decide +kernel), WL_at 775 (by decide +kernel) (by decide +kernel)⟩
theorem lcX0_60 : Cond.constantLong RX0 60 (-1) ∈ WL := WL_at 778 (by decide +kernel) (by decide +kernel)
theorem lVX0_53 : gLV RX0 53 yX0_standsAgainst := ⟨WL_at 777 (by decide +kernel) (by decide +kernel), WL_at 528 (by decide +kernel) (by decide +kernel), WL_at 529 (by decide +kernel) (by decide +kernel)⟩
theorem lSX1_9 : gLS RX1 9 yX1_isClaim := ⟨WL_at 439 (by decide +kernel) (by decide +kernel), WL_at 440 (by decide +kernel) (by decide +kernel)⟩
theorem lSX1_15 : gLS RX1 15 yX1_isDigit := ⟨WL_at 442 (by decide +kernel) (by decide +kernel), WL_at 375 (by decide +kernel) (by decide +kernel)⟩
theorem lSX1_19 : gLS RX1 19 yX1_isOffset := ⟨WL_at 443 (by decide +kernel) (by decide +kernel), WL_at 444 (by decide +kernel) (by decide +kernel)⟩
theorem lSX1_22 : gLS RX1 22 yX1_numberOf := ⟨WL_at 396 (by decide +kernel) (by decide +kernel), WL_at 397 (by decide +kernel) (by decide +kernel)⟩
theorem lfX10_19 : gLf RX10 19 9 1 RX10 TX10 7 := ⟨uws_X10, rfl, by decide, WL_at 312 (by decide +kernel) (by decide +kernel)⟩
theorem lpX10_19 : gLp RX10 19 9 1 RX10 TX10 7 tyX10 := ⟨lfX10_19, tyX10_ok, nmX10⟩
theorem lfX10_10 : gLf RX10 10 9 0 RX10 TX10 7 := ⟨uws_X10, rfl, by decide, WL_at 311 (by decide +kernel) (by decide +kernel)⟩
theorem lpX10_10 : gLp RX10 10 9 0 RX10 TX10 7 tyX10 := ⟨lfX10_10, tyX10_ok, nmX10⟩
theorem lVX10_50 : gLV RX10 50 yX2_prepare := ⟨WL_at 337 (by decide +kernel) (by decide +kernel), WL_at 338 (by decide +kernel) (by decide +kernel), WL_at 339 (by decide +kernel) (by decide +kernel)⟩
theorem lVX10_72 : gLV RX10 72 yX3_addCandidate := ⟨WL_at 471 (by decide +kernel) (by decide +kernel), WL_at 472 (by decide +kernel) (by decide +kernel), WL_at 473 (by decide +kernel) (by decide +kernel)⟩
theorem lVX10_58 : gLV RX10 58 yX2_confirm := ⟨WL_at 408 (by decide +kernel) (by decide +kernel), WL_at 409 (by decide +kernel) (by decide +kernel), WL_at 410 (by decide +kernel) (by decide +kernel)⟩
theorem lfX10_41 : gLf RX10 41 9 6 RX10 TX10 7 := ⟨uws_X10, rfl, by decide, WL_at 317 (by decide +kernel) (by decide +kernel)⟩
theorem lpX10_41 : gLp RX10 41 9 6 RX10 TX10 7 tyX10 := ⟨lfX10_41, tyX10_ok, nmX10⟩
theorem lfX10_278 : gLf RX10 278 4 2 RX5 TX5 10 := ⟨uws_X5, rfl, by decide, WL_at 275 (by decide +kernel) (by decide +kernel)⟩
theorem lpX10_278 : gLp RX10 278 4 2 RX5 TX5 10 tyX5 := ⟨lfX10_278, tyX5_ok, nmX5⟩
theorem lfX10_281 : gLf RX10 281 4 3 RX5 TX5 10 := ⟨uws_X5, rfl, by decide, WL_at 277 (by decide +kernel) (by decide +kernel)⟩
theorem lpX10_281 : gLp RX10 281 4 3 RX5 TX5 10 tyX5 := ⟨lfX10_281, tyX5_ok, nmX5⟩
theorem lfX10_284 : gLf RX10 284 4 4 RX5 TX5 10 := ⟨uws_X5, rfl, by decide, WL_at 279 (by decide +kernel) (by decide +kernel)⟩
theorem lpX10_284 : gLp RX10 284 4 4 RX5 TX5 10 tyX5 := ⟨lfX10_284, tyX5_ok, nmX5⟩
theorem lfX10_286 : gLf RX10 286 4 5 RX5 TX5 10 := ⟨uws_X5, rfl, by decide, WL_at 281 (by decide +kernel) (by decide +kernel)⟩
theorem lpX10_286 : gLp RX10 286 4 5 RX5 TX5 10 tyX5 := ⟨lfX10_286, tyX5_ok, nmX5⟩
theorem lfX10_288 : gLf RX10 288 4 6 RX5 TX5 10 := ⟨uws_X5, rfl, by decide, WL_at 283 (by decide +kernel) (by decide +kernel)⟩
theorem lpX10_288 : gLp RX10 288 4 6 RX5 TX5 10 tyX5 := ⟨lfX10_288, tyX5_ok, nmX5⟩
theorem lfX10_290 : gLf RX10 290 4 7 RX5 TX5 10 := ⟨uws_X5, rfl, by decide, WL_at 285 (by decide +kernel) (by decide +kernel)⟩
theorem lpX10_290 : gLp RX10 290 4 7 RX5 TX5 10 tyX5 := ⟨lfX10_290, tyX5_ok, nmX5⟩
theorem lVX10_65 : gLV RX10 65 yX3_addStep := ⟨WL_at 428 (by decide +kernel) (by decide +kernel), WL_at 429 (by decide +kernel) (by decide +kernel), WL_at 430 (by decide +kernel) (by decide +kernel)⟩
theorem lfX10_292 : gLf RX10 292 4 8 RX5 TX5 10 := ⟨uws_X5, rfl, by decide, WL_at 287 (by decide +kernel) (by decide +kernel)⟩
theorem lpX10_292 : gLp RX10 292 4 8 RX5 TX5 10 tyX5 := ⟨lfX10_292, tyX5_ok, nmX5⟩
theorem lfX10_295 : gLf RX10 295 4 9 RX5 TX5 10 := ⟨uws_X5, rfl, by decide, WL_at 289 (by decide +kernel) (by decide +kernel)⟩
theorem lpX10_295 : gLp RX10 295 4 9 RX5 TX5 10 tyX5 := ⟨lfX10_295, tyX5_ok, nmX5⟩
theorem lVX10_78 : gLV RX10 78 yX3_makeRun := ⟨WL_at 493 (by decide +kernel) (by decide +kernel), WL_at 494 (by decide +kernel) (by decide +kernel), WL_at 495 (by decide +kernel) (by decide +kernel)⟩
theorem lfX10_34 : gLf RX10 34 9 4 RX10 TX10 7 := ⟨uws_X10, rfl, by decide, WL_at 315 (by decide +kernel) (by decide +kernel)⟩
theorem lpX10_34 : gLp RX10 34 9 4 RX10 TX10 7 tyX10 := ⟨lfX10_34, tyX10_ok, nmX10⟩
theorem lfX10_82 : gLf RX10 82 8 1 RX9 TX9 5 := ⟨uws_X9, rfl, by decide, WL_at 232 (by decide +kernel) (by decide +kernel)⟩
theorem lpX10_82 : gLp RX10 82 8 1 RX9 TX9 5 tyX9 := ⟨lfX10_82, tyX9_ok, nmX9⟩
theorem lVX10_90 : gLV RX10 90 yX3_makeRounds := ⟨WL_at 758 (by decide +kernel) (by decide +kernel), WL_at 759 (by decide +kernel) (by decide +kernel), WL_at 760 (by decide +kernel) (by decide +kernel)⟩
theorem lVX10_259 : gLV RX10 259 yX5_findFault := ⟨WL_at 793 (by decide +kernel) (by decide +kernel), WL_at 794 (by decide +kernel) (by decide +kernel), WL_at 795 (by decide +kernel) (by decide +kernel)⟩
theorem lVX10_262 : gLV RX10 262 yX5_begin := ⟨WL_at 893 (by decide +kernel) (by decide +kernel), WL_at 798 (by decide +kernel) (by decide +kernel), WL_at 799 (by decide +kernel) (by decide +kernel)⟩
theorem lVX10_265 : gLV RX10 265 yX5_readNextOrder := ⟨WL_at 894 (by decide +kernel) (by decide +kernel), WL_at 802 (by decide +kernel) (by decide +kernel), WL_at 803 (by decide +kernel) (by decide +kernel)⟩
theorem lVX10_269 : gLV RX10 269 yX10_carryOrderOut := ⟨WL_at 895 (by decide +kernel) (by decide +kernel), WL_at 897 (by decide +kernel) (by decide +kernel), WL_at 20 (by decide +kernel) (by decide +kernel)⟩
theorem lfX10_49 : gLf RX10 49 9 5 RX10 TX10 7 := ⟨uws_X10, rfl, by decide, WL_at 316 (by decide +kernel) (by decide +kernel)⟩
theorem lpX10_49 : gLp RX10 49 9 5 RX10 TX10 7 tyX10 := ⟨lfX10_49, tyX10_ok, nmX10⟩
theorem lfX10_221 : gLf RX10 221 3 0 RX4 TX4 2 := ⟨uws_X4, rfl, by decide, WL_at 263 (by decide +kernel) (by decide +kernel)⟩
theorem lpX10_221 : gLp RX10 221 3 0 RX4 TX4 2 tyX4 := ⟨lfX10_221, tyX4_ok, nmX4⟩
theorem lSX10_93 : gLS RX10 93 yX1_encode := ⟨WL_at 559 (by decide +kernel) (by decide +kernel), WL_at 560 (by decide +kernel) (by decide +kernel)⟩
theorem lSX10_99 : gLS RX10 99 yX1_isCode := ⟨WL_at 666 (by decide +kernel) (by decide +kernel), WL_at 437 (by decide +kernel) (by decide +kernel)⟩
theorem lcX10_241 : Cond.constantLong RX10 241 (-2) ∈ WL := WL_at 703 (by decide +kernel) (by decide +kernel)
theorem lVX10_217 : gLV RX10 217 yX9_isKernel := ⟨WL_at 602 (by decide +kernel) (by decide +kernel), WL_at 603 (by decide +kernel) (by decide +kernel), WL_at 604 (by decide +kernel) (by decide +kernel)⟩
theorem lcX10_243 : Cond.constantLong RX10 243 (-5) ∈ WL := WL_at 704 (by decide +kernel) (by decide +kernel)
theorem lVX10_234 : gLV RX10 234 yX7_firstMiss := ⟨WL_at 684 (by decide +kernel) (by decide +kernel), WL_at 685 (by decide +kernel) (by decide +kernel), WL_at 686 (by decide +kernel) (by decide +kernel)⟩
theorem lcX10_245 : Cond.constantLong RX10 245 (-6) ∈ WL := WL_at 705 (by decide +kernel) (by decide +kernel)
theorem lVX10_247 : gLV RX10 247 yX9_findCore := ⟨WL_at 706 (by decide +kernel) (by decide +kernel), WL_at 707 (by decide +kernel) (by decide +kernel), WL_at 708 (by decide +kernel) (by decide +kernel)⟩
theorem lfX10_114 : gLf RX10 114 2 4 RX3 TX3 7 := ⟨uws_X3, rfl, by decide, WL_at 183 (by decide +kernel) (by decide +kernel)⟩
theorem lpX10_114 : gLp RX10 114 2 4 RX3 TX3 7 tyX3 := ⟨lfX10_114, tyX3_ok, nmX3⟩
theorem lfX10_180 : gLf RX10 180 7 0 RX8 TX8 6 := ⟨uws_X8, rfl, by decide, WL_at 58 (by decide +kernel) (by decide +kernel)⟩
theorem lpX10_180 : gLp RX10 180 7 0 RX8 TX8 6 tyX8 := ⟨lfX10_180, tyX8_ok, nmX8⟩
theorem lfX10_158 : gLf RX10 158 2 5 RX3 TX3 7 := ⟨uws_X3, rfl, by decide, WL_at 186 (by decide +kernel) (by decide +kernel)⟩
theorem lpX10_158 : gLp RX10 158 2 5 RX3 TX3 7 tyX3 := ⟨lfX10_158, tyX3_ok, nmX3⟩
theorem lfX10_184 : gLf RX10 184 0 0 RX0 TX0 6 := ⟨uws_X0, rfl, by decide, WL_at 92 (by decide +kernel) (by decide +kernel)⟩
theorem lpX10_184 : gLp RX10 184 0 0 RX0 TX0 6 tyX0 := ⟨lfX10_184, tyX0_ok, nmX0⟩
theorem lVX10_185 : gLV RX10 185 yX0_countStanding := ⟨WL_at 574 (by decide +kernel) (by decide +kernel), WL_at 575 (by decide +kernel) (by decide +kernel), WL_at 576 (by decide +kernel) (by decide +kernel)⟩
theorem lfX10_189 : gLf RX10 189 2 6 RX3 TX3 7 := ⟨uws_X3, rfl, by decide, WL_at 188 (by decide +kernel) (by decide +kernel)⟩
theorem lpX10_189 : gLp RX10 189 2 6 RX3 TX3 7 tyX3 := ⟨lfX10_189, tyX3_ok, nmX3⟩
theorem lfX10_193 : gLf RX10 193 5 0 RX6 TX6 3 := ⟨uws_X6, rfl, by decide, WL_at 138 (by decide +kernel) (by decide +kernel)⟩
theorem lpX10_193 : gLp RX10 193 5 0 RX6 TX6 3 tyX6 := ⟨lfX10_193, tyX6_ok, nmX6⟩
theorem lfX10_196 : gLf RX10 196 2 2 RX3 TX3 7 := ⟨uws_X3, rfl, by decide, WL_at 178 (by decide +kernel) (by decide +kernel)⟩
theorem lpX10_196 : gLp RX10 196 2 2 RX3 TX3 7 tyX3 := ⟨lfX10_196, tyX3_ok, nmX3⟩
theorem lfX10_199 : gLf RX10 199 2 3 RX3 TX3 7 := ⟨uws_X3, rfl, by decide, WL_at 180 (by decide +kernel) (by decide +kernel)⟩
theorem lpX10_199 : gLp RX10 199 2 3 RX3 TX3 7 tyX3 := ⟨lfX10_199, tyX3_ok, nmX3⟩
theorem lfX10_202 : gLf RX10 202 2 0 RX3 TX3 7 := ⟨uws_X3, rfl, by decide, WL_at 174 (by decide +kernel) (by decide +kernel)⟩
theorem lpX10_202 : gLp RX10 202 2 0 RX3 TX3 7 tyX3 := ⟨lfX10_202, tyX3_ok, nmX3⟩
theorem lfX10_205 : gLf RX10 205 2 1 RX3 TX3 7 := ⟨uws_X3, rfl, by decide, WL_at 176 (by decide +kernel) (by decide +kernel)⟩
theorem lpX10_205 : gLp RX10 205 2 1 RX3 TX3 7 tyX3 := ⟨lfX10_205, tyX3_ok, nmX3⟩
theorem lVX10_151 : gLV RX10 151 yX3_findAllowed := ⟨WL_at 588 (by decide +kernel) (by decide +kernel), WL_at 541 (by decide +kernel) (by decide +kernel), WL_at 542 (by decide +kernel) (by decide +kernel)⟩
theorem lVX10_208 : gLV RX10 208 yX7_size := ⟨WL_at 589 (by decide +kernel) (by decide +kernel), WL_at 590 (by decide +kernel) (by decide +kernel), WL_at 591 (by decide +kernel) (by decide +kernel)⟩
theorem lVX10_211 : gLV RX10 211 yX9_findReached := ⟨WL_at 594 (by decide +kernel) (by decide +kernel), WL_at 595 (by decide +kernel) (by decide +kernel), WL_at 596 (by decide +kernel) (by decide +kernel)⟩
theorem lfX10_214 : gLf RX10 214 8 2 RX9 TX9 5 := ⟨uws_X9, rfl, by decide, WL_at 234 (by decide +kernel) (by decide +kernel)⟩
theorem lpX10_214 : gLp RX10 214 8 2 RX9 TX9 5 tyX9 := ⟨lfX10_214, tyX9_ok, nmX9⟩
theorem lSX10_110 : gLS RX10 110 yX10_asNumber := ⟨WL_at 611 (by decide +kernel) (by decide +kernel), WL_at 520 (by decide +kernel) (by decide +kernel)⟩
theorem lfX10_226 : gLf RX10 226 1 0 RX2 TX2 2 := ⟨uws_X2, rfl, by decide, WL_at 214 (by decide +kernel) (by decide +kernel)⟩
theorem lpX10_226 : gLp RX10 226 1 0 RX2 TX2 2 tyX2 := ⟨lfX10_226, tyX2_ok, nmX2⟩
theorem lVX10_69 : gLV RX10 69 yX3_removeStep := ⟨WL_at 455 (by decide +kernel) (by decide +kernel), WL_at 456 (by decide +kernel) (by decide +kernel), WL_at 457 (by decide +kernel) (by decide +kernel)⟩
theorem lVX10_75 : gLV RX10 75 yX3_addGuesses := ⟨WL_at 484 (by decide +kernel) (by decide +kernel), WL_at 485 (by decide +kernel) (by decide +kernel), WL_at 486 (by decide +kernel) (by decide +kernel)⟩
theorem lSX10_103 : gLS RX10 103 yX10_isState := ⟨WL_at 667 (by decide +kernel) (by decide +kernel), WL_at 166 (by decide +kernel) (by decide +kernel)⟩
theorem lSX10_106 : gLS RX10 106 yX1_isMetBy := ⟨WL_at 668 (by decide +kernel) (by decide +kernel), WL_at 394 (by decide +kernel) (by decide +kernel)⟩
theorem lIX10_9 : gLI RX10 9 yX3_init := ⟨WL_at 45 (by decide +kernel) (by decide +kernel), WL_at 46 (by decide +kernel) (by decide +kernel), rfl⟩
theorem lIX10_18 : gLI RX10 18 yX2_init := ⟨WL_at 206 (by decide +kernel) (by decide +kernel), WL_at 207 (by decide +kernel) (by decide +kernel), rfl⟩
theorem lfX10_23 : gLf RX10 23 9 2 RX10 TX10 7 := ⟨uws_X10, rfl, by decide, WL_at 313 (by decide +kernel) (by decide +kernel)⟩
theorem lpX10_23 : gLp RX10 23 9 2 RX10 TX10 7 tyX10 := ⟨lfX10_23, tyX10_ok, nmX10⟩
theorem lfX10_27 : gLf RX10 27 9 3 RX10 TX10 7 := ⟨uws_X10, rfl, by decide, WL_at 314 (by decide +kernel) (by decide +kernel)⟩
theorem lpX10_27 : gLp RX10 27 9 3 RX10 TX10 7 tyX10 := ⟨lfX10_27, tyX10_ok, nmX10⟩
theorem lIX10_33 : gLI RX10 33 yX9_init := ⟨WL_at 223 (by decide +kernel) (by decide +kernel), WL_at 224 (by decide +kernel) (by decide +kernel), rfl⟩
theorem lIX10_40 : gLI RX10 40 yX5_init := ⟨WL_at 251 (by decide +kernel) (by decide +kernel), WL_at 252 (by decide +kernel) (by decide +kernel), rfl⟩
theorem lfX10_45 : gLf RX10 45 4 0 RX5 TX5 10 := ⟨uws_X5, rfl, by decide, WL_at 272 (by decide +kernel) (by decide +kernel)⟩
theorem lpX10_45 : gLp RX10 45 4 0 RX5 TX5 10 tyX5 := ⟨lfX10_45, tyX5_ok, nmX5⟩
theorem lVX10_118 : gLV RX10 118 yX8_has := ⟨WL_at 646 (by decide +kernel) (by decide +kernel), WL_at 464 (by decide +kernel) (by decide +kernel), WL_at 465 (by decide +kernel) (by decide +kernel)⟩
theorem lVX10_155 : gLV RX10 155 yX3_target := ⟨WL_at 673 (by decide +kernel) (by decide +kernel), WL_at 506 (by decide +kernel) (by decide +kernel), WL_at 507 (by decide +kernel) (by decide +kernel)⟩
theorem lVX10_237 : gLV RX10 237 yX0_findNeedless := ⟨WL_at 769 (by decide +kernel) (by decide +kernel), WL_at 770 (by decide +kernel) (by decide +kernel), WL_at 771 (by decide +kernel) (by decide +kernel)⟩
theorem lVX10_162 : gLV RX10 162 yX0_has := ⟨WL_at 566 (by decide +kernel) (by decide +kernel), WL_at 567 (by decide +kernel) (by decide +kernel), WL_at 568 (by decide +kernel) (by decide +kernel)⟩
theorem lfX10_165 : gLf RX10 165 0 1 RX0 TX0 6 := ⟨uws_X0, rfl, by decide, WL_at 96 (by decide +kernel) (by decide +kernel)⟩
theorem lpX10_165 : gLp RX10 165 0 1 RX0 TX0 6 tyX0 := ⟨lfX10_165, tyX0_ok, nmX0⟩
theorem lfX10_168 : gLf RX10 168 0 2 RX0 TX0 6 := ⟨uws_X0, rfl, by decide, WL_at 99 (by decide +kernel) (by decide +kernel)⟩
theorem lpX10_168 : gLp RX10 168 0 2 RX0 TX0 6 tyX0 := ⟨lfX10_168, tyX0_ok, nmX0⟩
theorem lfX10_171 : gLf RX10 171 0 3 RX0 TX0 6 := ⟨uws_X0, rfl, by decide, WL_at 101 (by decide +kernel) (by decide +kernel)⟩
theorem lpX10_171 : gLp RX10 171 0 3 RX0 TX0 6 tyX0 := ⟨lfX10_171, tyX0_ok, nmX0⟩
theorem lfX10_174 : gLf RX10 174 0 4 RX0 TX0 6 := ⟨uws_X0, rfl, by decide, WL_at 103 (by decide +kernel) (by decide +kernel)⟩
theorem lpX10_174 : gLp RX10 174 0 4 RX0 TX0 6 tyX0 := ⟨lfX10_174, tyX0_ok, nmX0⟩
theorem lfX10_177 : gLf RX10 177 0 5 RX0 TX0 6 := ⟨uws_X0, rfl, by decide, WL_at 105 (by decide +kernel) (by decide +kernel)⟩
theorem lpX10_177 : gLp RX10 177 0 5 RX0 TX0 6 tyX0 := ⟨lfX10_177, tyX0_ok, nmX0⟩
theorem lfX10_227 : gLf RX10 227 5 2 RX6 TX6 3 := ⟨uws_X6, rfl, by decide, WL_at 141 (by decide +kernel) (by decide +kernel)⟩
theorem lpX10_227 : gLp RX10 227 5 2 RX6 TX6 3 tyX6 := ⟨lfX10_227, tyX6_ok, nmX6⟩
theorem lVX10_230 : gLV RX10 230 yX7_has := ⟨WL_at 678 (by decide +kernel) (by decide +kernel), WL_at 162 (by decide +kernel) (by decide +kernel), WL_at 163 (by decide +kernel) (by decide +kernel)⟩
theorem lVX10_231 : gLV RX10 231 yX0_allow := ⟨WL_at 679 (by decide +kernel) (by decide +kernel), WL_at 546 (by decide +kernel) (by decide +kernel), WL_at 547 (by decide +kernel) (by decide +kernel)⟩
theorem lfX10_123 : gLf RX10 123 7 1 RX8 TX8 6 := ⟨uws_X8, rfl, by decide, WL_at 60 (by decide +kernel) (by decide +kernel)⟩
theorem lpX10_123 : gLp RX10 123 7 1 RX8 TX8 6 tyX8 := ⟨lfX10_123, tyX8_ok, nmX8⟩
theorem lfX10_127 : gLf RX10 127 7 2 RX8 TX8 6 := ⟨uws_X8, rfl, by decide, WL_at 62 (by decide +kernel) (by decide +kernel)⟩
theorem lpX10_127 : gLp RX10 127 7 2 RX8 TX8 6 tyX8 := ⟨lfX10_127, tyX8_ok, nmX8⟩
theorem lfX10_130 : gLf RX10 130 7 3 RX8 TX8 6 := ⟨uws_X8, rfl, by decide, WL_at 64 (by decide +kernel) (by decide +kernel)⟩
theorem lpX10_130 : gLp RX10 130 7 3 RX8 TX8 6 tyX8 := ⟨lfX10_130, tyX8_ok, nmX8⟩
theorem lfX10_133 : gLf RX10 133 7 4 RX8 TX8 6 := ⟨uws_X8, rfl, by decide, WL_at 66 (by decide +kernel) (by decide +kernel)⟩
theorem lpX10_133 : gLp RX10 133 7 4 RX8 TX8 6 tyX8 := ⟨lfX10_133, tyX8_ok, nmX8⟩
theorem lfX10_136 : gLf RX10 136 7 5 RX8 TX8 6 := ⟨uws_X8, rfl, by decide, WL_at 68 (by decide +kernel) (by decide +kernel)⟩
theorem lpX10_136 : gLp RX10 136 7 5 RX8 TX8 6 tyX8 := ⟨lfX10_136, tyX8_ok, nmX8⟩
theorem lfX10_139 : gLf RX10 139 8 0 RX9 TX9 5 := ⟨uws_X9, rfl, by decide, WL_at 230 (by decide +kernel) (by decide +kernel)⟩
theorem lpX10_139 : gLp RX10 139 8 0 RX9 TX9 5 tyX9 := ⟨lfX10_139, tyX9_ok, nmX9⟩
theorem lVX10_142 : gLV RX10 142 yX7_fill := ⟨WL_at 647 (by decide +kernel) (by decide +kernel), WL_at 648 (by decide +kernel) (by decide +kernel), WL_at 649 (by decide +kernel) (by decide +kernel)⟩
theorem lVX10_147 : gLV RX10 147 yX3_countAble := ⟨WL_at 652 (by decide +kernel) (by decide +kernel), WL_at 653 (by decide +kernel) (by decide +kernel), WL_at 654 (by decide +kernel) (by decide +kernel)⟩
theorem lSX10_251 : gLS RX10 251 yX4_countSigns := ⟨WL_at 732 (by decide +kernel) (by decide +kernel), WL_at 733 (by decide +kernel) (by decide +kernel)⟩
theorem lVX10_255 : gLV RX10 255 yX4_append := ⟨WL_at 738 (by decide +kernel) (by decide +kernel), WL_at 739 (by decide +kernel) (by decide +kernel), WL_at 740 (by decide +kernel) (by decide +kernel)⟩
theorem lVX10_275 : gLV RX10 275 yX3_copyFrom := ⟨WL_at 624 (by decide +kernel) (by decide +kernel), WL_at 342 (by decide +kernel) (by decide +kernel), WL_at 343 (by decide +kernel) (by decide +kernel)⟩
theorem lVX10_54 : gLV RX10 54 yX3_setStart := ⟨WL_at 370 (by decide +kernel) (by decide +kernel), WL_at 371 (by decide +kernel) (by decide +kernel), WL_at 372 (by decide +kernel) (by decide +kernel)⟩
theorem lVX10_86 : gLV RX10 86 yX3_makeRound := ⟨WL_at 536 (by decide +kernel) (by decide +kernel), WL_at 537 (by decide +kernel) (by decide +kernel), WL_at 538 (by decide +kernel) (by decide +kernel)⟩
theorem lVX10_272 : gLV RX10 272 yX2_takeBack := ⟨WL_at 616 (by decide +kernel) (by decide +kernel), WL_at 617 (by decide +kernel) (by decide +kernel), WL_at 618 (by decide +kernel) (by decide +kernel)⟩
theorem lVX10_62 : gLV RX10 62 yX3_setWrap := ⟨WL_at 420 (by decide +kernel) (by decide +kernel), WL_at 421 (by decide +kernel) (by decide +kernel), WL_at 422 (by decide +kernel) (by decide +kernel)⟩
theorem lfX2_18 : gLf RX2 18 1 0 RX2 TX2 2 := ⟨uws_X2, rfl, by decide, WL_at 213 (by decide +kernel) (by decide +kernel)⟩
theorem lpX2_18 : gLp RX2 18 1 0 RX2 TX2 2 tyX2 := ⟨lfX2_18, tyX2_ok, nmX2⟩
theorem lVX2_26 : gLV RX2 26 yX2_moveOldestBehind := ⟨WL_at 412 (by decide +kernel) (by decide +kernel), WL_at 414 (by decide +kernel) (by decide +kernel), WL_at 3 (by decide +kernel) (by decide +kernel)⟩
theorem lfX2_11 : gLf RX2 11 1 1 RX2 TX2 2 := ⟨uws_X2, rfl, by decide, WL_at 215 (by decide +kernel) (by decide +kernel)⟩
theorem lpX2_11 : gLp RX2 11 1 1 RX2 TX2 2 tyX2 := ⟨lfX2_11, tyX2_ok, nmX2⟩
theorem lIX2_17 : gLI RX2 17 yX3_init := ⟨WL_at 212 (by decide +kernel) (by decide +kernel), WL_at 46 (by decide +kernel) (by decide +kernel), rfl⟩
theorem lVX2_22 : gLV RX2 22 yX3_copyFrom := ⟨WL_at 341 (by decide +kernel) (by decide +kernel), WL_at 342 (by decide +kernel) (by decide +kernel), WL_at 343 (by decide +kernel) (by decide +kernel)⟩
theorem lSX3_99 : gLS RX3 99 yX1_isCode := ⟨WL_at 475 (by decide +kernel) (by decide +kernel), WL_at 437 (by decide +kernel) (by decide +kernel)⟩
theorem lfX3_21 : gLf RX3 21 2 5 RX3 TX3 7 := ⟨uws_X3, rfl, by decide, WL_at 184 (by decide +kernel) (by decide +kernel)⟩
theorem lpX3_21 : gLp RX3 21 2 5 RX3 TX3 7 tyX3 := ⟨lfX3_21, tyX3_ok, nmX3⟩
theorem lfX3_59 : gLf RX3 59 0 0 RX0 TX0 6 := ⟨uws_X0, rfl, by decide, WL_at 90 (by decide +kernel) (by decide +kernel)⟩
theorem lpX3_59 : gLp RX3 59 0 0 RX0 TX0 6 tyX0 := ⟨lfX3_59, tyX0_ok, nmX0⟩
theorem lVX3_102 : gLV RX3 102 yX0_hasCode := ⟨WL_at 476 (by decide +kernel) (by decide +kernel), WL_at 477 (by decide +kernel) (by decide +kernel), WL_at 478 (by decide +kernel) (by decide +kernel)⟩
theorem lfX3_65 : gLf RX3 65 0 1 RX0 TX0 6 := ⟨uws_X0, rfl, by decide, WL_at 94 (by decide +kernel) (by decide +kernel)⟩
theorem lpX3_65 : gLp RX3 65 0 1 RX0 TX0 6 tyX0 := ⟨lfX3_65, tyX0_ok, nmX0⟩
theorem lVX3_62 : gLV RX3 62 yX3_judgeBySeen := ⟨WL_at 381 (by decide +kernel) (by decide +kernel), WL_at 383 (by decide +kernel) (by decide +kernel), WL_at 2 (by decide +kernel) (by decide +kernel)⟩
theorem lfX3_28 : gLf RX3 28 2 6 RX3 TX3 7 := ⟨uws_X3, rfl, by decide, WL_at 187 (by decide +kernel) (by decide +kernel)⟩
theorem lpX3_28 : gLp RX3 28 2 6 RX3 TX3 7 tyX3 := ⟨lfX3_28, tyX3_ok, nmX3⟩
theorem lVX3_69 : gLV RX3 69 yX6_firstMiss := ⟨WL_at 385 (by decide +kernel) (by decide +kernel), WL_at 386 (by decide +kernel) (by decide +kernel), WL_at 387 (by decide +kernel) (by decide +kernel)⟩
theorem lVX3_105 : gLV RX3 105 yX3_addCandidate := ⟨WL_at 488 (by decide +kernel) (by decide +kernel), WL_at 472 (by decide +kernel) (by decide +kernel), WL_at 473 (by decide +kernel) (by decide +kernel)⟩
theorem lfX3_12 : gLf RX3 12 2 4 RX3 TX3 7 := ⟨uws_X3, rfl, by decide, WL_at 181 (by decide +kernel) (by decide +kernel)⟩
theorem lpX3_12 : gLp RX3 12 2 4 RX3 TX3 7 tyX3 := ⟨lfX3_12, tyX3_ok, nmX3⟩
theorem lVX3_92 : gLV RX3 92 yX8_add := ⟨WL_at 432 (by decide +kernel) (by decide +kernel), WL_at 433 (by decide +kernel) (by decide +kernel), WL_at 434 (by decide +kernel) (by decide +kernel)⟩
theorem lVX3_89 : gLV RX3 89 yX3_beginAnew := ⟨WL_at 377 (by decide +kernel) (by decide +kernel), WL_at 379 (by decide +kernel) (by decide +kernel), WL_at 1 (by decide +kernel) (by decide +kernel)⟩
theorem lfX3_43 : gLf RX3 43 2 2 RX3 TX3 7 := ⟨uws_X3, rfl, by decide, WL_at 177 (by decide +kernel) (by decide +kernel)⟩
theorem lpX3_43 : gLp RX3 43 2 2 RX3 TX3 7 tyX3 := ⟨lfX3_43, tyX3_ok, nmX3⟩
theorem lfX3_46 : gLf RX3 46 2 3 RX3 TX3 7 := ⟨uws_X3, rfl, by decide, WL_at 179 (by decide +kernel) (by decide +kernel)⟩
theorem lpX3_46 : gLp RX3 46 2 3 RX3 TX3 7 tyX3 := ⟨lfX3_46, tyX3_ok, nmX3⟩
theorem lfX3_32 : gLf RX3 32 2 0 RX3 TX3 7 := ⟨uws_X3, rfl, by decide, WL_at 172 (by decide +kernel) (by decide +kernel)⟩
theorem lpX3_32 : gLp RX3 32 2 0 RX3 TX3 7 tyX3 := ⟨lfX3_32, tyX3_ok, nmX3⟩
theorem lVX3_36 : gLV RX3 36 yX6_beginAt := ⟨WL_at 149 (by decide +kernel) (by decide +kernel), WL_at 150 (by decide +kernel) (by decide +kernel), WL_at 151 (by decide +kernel) (by decide +kernel)⟩
theorem lfX3_40 : gLf RX3 40 2 1 RX3 TX3 7 := ⟨uws_X3, rfl, by decide, WL_at 175 (by decide +kernel) (by decide +kernel)⟩
theorem lpX3_40 : gLp RX3 40 2 1 RX3 TX3 7 tyX3 := ⟨lfX3_40, tyX3_ok, nmX3⟩
theorem lVX3_49 : gLV RX3 49 yX8_copyFrom := ⟨WL_at 345 (by decide +kernel) (by decide +kernel), WL_at 346 (by decide +kernel) (by decide +kernel), WL_at 347 (by decide +kernel) (by decide +kernel)⟩
theorem lVX3_53 : gLV RX3 53 yX0_copyFrom := ⟨WL_at 353 (by decide +kernel) (by decide +kernel), WL_at 354 (by decide +kernel) (by decide +kernel), WL_at 355 (by decide +kernel) (by decide +kernel)⟩
theorem lVX3_56 : gLV RX3 56 yX6_copyFrom := ⟨WL_at 360 (by decide +kernel) (by decide +kernel), WL_at 361 (by decide +kernel) (by decide +kernel), WL_at 362 (by decide +kernel) (by decide +kernel)⟩
theorem lVX3_155 : gLV RX3 155 yX7_has := ⟨WL_at 550 (by decide +kernel) (by decide +kernel), WL_at 162 (by decide +kernel) (by decide +kernel), WL_at 163 (by decide +kernel) (by decide +kernel)⟩
theorem lVX3_135 : gLV RX3 135 yX3_target := ⟨WL_at 505 (by decide +kernel) (by decide +kernel), WL_at 506 (by decide +kernel) (by decide +kernel), WL_at 507 (by decide +kernel) (by decide +kernel)⟩
theorem lVX3_145 : gLV RX3 145 yX7_clear := ⟨WL_at 544 (by decide +kernel) (by decide +kernel), WL_at 154 (by decide +kernel) (by decide +kernel), WL_at 155 (by decide +kernel) (by decide +kernel)⟩
theorem lVX3_150 : gLV RX3 150 yX0_allow := ⟨WL_at 545 (by decide +kernel) (by decide +kernel), WL_at 546 (by decide +kernel) (by decide +kernel), WL_at 547 (by decide +kernel) (by decide +kernel)⟩
theorem lVX3_153 : gLV RX3 153 yX7_add := ⟨WL_at 549 (by decide +kernel) (by decide +kernel), WL_at 169 (by decide +kernel) (by decide +kernel), WL_at 170 (by decide +kernel) (by decide +kernel)⟩
theorem lIX3_11 : gLI RX3 11 yX8_init := ⟨WL_at 51 (by decide +kernel) (by decide +kernel), WL_at 52 (by decide +kernel) (by decide +kernel), rfl⟩
theorem lIX3_20 : gLI RX3 20 yX0_init := ⟨WL_at 85 (by decide +kernel) (by decide +kernel), WL_at 86 (by decide +kernel) (by decide +kernel), rfl⟩
theorem lIX3_27 : gLI RX3 27 yX6_init := ⟨WL_at 121 (by decide +kernel) (by decide +kernel), WL_at 122 (by decide +kernel) (by decide +kernel), rfl⟩
theorem lVX3_73 : gLV RX3 73 yX0_setFate := ⟨WL_at 399 (by decide +kernel) (by decide +kernel), WL_at 400 (by decide +kernel) (by decide +kernel), WL_at 401 (by decide +kernel) (by decide +kernel)⟩
theorem lVX3_77 : gLV RX3 77 yX6_stateAt := ⟨WL_at 403 (by decide +kernel) (by decide +kernel), WL_at 390 (by decide +kernel) (by decide +kernel), WL_at 391 (by decide +kernel) (by decide +kernel)⟩
theorem lVX3_80 : gLV RX3 80 yX6_runAt := ⟨WL_at 404 (by decide +kernel) (by decide +kernel), WL_at 405 (by decide +kernel) (by decide +kernel), WL_at 406 (by decide +kernel) (by decide +kernel)⟩
theorem lfX3_134 : gLf RX3 134 7 0 RX8 TX8 6 := ⟨uws_X8, rfl, by decide, WL_at 57 (by decide +kernel) (by decide +kernel)⟩
theorem lpX3_134 : gLp RX3 134 7 0 RX8 TX8 6 tyX8 := ⟨lfX3_134, tyX8_ok, nmX8⟩
theorem lVX3_156 : gLV RX3 156 yX3_findAllowed := ⟨WL_at 540 (by decide +kernel) (by decide +kernel), WL_at 541 (by decide +kernel) (by decide +kernel), WL_at 542 (by decide +kernel) (by decide +kernel)⟩
theorem lVX3_160 : gLV RX3 160 yX3_strikeByStep := ⟨WL_at 551 (by decide +kernel) (by decide +kernel), WL_at 553 (by decide +kernel) (by decide +kernel), WL_at 6 (by decide +kernel) (by decide +kernel)⟩
theorem lVX3_164 : gLV RX3 164 yX3_makeRound := ⟨WL_at 762 (by decide +kernel) (by decide +kernel), WL_at 537 (by decide +kernel) (by decide +kernel), WL_at 538 (by decide +kernel) (by decide +kernel)⟩
theorem lfX3_115 : gLf RX3 115 5 0 RX6 TX6 3 := ⟨uws_X6, rfl, by decide, WL_at 137 (by decide +kernel) (by decide +kernel)⟩
theorem lpX3_115 : gLp RX3 115 5 0 RX6 TX6 3 tyX6 := ⟨lfX3_115, tyX6_ok, nmX6⟩
theorem lcX3_116 : Cond.constantLong RX3 116 (1103515245) ∈ WL := WL_at 497 (by decide +kernel) (by decide +kernel)
theorem lcX3_118 : Cond.constantLong RX3 118 (12345) ∈ WL := WL_at 498 (by decide +kernel) (by decide +kernel)
theorem lcX3_120 : Cond.constantLong RX3 120 (2147483648) ∈ WL := WL_at 499 (by decide +kernel) (by decide +kernel)
theorem lcX3_122 : Cond.constantLong RX3 122 (65536) ∈ WL := WL_at 500 (by decide +kernel) (by decide +kernel)
theorem lVX3_124 : gLV RX3 124 yX3_pickTarget := ⟨WL_at 501 (by decide +kernel) (by decide +kernel), WL_at 503 (by decide +kernel) (by decide +kernel), WL_at 4 (by decide +kernel) (by decide +kernel)⟩
theorem lVX3_128 : gLV RX3 128 yX6_add := ⟨WL_at 522 (by decide +kernel) (by decide +kernel), WL_at 158 (by decide +kernel) (by decide +kernel), WL_at 159 (by decide +kernel) (by decide +kernel)⟩
theorem lVX3_131 : gLV RX3 131 yX3_strikeByRun := ⟨WL_at 523 (by decide +kernel) (by decide +kernel), WL_at 525 (by decide +kernel) (by decide +kernel), WL_at 5 (by decide +kernel) (by decide +kernel)⟩
theorem lNX3_138 : Cond.static yX10_asNumber ∈ WL := WL_at 520 (by decide +kernel) (by decide +kernel)
theorem lVX3_96 : gLV RX3 96 yX8_remove := ⟨WL_at 459 (by decide +kernel) (by decide +kernel), WL_at 460 (by decide +kernel) (by decide +kernel), WL_at 461 (by decide +kernel) (by decide +kernel)⟩
theorem lSX3_83 : gLS RX3 83 yX1_isDigit := ⟨WL_at 374 (by decide +kernel) (by decide +kernel), WL_at 375 (by decide +kernel) (by decide +kernel)⟩
theorem lVX3_142 : gLV RX3 142 yX0_standsAgainst := ⟨WL_at 527 (by decide +kernel) (by decide +kernel), WL_at 528 (by decide +kernel) (by decide +kernel), WL_at 529 (by decide +kernel) (by decide +kernel)⟩
theorem lVX3_108 : gLV RX3 108 yX8_has := ⟨WL_at 509 (by decide +kernel) (by decide +kernel), WL_at 464 (by decide +kernel) (by decide +kernel), WL_at 465 (by decide +kernel) (by decide +kernel)⟩
theorem lVX3_111 : gLV RX3 111 yX8_target := ⟨WL_at 510 (by decide +kernel) (by decide +kernel), WL_at 511 (by decide +kernel) (by decide +kernel), WL_at 512 (by decide +kernel) (by decide +kernel)⟩
theorem lfX4_15 : gLf RX4 15 3 0 RX4 TX4 2 := ⟨uws_X4, rfl, by decide, WL_at 261 (by decide +kernel) (by decide +kernel)⟩
theorem lpX4_15 : gLp RX4 15 3 0 RX4 TX4 2 tyX4 := ⟨lfX4_15, tyX4_ok, nmX4⟩
theorem lfX4_9 : gLf RX4 9 3 1 RX4 TX4 2 := ⟨uws_X4, rfl, by decide, WL_at 264 (by decide +kernel) (by decide +kernel)⟩
theorem lpX4_9 : gLp RX4 9 3 1 RX4 TX4 2 tyX4 := ⟨lfX4_9, tyX4_ok, nmX4⟩
theorem lcX4_19 : Cond.constantLong RX4 19 (255) ∈ WL := WL_at 735 (by decide +kernel) (by decide +kernel)
theorem lcX4_21 : Cond.constantLong RX4 21 (33) ∈ WL := WL_at 736 (by decide +kernel) (by decide +kernel)
theorem lcX4_23 : Cond.constantLong RX4 23 (126) ∈ WL := WL_at 737 (by decide +kernel) (by decide +kernel)
theorem lfX5_18 : gLf RX5 18 4 1 RX5 TX5 10 := ⟨uws_X5, rfl, by decide, WL_at 273 (by decide +kernel) (by decide +kernel)⟩
theorem lpX5_18 : gLp RX5 18 4 1 RX5 TX5 10 tyX5 := ⟨lfX5_18, tyX5_ok, nmX5⟩
theorem lVX5_22 : gLV RX5 22 yX5_begin := ⟨WL_at 797 (by decide +kernel) (by decide +kernel), WL_at 798 (by decide +kernel) (by decide +kernel), WL_at 799 (by decide +kernel) (by decide +kernel)⟩
theorem lVX5_25 : gLV RX5 25 yX5_readNextOrder := ⟨WL_at 801 (by decide +kernel) (by decide +kernel), WL_at 802 (by decide +kernel) (by decide +kernel), WL_at 803 (by decide +kernel) (by decide +kernel)⟩
theorem lfX5_12 : gLf RX5 12 4 0 RX5 TX5 10 := ⟨uws_X5, rfl, by decide, WL_at 271 (by decide +kernel) (by decide +kernel)⟩
theorem lpX5_12 : gLp RX5 12 4 0 RX5 TX5 10 tyX5 := ⟨lfX5_12, tyX5_ok, nmX5⟩
theorem lfX5_29 : gLf RX5 29 3 0 RX4 TX4 2 := ⟨uws_X4, rfl, by decide, WL_at 262 (by decide +kernel) (by decide +kernel)⟩
theorem lpX5_29 : gLp RX5 29 3 0 RX4 TX4 2 tyX4 := ⟨lfX5_29, tyX4_ok, nmX4⟩
theorem lIX5_11 : gLI RX5 11 yX4_init := ⟨WL_at 257 (by decide +kernel) (by decide +kernel), WL_at 258 (by decide +kernel) (by decide +kernel), rfl⟩
theorem lVX5_71 : gLV RX5 71 yX5_readVar := ⟨WL_at 818 (by decide +kernel) (by decide +kernel), WL_at 820 (by decide +kernel) (by decide +kernel), WL_at 12 (by decide +kernel) (by decide +kernel)⟩
theorem lfX5_86 : gLf RX5 86 4 5 RX5 TX5 10 := ⟨uws_X5, rfl, by decide, WL_at 280 (by decide +kernel) (by decide +kernel)⟩
theorem lpX5_86 : gLp RX5 86 4 5 RX5 TX5 10 tyX5 := ⟨lfX5_86, tyX5_ok, nmX5⟩
theorem lVX5_32 : gLV RX5 32 yX5_take := ⟨WL_at 805 (by decide +kernel) (by decide +kernel), WL_at 807 (by decide +kernel) (by decide +kernel), WL_at 10 (by decide +kernel) (by decide +kernel)⟩
theorem lfX5_89 : gLf RX5 89 4 4 RX5 TX5 10 := ⟨uws_X5, rfl, by decide, WL_at 278 (by decide +kernel) (by decide +kernel)⟩
theorem lpX5_89 : gLp RX5 89 4 4 RX5 TX5 10 tyX5 := ⟨lfX5_89, tyX5_ok, nmX5⟩
theorem lfX5_92 : gLf RX5 92 4 6 RX5 TX5 10 := ⟨uws_X5, rfl, by decide, WL_at 282 (by decide +kernel) (by decide +kernel)⟩
theorem lpX5_92 : gLp RX5 92 4 6 RX5 TX5 10 tyX5 := ⟨lfX5_92, tyX5_ok, nmX5⟩
theorem lfX5_95 : gLf RX5 95 4 7 RX5 TX5 10 := ⟨uws_X5, rfl, by decide, WL_at 284 (by decide +kernel) (by decide +kernel)⟩
theorem lpX5_95 : gLp RX5 95 4 7 RX5 TX5 10 tyX5 := ⟨lfX5_95, tyX5_ok, nmX5⟩
theorem lVX5_80 : gLV RX5 80 yX5_readDigit := ⟨WL_at 837 (by decide +kernel) (by decide +kernel), WL_at 839 (by decide +kernel) (by decide +kernel), WL_at 16 (by decide +kernel) (by decide +kernel)⟩
theorem lVX5_77 : gLV RX5 77 yX5_readOffset := ⟨WL_at 833 (by decide +kernel) (by decide +kernel), WL_at 835 (by decide +kernel) (by decide +kernel), WL_at 15 (by decide +kernel) (by decide +kernel)⟩
theorem lVX5_36 : gLV RX5 36 yX4_signAt := ⟨WL_at 809 (by decide +kernel) (by decide +kernel), WL_at 810 (by decide +kernel) (by decide +kernel), WL_at 811 (by decide +kernel) (by decide +kernel)⟩
theorem lSX5_62 : gLS RX5 62 yX1_encode := ⟨WL_at 817 (by decide +kernel) (by decide +kernel), WL_at 560 (by decide +kernel) (by decide +kernel)⟩
theorem lfX5_68 : gLf RX5 68 4 3 RX5 TX5 10 := ⟨uws_X5, rfl, by decide, WL_at 276 (by decide +kernel) (by decide +kernel)⟩
theorem lpX5_68 : gLp RX5 68 4 3 RX5 TX5 10 tyX5 := ⟨lfX5_68, tyX5_ok, nmX5⟩
theorem lVX5_74 : gLV RX5 74 yX5_readForm := ⟨WL_at 826 (by decide +kernel) (by decide +kernel), WL_at 828 (by decide +kernel) (by decide +kernel), WL_at 14 (by decide +kernel) (by decide +kernel)⟩
theorem lVX5_98 : gLV RX5 98 yX5_readBetween := ⟨WL_at 822 (by decide +kernel) (by decide +kernel), WL_at 824 (by decide +kernel) (by decide +kernel), WL_at 13 (by decide +kernel) (by decide +kernel)⟩
theorem lSX5_83 : gLS RX5 83 yX5_formOf := ⟨WL_at 830 (by decide +kernel) (by decide +kernel), WL_at 831 (by decide +kernel) (by decide +kernel)⟩
theorem lfX5_40 : gLf RX5 40 4 2 RX5 TX5 10 := ⟨uws_X5, rfl, by decide, WL_at 274 (by decide +kernel) (by decide +kernel)⟩
theorem lpX5_40 : gLp RX5 40 4 2 RX5 TX5 10 tyX5 := ⟨lfX5_40, tyX5_ok, nmX5⟩
theorem lVX5_43 : gLV RX5 43 yX5_readClaim := ⟨WL_at 813 (by decide +kernel) (by decide +kernel), WL_at 815 (by decide +kernel) (by decide +kernel), WL_at 11 (by decide +kernel) (by decide +kernel)⟩
theorem lVX5_46 : gLV RX5 46 yX5_readAction := ⟨WL_at 841 (by decide +kernel) (by decide +kernel), WL_at 843 (by decide +kernel) (by decide +kernel), WL_at 17 (by decide +kernel) (by decide +kernel)⟩
theorem lVX5_49 : gLV RX5 49 yX5_readRun := ⟨WL_at 845 (by decide +kernel) (by decide +kernel), WL_at 847 (by decide +kernel) (by decide +kernel), WL_at 18 (by decide +kernel) (by decide +kernel)⟩
theorem lVX5_52 : gLV RX5 52 yX5_readNumber := ⟨WL_at 849 (by decide +kernel) (by decide +kernel), WL_at 851 (by decide +kernel) (by decide +kernel), WL_at 19 (by decide +kernel) (by decide +kernel)⟩
theorem lfX5_56 : gLf RX5 56 4 8 RX5 TX5 10 := ⟨uws_X5, rfl, by decide, WL_at 286 (by decide +kernel) (by decide +kernel)⟩
theorem lpX5_56 : gLp RX5 56 4 8 RX5 TX5 10 tyX5 := ⟨lfX5_56, tyX5_ok, nmX5⟩
theorem lfX5_59 : gLf RX5 59 4 9 RX5 TX5 10 := ⟨uws_X5, rfl, by decide, WL_at 288 (by decide +kernel) (by decide +kernel)⟩
theorem lpX5_59 : gLp RX5 59 4 9 RX5 TX5 10 tyX5 := ⟨lfX5_59, tyX5_ok, nmX5⟩
theorem lfX6_18 : gLf RX6 18 5 2 RX6 TX6 3 := ⟨uws_X6, rfl, by decide, WL_at 140 (by decide +kernel) (by decide +kernel)⟩
theorem lpX6_18 : gLp RX6 18 5 2 RX6 TX6 3 tyX6 := ⟨lfX6_18, tyX6_ok, nmX6⟩
theorem lVX6_43 : gLV RX6 43 yX7_has := ⟨WL_at 161 (by decide +kernel) (by decide +kernel), WL_at 162 (by decide +kernel) (by decide +kernel), WL_at 163 (by decide +kernel) (by decide +kernel)⟩
theorem lfX6_22 : gLf RX6 22 5 0 RX6 TX6 3 := ⟨uws_X6, rfl, by decide, WL_at 136 (by decide +kernel) (by decide +kernel)⟩
theorem lpX6_22 : gLp RX6 22 5 0 RX6 TX6 3 tyX6 := ⟨lfX6_22, tyX6_ok, nmX6⟩
theorem lfX6_9 : gLf RX6 9 5 1 RX6 TX6 3 := ⟨uws_X6, rfl, by decide, WL_at 139 (by decide +kernel) (by decide +kernel)⟩
theorem lpX6_9 : gLp RX6 9 5 1 RX6 TX6 3 tyX6 := ⟨lfX6_9, tyX6_ok, nmX6⟩
theorem lVX6_47 : gLV RX6 47 yX7_add := ⟨WL_at 168 (by decide +kernel) (by decide +kernel), WL_at 169 (by decide +kernel) (by decide +kernel), WL_at 170 (by decide +kernel) (by decide +kernel)⟩
theorem lVX6_36 : gLV RX6 36 yX7_clear := ⟨WL_at 153 (by decide +kernel) (by decide +kernel), WL_at 154 (by decide +kernel) (by decide +kernel), WL_at 155 (by decide +kernel) (by decide +kernel)⟩
theorem lVX6_39 : gLV RX6 39 yX6_add := ⟨WL_at 157 (by decide +kernel) (by decide +kernel), WL_at 158 (by decide +kernel) (by decide +kernel), WL_at 159 (by decide +kernel) (by decide +kernel)⟩
theorem lVX6_32 : gLV RX6 32 yX7_copyFrom := ⟨WL_at 365 (by decide +kernel) (by decide +kernel), WL_at 366 (by decide +kernel) (by decide +kernel), WL_at 367 (by decide +kernel) (by decide +kernel)⟩
theorem lVX6_50 : gLV RX6 50 yX6_stateAt := ⟨WL_at 389 (by decide +kernel) (by decide +kernel), WL_at 390 (by decide +kernel) (by decide +kernel), WL_at 391 (by decide +kernel) (by decide +kernel)⟩
theorem lSX6_54 : gLS RX6 54 yX1_isMetBy := ⟨WL_at 393 (by decide +kernel) (by decide +kernel), WL_at 394 (by decide +kernel) (by decide +kernel)⟩
theorem lIX6_17 : gLI RX6 17 yX7_init := ⟨WL_at 127 (by decide +kernel) (by decide +kernel), WL_at 128 (by decide +kernel) (by decide +kernel), rfl⟩
theorem lNX7_23 : Cond.static yX10_isState ∈ WL := WL_at 166 (by decide +kernel) (by decide +kernel)
theorem lfX7_9 : gLf RX7 9 6 0 RX7 TX7 1 := ⟨uws_X7, rfl, by decide, WL_at 131 (by decide +kernel) (by decide +kernel)⟩
theorem lpX7_9 : gLp RX7 9 6 0 RX7 TX7 1 tyX7 := ⟨lfX7_9, tyX7_ok, nmX7⟩
theorem lcX7_15 : Cond.constantLong RX7 15 (-1) ∈ WL := WL_at 651 (by decide +kernel) (by decide +kernel)
theorem lVX7_33 : gLV RX7 33 yX7_has := ⟨WL_at 688 (by decide +kernel) (by decide +kernel), WL_at 162 (by decide +kernel) (by decide +kernel), WL_at 163 (by decide +kernel) (by decide +kernel)⟩
theorem lSX7_36 : gLS RX7 36 yX1_isMetBy := ⟨WL_at 689 (by decide +kernel) (by decide +kernel), WL_at 394 (by decide +kernel) (by decide +kernel)⟩
theorem lSX7_27 : gLS RX7 27 yJ13_bitCount_95d88 := ⟨WL_at 593 (by decide +kernel) (by decide +kernel), WL_at 583 (by decide +kernel) (by decide +kernel)⟩
theorem lSX8_44 : gLS RX8 44 yX1_isCode := ⟨WL_at 436 (by decide +kernel) (by decide +kernel), WL_at 437 (by decide +kernel) (by decide +kernel)⟩
theorem lSX8_47 : gLS RX8 47 yX8_isAction := ⟨WL_at 446 (by decide +kernel) (by decide +kernel), WL_at 447 (by decide +kernel) (by decide +kernel)⟩
theorem lfX8_27 : gLf RX8 27 7 0 RX8 TX8 6 := ⟨uws_X8, rfl, by decide, WL_at 55 (by decide +kernel) (by decide +kernel)⟩
theorem lpX8_27 : gLp RX8 27 7 0 RX8 TX8 6 tyX8 := ⟨lfX8_27, tyX8_ok, nmX8⟩
theorem lfX8_9 : gLf RX8 9 7 1 RX8 TX8 6 := ⟨uws_X8, rfl, by decide, WL_at 59 (by decide +kernel) (by decide +kernel)⟩
theorem lpX8_9 : gLp RX8 9 7 1 RX8 TX8 6 tyX8 := ⟨lfX8_9, tyX8_ok, nmX8⟩
theorem lfX8_15 : gLf RX8 15 7 2 RX8 TX8 6 := ⟨uws_X8, rfl, by decide, WL_at 61 (by decide +kernel) (by decide +kernel)⟩
theorem lpX8_15 : gLp RX8 15 7 2 RX8 TX8 6 tyX8 := ⟨lfX8_15, tyX8_ok, nmX8⟩
theorem lfX8_18 : gLf RX8 18 7 3 RX8 TX8 6 := ⟨uws_X8, rfl, by decide, WL_at 63 (by decide +kernel) (by decide +kernel)⟩
theorem lpX8_18 : gLp RX8 18 7 3 RX8 TX8 6 tyX8 := ⟨lfX8_18, tyX8_ok, nmX8⟩
theorem lfX8_21 : gLf RX8 21 7 4 RX8 TX8 6 := ⟨uws_X8, rfl, by decide, WL_at 65 (by decide +kernel) (by decide +kernel)⟩
theorem lpX8_21 : gLp RX8 21 7 4 RX8 TX8 6 tyX8 := ⟨lfX8_21, tyX8_ok, nmX8⟩
theorem lfX8_24 : gLf RX8 24 7 5 RX8 TX8 6 := ⟨uws_X8, rfl, by decide, WL_at 67 (by decide +kernel) (by decide +kernel)⟩
theorem lpX8_24 : gLp RX8 24 7 5 RX8 TX8 6 tyX8 := ⟨lfX8_24, tyX8_ok, nmX8⟩
theorem lVX8_31 : gLV RX8 31 yX8_copyStep := ⟨WL_at 349 (by decide +kernel) (by decide +kernel), WL_at 351 (by decide +kernel) (by decide +kernel), WL_at 0 (by decide +kernel) (by decide +kernel)⟩
theorem lSX8_35 : gLS RX8 35 yX1_isDigit := ⟨WL_at 449 (by decide +kernel) (by decide +kernel), WL_at 375 (by decide +kernel) (by decide +kernel)⟩
theorem lSX8_41 : gLS RX8 41 yX1_isOffset := ⟨WL_at 450 (by decide +kernel) (by decide +kernel), WL_at 444 (by decide +kernel) (by decide +kernel)⟩
theorem lVX8_51 : gLV RX8 51 yX8_has := ⟨WL_at 463 (by decide +kernel) (by decide +kernel), WL_at 464 (by decide +kernel) (by decide +kernel), WL_at 465 (by decide +kernel) (by decide +kernel)⟩
theorem lSX8_54 : gLS RX8 54 yX1_isMetBy := ⟨WL_at 514 (by decide +kernel) (by decide +kernel), WL_at 394 (by decide +kernel) (by decide +kernel)⟩
theorem lSX8_58 : gLS RX8 58 yX1_numberOf := ⟨WL_at 515 (by decide +kernel) (by decide +kernel), WL_at 397 (by decide +kernel) (by decide +kernel)⟩
theorem lSX8_62 : gLS RX8 62 yX8_replace := ⟨WL_at 516 (by decide +kernel) (by decide +kernel), WL_at 517 (by decide +kernel) (by decide +kernel)⟩
theorem lSX9_100 : gLS RX9 100 yX1_isMetBy := ⟨WL_at 719 (by decide +kernel) (by decide +kernel), WL_at 394 (by decide +kernel) (by decide +kernel)⟩
theorem lfX9_28 : gLf RX9 28 8 4 RX9 TX9 5 := ⟨uws_X9, rfl, by decide, WL_at 236 (by decide +kernel) (by decide +kernel)⟩
theorem lpX9_28 : gLp RX9 28 8 4 RX9 TX9 5 tyX9 := ⟨lfX9_28, tyX9_ok, nmX9⟩
theorem lfX9_83 : gLf RX9 83 0 0 RX0 TX0 6 := ⟨uws_X0, rfl, by decide, WL_at 91 (by decide +kernel) (by decide +kernel)⟩
theorem lpX9_83 : gLp RX9 83 0 0 RX0 TX0 6 tyX0 := ⟨lfX9_83, tyX0_ok, nmX0⟩
theorem lfX9_84 : gLf RX9 84 0 2 RX0 TX0 6 := ⟨uws_X0, rfl, by decide, WL_at 98 (by decide +kernel) (by decide +kernel)⟩
theorem lpX9_84 : gLp RX9 84 0 2 RX0 TX0 6 tyX0 := ⟨lfX9_84, tyX0_ok, nmX0⟩
theorem lfX9_87 : gLf RX9 87 0 1 RX0 TX0 6 := ⟨uws_X0, rfl, by decide, WL_at 95 (by decide +kernel) (by decide +kernel)⟩
theorem lpX9_87 : gLp RX9 87 0 1 RX0 TX0 6 tyX0 := ⟨lfX9_87, tyX0_ok, nmX0⟩
theorem lVX9_90 : gLV RX9 90 yX9_addMisses := ⟨WL_at 715 (by decide +kernel) (by decide +kernel), WL_at 717 (by decide +kernel) (by decide +kernel), WL_at 8 (by decide +kernel) (by decide +kernel)⟩
theorem lfX9_69 : gLf RX9 69 2 5 RX3 TX3 7 := ⟨uws_X3, rfl, by decide, WL_at 185 (by decide +kernel) (by decide +kernel)⟩
theorem lpX9_69 : gLp RX9 69 2 5 RX3 TX3 7 tyX3 := ⟨lfX9_69, tyX3_ok, nmX3⟩
theorem lVX9_73 : gLV RX9 73 yX0_findStanding := ⟨WL_at 710 (by decide +kernel) (by decide +kernel), WL_at 579 (by decide +kernel) (by decide +kernel), WL_at 580 (by decide +kernel) (by decide +kernel)⟩
theorem lVX9_79 : gLV RX9 79 yX9_countMisses := ⟨WL_at 711 (by decide +kernel) (by decide +kernel), WL_at 713 (by decide +kernel) (by decide +kernel), WL_at 7 (by decide +kernel) (by decide +kernel)⟩
theorem lVX9_94 : gLV RX9 94 yX9_isEnough := ⟨WL_at 720 (by decide +kernel) (by decide +kernel), WL_at 722 (by decide +kernel) (by decide +kernel), WL_at 9 (by decide +kernel) (by decide +kernel)⟩
theorem lcX9_98 : Cond.constantLong RX9 98 (-1) ∈ WL := WL_at 725 (by decide +kernel) (by decide +kernel)
theorem lfX9_21 : gLf RX9 21 8 2 RX9 TX9 5 := ⟨uws_X9, rfl, by decide, WL_at 233 (by decide +kernel) (by decide +kernel)⟩
theorem lpX9_21 : gLp RX9 21 8 2 RX9 TX9 5 tyX9 := ⟨lfX9_21, tyX9_ok, nmX9⟩
theorem lVX9_31 : gLV RX9 31 yX7_clear := ⟨WL_at 598 (by decide +kernel) (by decide +kernel), WL_at 154 (by decide +kernel) (by decide +kernel), WL_at 155 (by decide +kernel) (by decide +kernel)⟩
theorem lfX9_34 : gLf RX9 34 2 0 RX3 TX3 7 := ⟨uws_X3, rfl, by decide, WL_at 173 (by decide +kernel) (by decide +kernel)⟩
theorem lpX9_34 : gLp RX9 34 2 0 RX3 TX3 7 tyX3 := ⟨lfX9_34, tyX3_ok, nmX3⟩
theorem lVX9_40 : gLV RX9 40 yX7_add := ⟨WL_at 599 (by decide +kernel) (by decide +kernel), WL_at 169 (by decide +kernel) (by decide +kernel), WL_at 170 (by decide +kernel) (by decide +kernel)⟩
theorem lfX9_24 : gLf RX9 24 8 3 RX9 TX9 5 := ⟨uws_X9, rfl, by decide, WL_at 235 (by decide +kernel) (by decide +kernel)⟩
theorem lpX9_24 : gLp RX9 24 8 3 RX9 TX9 5 tyX9 := ⟨lfX9_24, tyX9_ok, nmX9⟩
theorem lfX9_44 : gLf RX9 44 2 4 RX3 TX3 7 := ⟨uws_X3, rfl, by decide, WL_at 182 (by decide +kernel) (by decide +kernel)⟩
theorem lpX9_44 : gLp RX9 44 2 4 RX3 TX3 7 tyX3 := ⟨lfX9_44, tyX3_ok, nmX3⟩
theorem lfX9_48 : gLf RX9 48 7 0 RX8 TX8 6 := ⟨uws_X8, rfl, by decide, WL_at 56 (by decide +kernel) (by decide +kernel)⟩
theorem lpX9_48 : gLp RX9 48 7 0 RX8 TX8 6 tyX8 := ⟨lfX9_48, tyX8_ok, nmX8⟩
theorem lVX9_53 : gLV RX9 53 yX3_target := ⟨WL_at 600 (by decide +kernel) (by decide +kernel), WL_at 506 (by decide +kernel) (by decide +kernel), WL_at 507 (by decide +kernel) (by decide +kernel)⟩
theorem lVX9_57 : gLV RX9 57 yX7_has := ⟨WL_at 601 (by decide +kernel) (by decide +kernel), WL_at 162 (by decide +kernel) (by decide +kernel), WL_at 163 (by decide +kernel) (by decide +kernel)⟩
theorem lIX9_11 : gLI RX9 11 yX7_init := ⟨WL_at 228 (by decide +kernel) (by decide +kernel), WL_at 128 (by decide +kernel) (by decide +kernel), rfl⟩
theorem lfX9_12 : gLf RX9 12 8 0 RX9 TX9 5 := ⟨uws_X9, rfl, by decide, WL_at 229 (by decide +kernel) (by decide +kernel)⟩
theorem lpX9_12 : gLp RX9 12 8 0 RX9 TX9 5 tyX9 := ⟨lfX9_12, tyX9_ok, nmX9⟩
theorem lfX9_18 : gLf RX9 18 8 1 RX9 TX9 5 := ⟨uws_X9, rfl, by decide, WL_at 231 (by decide +kernel) (by decide +kernel)⟩
theorem lpX9_18 : gLp RX9 18 8 1 RX9 TX9 5 tyX9 := ⟨lfX9_18, tyX9_ok, nmX9⟩
theorem lVX9_106 : gLV RX9 106 yX7_firstMiss := ⟨WL_at 724 (by decide +kernel) (by decide +kernel), WL_at 685 (by decide +kernel) (by decide +kernel), WL_at 686 (by decide +kernel) (by decide +kernel)⟩
theorem lVX9_65 : gLV RX9 65 yX3_keeps := ⟨WL_at 607 (by decide +kernel) (by decide +kernel), WL_at 608 (by decide +kernel) (by decide +kernel), WL_at 609 (by decide +kernel) (by decide +kernel)⟩
theorem lVX9_61 : gLV RX9 61 yX3_findAllowed := ⟨WL_at 606 (by decide +kernel) (by decide +kernel), WL_at 541 (by decide +kernel) (by decide +kernel), WL_at 542 (by decide +kernel) (by decide +kernel)⟩
theorem ck_bipush_m99 : (Int8.ofInt (-99)).toInt32 = ((-99) : Int32) := by decide +kernel
theorem ck_bipush_m8 : (Int8.ofInt (-8)).toInt32 = ((-8) : Int32) := by decide +kernel
theorem ck_bipush_m7 : (Int8.ofInt (-7)).toInt32 = ((-7) : Int32) := by decide +kernel
theorem ck_bipush_m6 : (Int8.ofInt (-6)).toInt32 = ((-6) : Int32) := by decide +kernel
theorem ck_bipush_m5 : (Int8.ofInt (-5)).toInt32 = ((-5) : Int32) := by decide +kernel
theorem ck_bipush_m4 : (Int8.ofInt (-4)).toInt32 = ((-4) : Int32) := by decide +kernel
theorem ck_bipush_m3 : (Int8.ofInt (-3)).toInt32 = ((-3) : Int32) := by decide +kernel
theorem ck_bipush_m2 : (Int8.ofInt (-2)).toInt32 = ((-2) : Int32) := by decide +kernel
theorem ck_bipush_6 : (Int8.ofInt 6).toInt32 = (6 : Int32) := by decide +kernel
theorem ck_bipush_7 : (Int8.ofInt 7).toInt32 = (7 : Int32) := by decide +kernel
theorem ck_bipush_8 : (Int8.ofInt 8).toInt32 = (8 : Int32) := by decide +kernel
theorem ck_bipush_9 : (Int8.ofInt 9).toInt32 = (9 : Int32) := by decide +kernel
theorem ck_bipush_10 : (Int8.ofInt 10).toInt32 = (10 : Int32) := by decide +kernel
theorem ck_bipush_11 : (Int8.ofInt 11).toInt32 = (11 : Int32) := by decide +kernel
theorem ck_bipush_12 : (Int8.ofInt 12).toInt32 = (12 : Int32) := by decide +kernel
theorem ck_bipush_13 : (Int8.ofInt 13).toInt32 = (13 : Int32) := by decide +kernel
theorem ck_bipush_15 : (Int8.ofInt 15).toInt32 = (15 : Int32) := by decide +kernel
theorem ck_bipush_16 : (Int8.ofInt 16).toInt32 = (16 : Int32) := by decide +kernel
theorem ck_bipush_24 : (Int8.ofInt 24).toInt32 = (24 : Int32) := by decide +kernel
theorem ck_bipush_31 : (Int8.ofInt 31).toInt32 = (31 : Int32) := by decide +kernel
theorem ck_bipush_32 : (Int8.ofInt 32).toInt32 = (32 : Int32) := by decide +kernel
theorem ck_bipush_40 : (Int8.ofInt 40).toInt32 = (40 : Int32) := by decide +kernel
theorem ck_bipush_42 : (Int8.ofInt 42).toInt32 = (42 : Int32) := by decide +kernel
theorem ck_bipush_43 : (Int8.ofInt 43).toInt32 = (43 : Int32) := by decide +kernel
theorem ck_bipush_45 : (Int8.ofInt 45).toInt32 = (45 : Int32) := by decide +kernel
theorem ck_bipush_48 : (Int8.ofInt 48).toInt32 = (48 : Int32) := by decide +kernel
theorem ck_bipush_55 : (Int8.ofInt 55).toInt32 = (55 : Int32) := by decide +kernel
theorem ck_bipush_56 : (Int8.ofInt 56).toInt32 = (56 : Int32) := by decide +kernel
theorem ck_bipush_57 : (Int8.ofInt 57).toInt32 = (57 : Int32) := by decide +kernel
theorem ck_bipush_58 : (Int8.ofInt 58).toInt32 = (58 : Int32) := by decide +kernel
theorem ck_bipush_59 : (Int8.ofInt 59).toInt32 = (59 : Int32) := by decide +kernel
theorem ck_bipush_61 : (Int8.ofInt 61).toInt32 = (61 : Int32) := by decide +kernel
theorem ck_bipush_63 : (Int8.ofInt 63).toInt32 = (63 : Int32) := by decide +kernel
theorem ck_bipush_64 : (Int8.ofInt 64).toInt32 = (64 : Int32) := by decide +kernel
theorem ck_bipush_77 : (Int8.ofInt 77).toInt32 = (77 : Int32) := by decide +kernel
theorem ck_bipush_80 : (Int8.ofInt 80).toInt32 = (80 : Int32) := by decide +kernel
theorem ck_bipush_97 : (Int8.ofInt 97).toInt32 = (97 : Int32) := by decide +kernel
theorem ck_bipush_99 : (Int8.ofInt 99).toInt32 = (99 : Int32) := by decide +kernel
theorem ck_bipush_100 : (Int8.ofInt 100).toInt32 = (100 : Int32) := by decide +kernel
theorem ck_bipush_126 : (Int8.ofInt 126).toInt32 = (126 : Int32) := by decide +kernel
theorem ck_bipush_127 : (Int8.ofInt 127).toInt32 = (127 : Int32) := by decide +kernel
theorem ck_iconst_m1 : Int32.ofInt (-1) = ((-1) : Int32) := by decide +kernel
theorem ck_iconst_0 : Int32.ofInt 0 = (0 : Int32) := by decide +kernel
theorem ck_iconst_1 : Int32.ofInt 1 = (1 : Int32) := by decide +kernel
theorem ck_iconst_2 : Int32.ofInt 2 = (2 : Int32) := by decide +kernel
theorem ck_iconst_3 : Int32.ofInt 3 = (3 : Int32) := by decide +kernel
theorem ck_iconst_4 : Int32.ofInt 4 = (4 : Int32) := by decide +kernel
theorem ck_iconst_5 : Int32.ofInt 5 = (5 : Int32) := by decide +kernel
theorem ck_iinc_m1 : Int32.ofInt (-1) = ((-1) : Int32) := by decide +kernel
theorem ck_iinc_1 : Int32.ofInt 1 = (1 : Int32) := by decide +kernel
theorem ck_sipush_128 : (Int16.ofInt 128).toInt32 = (128 : Int32) := by decide +kernel
theorem ck_sipush_135 : (Int16.ofInt 135).toInt32 = (135 : Int32) := by decide +kernel
theorem ck_sipush_192 : (Int16.ofInt 192).toInt32 = (192 : Int32) := by decide +kernel
theorem ck_sipush_232 : (Int16.ofInt 232).toInt32 = (232 : Int32) := by decide +kernel
theorem ck_sipush_237 : (Int16.ofInt 237).toInt32 = (237 : Int32) := by decide +kernel
theorem ck_sipush_275 : (Int16.ofInt 275).toInt32 = (275 : Int32) := by decide +kernel
theorem ck_sipush_384 : (Int16.ofInt 384).toInt32 = (384 : Int32) := by decide +kernel
theorem ck_sipush_418 : (Int16.ofInt 418).toInt32 = (418 : Int32) := by decide +kernel
theorem ck_sipush_448 : (Int16.ofInt 448).toInt32 = (448 : Int32) := by decide +kernel
theorem ck_sipush_511 : (Int16.ofInt 511).toInt32 = (511 : Int32) := by decide +kernel
theorem ck_sipush_512 : (Int16.ofInt 512).toInt32 = (512 : Int32) := by decide +kernel
theorem ck_sipush_690 : (Int16.ofInt 690).toInt32 = (690 : Int32) := by decide +kernel
theorem ck_sipush_757 : (Int16.ofInt 757).toInt32 = (757 : Int32) := by decide +kernel
theorem ck_sipush_787 : (Int16.ofInt 787).toInt32 = (787 : Int32) := by decide +kernel
theorem ck_sipush_945 : (Int16.ofInt 945).toInt32 = (945 : Int32) := by decide +kernel
theorem ck_sipush_999 : (Int16.ofInt 999).toInt32 = (999 : Int32) := by decide +kernel
theorem ck_sipush_1000 : (Int16.ofInt 1000).toInt32 = (1000 : Int32) := by decide +kernel
theorem ck_sipush_1237 : (Int16.ofInt 1237).toInt32 = (1237 : Int32) := by decide +kernel
theorem ck_sipush_1298 : (Int16.ofInt 1298).toInt32 = (1298 : Int32) := by decide +kernel
theorem ck_sipush_1350 : (Int16.ofInt 1350).toInt32 = (1350 : Int32) := by decide +kernel
theorem ck_sipush_7919 : (Int16.ofInt 7919).toInt32 = (7919 : Int32) := by decide +kernel
