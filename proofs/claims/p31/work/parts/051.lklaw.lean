set_option maxRecDepth 100000 in
theorem lkL_carried : gLk yL_carried cL_carried 2 (some .boolean) 0 := ⟨WL_at 884 rfl rfl, WL_at 21 (by decide +kernel) (by decide +kernel), by decide +kernel⟩
set_option maxRecDepth 100000 in
theorem lkL_codes : gLk yL_codes cL_codes 1 (some .boolean) 0 := ⟨WL_at 746 rfl rfl, WL_at 21 (by decide +kernel) (by decide +kernel), by decide +kernel⟩
set_option maxRecDepth 100000 in
theorem lkL_counts : gLk yL_counts cL_counts 2 (some .boolean) 0 := ⟨WL_at 749 rfl rfl, WL_at 21 (by decide +kernel) (by decide +kernel), by decide +kernel⟩
set_option maxRecDepth 100000 in
theorem lkL_drawn : gLk yL_drawn cL_drawn 2 (some .int) 2 := ⟨WL_at 635 rfl rfl, WL_at 21 (by decide +kernel) (by decide +kernel), by decide +kernel⟩
set_option maxRecDepth 100000 in
theorem lkL_faultOf : gLk yL_faultOf cL_faultOf 5 (some .int) 2 := ⟨WL_at 785 rfl rfl, WL_at 21 (by decide +kernel) (by decide +kernel), by decide +kernel⟩
set_option maxRecDepth 100000 in
theorem lkL_isCandidate : gLk yL_isCandidate cL_isCandidate 6 (some .boolean) 6 := ⟨WL_at 752 rfl rfl, WL_at 21 (by decide +kernel) (by decide +kernel), by decide +kernel⟩
set_option maxRecDepth 100000 in
theorem lkL_part : gLk yL_part cL_part 2 (some .int) 2 := ⟨WL_at 631 rfl rfl, WL_at 21 (by decide +kernel) (by decide +kernel), by decide +kernel⟩
set_option maxRecDepth 100000 in
theorem lkL_puts : gLk yL_puts cL_puts 3 (some .boolean) 2 := ⟨WL_at 788 rfl rfl, WL_at 21 (by decide +kernel) (by decide +kernel), by decide +kernel⟩
set_option maxRecDepth 100000 in
theorem lkL_refused : gLk yL_refused cL_refused 5 (some .boolean) 1 := ⟨WL_at 658 rfl rfl, WL_at 21 (by decide +kernel) (by decide +kernel), by decide +kernel⟩
set_option maxRecDepth 100000 in
theorem lkL_refusesAny : gLk yL_refusesAny cL_refusesAny 3 (some .boolean) 2 := ⟨WL_at 661 rfl rfl, WL_at 21 (by decide +kernel) (by decide +kernel), by decide +kernel⟩
set_option maxRecDepth 100000 in
theorem lkL_seen : gLk yL_seen cL_seen 4 (some .long) 1 := ⟨WL_at 639 rfl rfl, WL_at 21 (by decide +kernel) (by decide +kernel), by decide +kernel⟩
set_option maxRecDepth 100000 in
theorem lkL_texts : gLk yL_texts cL_texts 0 (some .boolean) 0 := ⟨WL_at 782 rfl rfl, WL_at 21 (by decide +kernel) (by decide +kernel), by decide +kernel⟩
