/-! ===== BEGIN words of one list among another's, by their places ===== -/
theorem goodIn_r {big : List Cond} (ws : List Cond) (ps : List Nat) (hp : ws = ps.filterMap (fun i => big[i]?)) (h : ws.all goodWord = true) : GoodIn big ws := by
  intro w hw
  have h1 := List.all_eq_true.mp h w hw
  rw [hp] at hw
  obtain ⟨i, -, hi⟩ := List.mem_filterMap.mp hw
  have hm : w ∈ big := by first | exact List.mem_of_getElem? hi | exact List.getElem?_mem hi
  exact ⟨hm, good_of_word h1⟩
theorem goodIn_app {big a b : List Cond} (ha : GoodIn big a) (hb : GoodIn big b) : GoodIn big (a ++ b) := fun w h => (List.mem_append.mp h).elim (ha w) (hb w)
theorem goodIn_ca {big a b : List Cond} {c : Cond} (ha : GoodIn big (c :: a)) (hb : GoodIn big b) : GoodIn big (c :: (a ++ b)) := fun w h => (List.mem_cons.mp h).elim (fun e => ha w (List.mem_cons.mpr (Or.inl e))) (fun h => (List.mem_append.mp h).elim (fun h => ha w (List.mem_cons.mpr (Or.inr h))) (hb w))
theorem goodIn_sub {big ws : List Cond} (hm : ∀ w ∈ ws, w ∈ big) (h : ws.all goodWord = true) : GoodIn big ws := fun w hw => ⟨hm w hw, good_of_word (List.all_eq_true.mp h w hw)⟩
/-! ===== END ===== -/

/-! ===== BEGIN printed: names, fields, word lists, decode rows ===== -/
def RX0 : String := "TruthKernel$Candidates"
def TX0 : u_T := fun k => match k with
  | 0 => ("TruthKernel$Candidates", "count", "I", false)
  | 1 => ("TruthKernel$Candidates", "code", "[I", true)
  | 2 => ("TruthKernel$Candidates", "fate", "[I", true)
  | 3 => ("TruthKernel$Candidates", "state", "[I", true)
  | 4 => ("TruthKernel$Candidates", "number", "[I", true)
  | _ => ("TruthKernel$Candidates", "round", "[I", true)
def tyX0 : Nat → FieldType := fun k => match k with
  | 0 => .int
  | 1 => .array .int
  | 2 => .array .int
  | 3 => .array .int
  | 4 => .array .int
  | _ => .array .int
abbrev wsX00 : List Cond := u_ws RX0 TX0 6
theorem nmX0 : ∀ a, a < 6 → ∀ b, b < 6 → a ≠ b → (TX0 a).2.1 ≠ (TX0 b).2.1 := by decide +kernel
theorem tyX0_ok : ∀ k, k < 6 → parseFieldDescriptor (TX0 k).2.2.1 = some (tyX0 k) := by decide +kernel
abbrev cX0_init : ByteArray := prog_2_method_1_code
def yX0_init : MethodName := ⟨RX0, "<init>", "()V"⟩
abbrev cX0_copyFrom : ByteArray := prog_2_method_2_code
def yX0_copyFrom : MethodName := ⟨RX0, "copyFrom", "(LTruthKernel$Candidates;)V"⟩
abbrev cX0_has : ByteArray := prog_2_method_3_code
def yX0_has : MethodName := ⟨RX0, "has", "(I)Z"⟩
abbrev cX0_hasCode : ByteArray := prog_2_method_4_code
def yX0_hasCode : MethodName := ⟨RX0, "hasCode", "(I)Z"⟩
abbrev cX0_setFate : ByteArray := prog_2_method_5_code
def yX0_setFate : MethodName := ⟨RX0, "setFate", "(IIIII)V"⟩
abbrev cX0_countStanding : ByteArray := prog_2_method_6_code
def yX0_countStanding : MethodName := ⟨RX0, "countStanding", "()I"⟩
abbrev cX0_findStanding : ByteArray := prog_2_method_7_code
def yX0_findStanding : MethodName := ⟨RX0, "findStanding", "()J"⟩
abbrev cX0_standsAgainst : ByteArray := prog_2_method_8_code
def yX0_standsAgainst : MethodName := ⟨RX0, "standsAgainst", "(II)Z"⟩
abbrev cX0_nextMiss : ByteArray := prog_2_method_9_code
def yX0_nextMiss : MethodName := ⟨RX0, "nextMiss", "(II)I"⟩
abbrev cX0_allow : ByteArray := prog_2_method_10_code
def yX0_allow : MethodName := ⟨RX0, "allow", "(I)Z"⟩
abbrev cX0_findNeedless : ByteArray := prog_2_method_11_code
def yX0_findNeedless : MethodName := ⟨RX0, "findNeedless", "()J"⟩
def RX1 : String := "TruthKernel$Claims"
def TX1 : u_T := fun k => match k with
  | _ => ("", "", "", false)
def tyX1 : Nat → FieldType := fun k => match k with
  | _ => .int
abbrev wsX10 : List Cond := u_ws RX1 TX1 0
theorem nmX1 : ∀ a, a < 0 → ∀ b, b < 0 → a ≠ b → (TX1 a).2.1 ≠ (TX1 b).2.1 := by decide +kernel
theorem tyX1_ok : ∀ k, k < 0 → parseFieldDescriptor (TX1 k).2.2.1 = some (tyX1 k) := by decide +kernel
abbrev cX1_encode : ByteArray := prog_3_method_2_code
def yX1_encode : MethodName := ⟨RX1, "encode", "(IIII)I"⟩
abbrev cX1_isCode : ByteArray := prog_3_method_3_code
def yX1_isCode : MethodName := ⟨RX1, "isCode", "(I)Z"⟩
abbrev cX1_isClaim : ByteArray := prog_3_method_4_code
def yX1_isClaim : MethodName := ⟨RX1, "isClaim", "(IIII)Z"⟩
abbrev cX1_isDigit : ByteArray := prog_3_method_5_code
def yX1_isDigit : MethodName := ⟨RX1, "isDigit", "(I)Z"⟩
abbrev cX1_isOffset : ByteArray := prog_3_method_6_code
def yX1_isOffset : MethodName := ⟨RX1, "isOffset", "(I)Z"⟩
abbrev cX1_numberOf : ByteArray := prog_3_method_7_code
def yX1_numberOf : MethodName := ⟨RX1, "numberOf", "(II)I"⟩
abbrev cX1_isMetBy : ByteArray := prog_3_method_8_code
def yX1_isMetBy : MethodName := ⟨RX1, "isMetBy", "(II)Z"⟩
def RX2 : String := "TruthKernel$History"
def TX2 : u_T := fun k => match k with
  | 0 => ("TruthKernel$History", "count", "I", false)
  | _ => ("TruthKernel$History", "kept", "[LTruthKernel$Machine;", true)
def tyX2 : Nat → FieldType := fun k => match k with
  | 0 => .int
  | _ => .array (.object "TruthKernel$Machine")
abbrev wsX20 : List Cond := u_ws RX2 TX2 2
theorem nmX2 : ∀ a, a < 2 → ∀ b, b < 2 → a ≠ b → (TX2 a).2.1 ≠ (TX2 b).2.1 := by decide +kernel
theorem tyX2_ok : ∀ k, k < 2 → parseFieldDescriptor (TX2 k).2.2.1 = some (tyX2 k) := by decide +kernel
abbrev cX2_init : ByteArray := prog_4_method_1_code
def yX2_init : MethodName := ⟨RX2, "<init>", "()V"⟩
abbrev cX2_prepare : ByteArray := prog_4_method_2_code
def yX2_prepare : MethodName := ⟨RX2, "prepare", "(LTruthKernel$Machine;)V"⟩
abbrev cX2_confirm : ByteArray := prog_4_method_3_code
def yX2_confirm : MethodName := ⟨RX2, "confirm", "(I)I"⟩
abbrev cX2_moveOldestBehind : ByteArray := prog_4_method_4_code
def yX2_moveOldestBehind : MethodName := ⟨RX2, "moveOldestBehind", "()V"⟩
abbrev cX2_takeBack : ByteArray := prog_4_method_5_code
def yX2_takeBack : MethodName := ⟨RX2, "takeBack", "(LTruthKernel$Machine;)Z"⟩
def RX3 : String := "TruthKernel$Machine"
def TX3 : u_T := fun k => match k with
  | 0 => ("TruthKernel$Machine", "start", "I", false)
  | 1 => ("TruthKernel$Machine", "wrap", "I", false)
  | 2 => ("TruthKernel$Machine", "runs", "I", false)
  | 3 => ("TruthKernel$Machine", "rounds", "I", false)
  | 4 => ("TruthKernel$Machine", "steps", "LTruthKernel$Steps;", true)
  | 5 => ("TruthKernel$Machine", "candidates", "LTruthKernel$Candidates;", true)
  | _ => ("TruthKernel$Machine", "seen", "LTruthKernel$Seen;", true)
def tyX3 : Nat → FieldType := fun k => match k with
  | 0 => .int
  | 1 => .int
  | 2 => .int
  | 3 => .int
  | 4 => .object "TruthKernel$Steps"
  | 5 => .object "TruthKernel$Candidates"
  | _ => .object "TruthKernel$Seen"
abbrev wsX30 : List Cond := u_ws RX3 TX3 7
theorem nmX3 : ∀ a, a < 7 → ∀ b, b < 7 → a ≠ b → (TX3 a).2.1 ≠ (TX3 b).2.1 := by decide +kernel
theorem tyX3_ok : ∀ k, k < 7 → parseFieldDescriptor (TX3 k).2.2.1 = some (tyX3 k) := by decide +kernel
abbrev cX3_init : ByteArray := prog_5_method_1_code
def yX3_init : MethodName := ⟨RX3, "<init>", "()V"⟩
abbrev cX3_copyFrom : ByteArray := prog_5_method_2_code
def yX3_copyFrom : MethodName := ⟨RX3, "copyFrom", "(LTruthKernel$Machine;)V"⟩
abbrev cX3_beginAnew : ByteArray := prog_5_method_3_code
def yX3_beginAnew : MethodName := ⟨RX3, "beginAnew", "()V"⟩
abbrev cX3_judgeBySeen : ByteArray := prog_5_method_4_code
def yX3_judgeBySeen : MethodName := ⟨RX3, "judgeBySeen", "(I)V"⟩
abbrev cX3_setStart : ByteArray := prog_5_method_5_code
def yX3_setStart : MethodName := ⟨RX3, "setStart", "(III)I"⟩
abbrev cX3_setWrap : ByteArray := prog_5_method_6_code
def yX3_setWrap : MethodName := ⟨RX3, "setWrap", "(I)I"⟩
abbrev cX3_addStep : ByteArray := prog_5_method_7_code
def yX3_addStep : MethodName := ⟨RX3, "addStep", "(IIIII)I"⟩
abbrev cX3_removeStep : ByteArray := prog_5_method_8_code
def yX3_removeStep : MethodName := ⟨RX3, "removeStep", "(I)I"⟩
abbrev cX3_addCandidate : ByteArray := prog_5_method_9_code
def yX3_addCandidate : MethodName := ⟨RX3, "addCandidate", "(I)I"⟩
abbrev cX3_addGuesses : ByteArray := prog_5_method_10_code
def yX3_addGuesses : MethodName := ⟨RX3, "addGuesses", "(I)I"⟩
abbrev cX3_target : ByteArray := prog_5_method_11_code
def yX3_target : MethodName := ⟨RX3, "target", "(II)I"⟩
abbrev cX3_makeRun : ByteArray := prog_5_method_12_code
def yX3_makeRun : MethodName := ⟨RX3, "makeRun", "(II)I"⟩
abbrev cX3_pickTarget : ByteArray := prog_5_method_13_code
def yX3_pickTarget : MethodName := ⟨RX3, "pickTarget", "(IJ)I"⟩
abbrev cX3_strikeByRun : ByteArray := prog_5_method_14_code
def yX3_strikeByRun : MethodName := ⟨RX3, "strikeByRun", "(I)V"⟩
abbrev cX3_findAllowed : ByteArray := prog_5_method_15_code
def yX3_findAllowed : MethodName := ⟨RX3, "findAllowed", "(LTruthKernel$StateSet;)V"⟩
abbrev cX3_countAble : ByteArray := prog_5_method_16_code
def yX3_countAble : MethodName := ⟨RX3, "countAble", "(ILTruthKernel$StateSet;)I"⟩
abbrev cX3_keeps : ByteArray := prog_5_method_17_code
def yX3_keeps : MethodName := ⟨RX3, "keeps", "(LTruthKernel$StateSet;)Z"⟩
abbrev cX3_makeRound : ByteArray := prog_5_method_18_code
def yX3_makeRound : MethodName := ⟨RX3, "makeRound", "(LTruthKernel$StateSet;)I"⟩
abbrev cX3_strikeByStep : ByteArray := prog_5_method_19_code
def yX3_strikeByStep : MethodName := ⟨RX3, "strikeByStep", "(III)I"⟩
abbrev cX3_makeRounds : ByteArray := prog_5_method_20_code
def yX3_makeRounds : MethodName := ⟨RX3, "makeRounds", "(LTruthKernel$StateSet;)I"⟩
def RX4 : String := "TruthKernel$Pad"
def TX4 : u_T := fun k => match k with
  | 0 => ("TruthKernel$Pad", "length", "I", false)
  | _ => ("TruthKernel$Pad", "signs", "[C", true)
def tyX4 : Nat → FieldType := fun k => match k with
  | 0 => .int
  | _ => .array .char
abbrev wsX40 : List Cond := u_ws RX4 TX4 2
theorem nmX4 : ∀ a, a < 2 → ∀ b, b < 2 → a ≠ b → (TX4 a).2.1 ≠ (TX4 b).2.1 := by decide +kernel
theorem tyX4_ok : ∀ k, k < 2 → parseFieldDescriptor (TX4 k).2.2.1 = some (tyX4 k) := by decide +kernel
abbrev cX4_init : ByteArray := prog_6_method_1_code
def yX4_init : MethodName := ⟨RX4, "<init>", "()V"⟩
abbrev cX4_signAt : ByteArray := prog_6_method_2_code
def yX4_signAt : MethodName := ⟨RX4, "signAt", "(I)I"⟩
abbrev cX4_countSigns : ByteArray := prog_6_method_3_code
def yX4_countSigns : MethodName := ⟨RX4, "countSigns", "(J)I"⟩
abbrev cX4_append : ByteArray := prog_6_method_4_code
def yX4_append : MethodName := ⟨RX4, "append", "(JI)V"⟩
def RX5 : String := "TruthKernel$Reader"
def TX5 : u_T := fun k => match k with
  | 0 => ("TruthKernel$Reader", "pad", "LTruthKernel$Pad;", true)
  | 1 => ("TruthKernel$Reader", "at", "I", false)
  | 2 => ("TruthKernel$Reader", "kind", "I", false)
  | 3 => ("TruthKernel$Reader", "claim", "I", false)
  | 4 => ("TruthKernel$Reader", "how", "I", false)
  | 5 => ("TruthKernel$Reader", "x", "I", false)
  | 6 => ("TruthKernel$Reader", "y", "I", false)
  | 7 => ("TruthKernel$Reader", "k", "I", false)
  | 8 => ("TruthKernel$Reader", "seed", "I", false)
  | _ => ("TruthKernel$Reader", "moves", "I", false)
def tyX5 : Nat → FieldType := fun k => match k with
  | 0 => .object "TruthKernel$Pad"
  | 1 => .int
  | 2 => .int
  | 3 => .int
  | 4 => .int
  | 5 => .int
  | 6 => .int
  | 7 => .int
  | 8 => .int
  | _ => .int
abbrev wsX50 : List Cond := u_ws RX5 TX5 10
theorem nmX5 : ∀ a, a < 10 → ∀ b, b < 10 → a ≠ b → (TX5 a).2.1 ≠ (TX5 b).2.1 := by decide +kernel
theorem tyX5_ok : ∀ k, k < 10 → parseFieldDescriptor (TX5 k).2.2.1 = some (tyX5 k) := by decide +kernel
abbrev cX5_init : ByteArray := prog_7_method_1_code
def yX5_init : MethodName := ⟨RX5, "<init>", "()V"⟩
abbrev cX5_begin : ByteArray := prog_7_method_2_code
def yX5_begin : MethodName := ⟨RX5, "begin", "()V"⟩
abbrev cX5_findFault : ByteArray := prog_7_method_3_code
def yX5_findFault : MethodName := ⟨RX5, "findFault", "()I"⟩
abbrev cX5_readNextOrder : ByteArray := prog_7_method_4_code
def yX5_readNextOrder : MethodName := ⟨RX5, "readNextOrder", "()Z"⟩
abbrev cX5_readRun : ByteArray := prog_7_method_5_code
def yX5_readRun : MethodName := ⟨RX5, "readRun", "()Z"⟩
abbrev cX5_readClaim : ByteArray := prog_7_method_6_code
def yX5_readClaim : MethodName := ⟨RX5, "readClaim", "()Z"⟩
abbrev cX5_readForm : ByteArray := prog_7_method_7_code
def yX5_readForm : MethodName := ⟨RX5, "readForm", "()I"⟩
abbrev cX5_formOf : ByteArray := prog_7_method_8_code
def yX5_formOf : MethodName := ⟨RX5, "formOf", "(I)I"⟩
abbrev cX5_readAction : ByteArray := prog_7_method_9_code
def yX5_readAction : MethodName := ⟨RX5, "readAction", "()Z"⟩
abbrev cX5_readOffset : ByteArray := prog_7_method_10_code
def yX5_readOffset : MethodName := ⟨RX5, "readOffset", "()I"⟩
abbrev cX5_take : ByteArray := prog_7_method_11_code
def yX5_take : MethodName := ⟨RX5, "take", "(C)Z"⟩
abbrev cX5_readVar : ByteArray := prog_7_method_12_code
def yX5_readVar : MethodName := ⟨RX5, "readVar", "()I"⟩
abbrev cX5_readDigit : ByteArray := prog_7_method_13_code
def yX5_readDigit : MethodName := ⟨RX5, "readDigit", "()I"⟩
abbrev cX5_readBetween : ByteArray := prog_7_method_14_code
def yX5_readBetween : MethodName := ⟨RX5, "readBetween", "(CC)I"⟩
abbrev cX5_readNumber : ByteArray := prog_7_method_15_code
def yX5_readNumber : MethodName := ⟨RX5, "readNumber", "()I"⟩
def RX6 : String := "TruthKernel$Seen"
def TX6 : u_T := fun k => match k with
  | 0 => ("TruthKernel$Seen", "count", "I", false)
  | 1 => ("TruthKernel$Seen", "order", "[I", true)
  | _ => ("TruthKernel$Seen", "states", "LTruthKernel$StateSet;", true)
def tyX6 : Nat → FieldType := fun k => match k with
  | 0 => .int
  | 1 => .array .int
  | _ => .object "TruthKernel$StateSet"
abbrev wsX60 : List Cond := u_ws RX6 TX6 3
theorem nmX6 : ∀ a, a < 3 → ∀ b, b < 3 → a ≠ b → (TX6 a).2.1 ≠ (TX6 b).2.1 := by decide +kernel
theorem tyX6_ok : ∀ k, k < 3 → parseFieldDescriptor (TX6 k).2.2.1 = some (tyX6 k) := by decide +kernel
abbrev cX6_init : ByteArray := prog_8_method_1_code
def yX6_init : MethodName := ⟨RX6, "<init>", "()V"⟩
abbrev cX6_copyFrom : ByteArray := prog_8_method_2_code
def yX6_copyFrom : MethodName := ⟨RX6, "copyFrom", "(LTruthKernel$Seen;)V"⟩
abbrev cX6_beginAt : ByteArray := prog_8_method_3_code
def yX6_beginAt : MethodName := ⟨RX6, "beginAt", "(I)V"⟩
abbrev cX6_add : ByteArray := prog_8_method_4_code
def yX6_add : MethodName := ⟨RX6, "add", "(II)Z"⟩
abbrev cX6_stateAt : ByteArray := prog_8_method_5_code
def yX6_stateAt : MethodName := ⟨RX6, "stateAt", "(I)I"⟩
abbrev cX6_runAt : ByteArray := prog_8_method_6_code
def yX6_runAt : MethodName := ⟨RX6, "runAt", "(I)I"⟩
abbrev cX6_firstMiss : ByteArray := prog_8_method_7_code
def yX6_firstMiss : MethodName := ⟨RX6, "firstMiss", "(I)I"⟩
def RX7 : String := "TruthKernel$StateSet"
def TX7 : u_T := fun k => match k with
  | _ => ("TruthKernel$StateSet", "words", "[J", true)
def tyX7 : Nat → FieldType := fun k => match k with
  | _ => .array .long
abbrev wsX70 : List Cond := u_ws RX7 TX7 1
theorem nmX7 : ∀ a, a < 1 → ∀ b, b < 1 → a ≠ b → (TX7 a).2.1 ≠ (TX7 b).2.1 := by decide +kernel
theorem tyX7_ok : ∀ k, k < 1 → parseFieldDescriptor (TX7 k).2.2.1 = some (tyX7 k) := by decide +kernel
abbrev cX7_init : ByteArray := prog_9_method_1_code
def yX7_init : MethodName := ⟨RX7, "<init>", "()V"⟩
abbrev cX7_clear : ByteArray := prog_9_method_2_code
def yX7_clear : MethodName := ⟨RX7, "clear", "()V"⟩
abbrev cX7_fill : ByteArray := prog_9_method_3_code
def yX7_fill : MethodName := ⟨RX7, "fill", "()V"⟩
abbrev cX7_copyFrom : ByteArray := prog_9_method_4_code
def yX7_copyFrom : MethodName := ⟨RX7, "copyFrom", "(LTruthKernel$StateSet;)V"⟩
abbrev cX7_has : ByteArray := prog_9_method_5_code
def yX7_has : MethodName := ⟨RX7, "has", "(I)Z"⟩
abbrev cX7_add : ByteArray := prog_9_method_6_code
def yX7_add : MethodName := ⟨RX7, "add", "(I)V"⟩
abbrev cX7_size : ByteArray := prog_9_method_7_code
def yX7_size : MethodName := ⟨RX7, "size", "()I"⟩
abbrev cX7_firstMiss : ByteArray := prog_9_method_8_code
def yX7_firstMiss : MethodName := ⟨RX7, "firstMiss", "(I)I"⟩
def RX8 : String := "TruthKernel$Steps"
def TX8 : u_T := fun k => match k with
  | 0 => ("TruthKernel$Steps", "count", "I", false)
  | 1 => ("TruthKernel$Steps", "guard", "[I", true)
  | 2 => ("TruthKernel$Steps", "how", "[I", true)
  | 3 => ("TruthKernel$Steps", "x", "[I", true)
  | 4 => ("TruthKernel$Steps", "y", "[I", true)
  | _ => ("TruthKernel$Steps", "k", "[I", true)
def tyX8 : Nat → FieldType := fun k => match k with
  | 0 => .int
  | 1 => .array .int
  | 2 => .array .int
  | 3 => .array .int
  | 4 => .array .int
  | _ => .array .int
abbrev wsX80 : List Cond := u_ws RX8 TX8 6
theorem nmX8 : ∀ a, a < 6 → ∀ b, b < 6 → a ≠ b → (TX8 a).2.1 ≠ (TX8 b).2.1 := by decide +kernel
theorem tyX8_ok : ∀ k, k < 6 → parseFieldDescriptor (TX8 k).2.2.1 = some (tyX8 k) := by decide +kernel
abbrev cX8_init : ByteArray := prog_10_method_1_code
def yX8_init : MethodName := ⟨RX8, "<init>", "()V"⟩
abbrev cX8_copyFrom : ByteArray := prog_10_method_2_code
def yX8_copyFrom : MethodName := ⟨RX8, "copyFrom", "(LTruthKernel$Steps;)V"⟩
abbrev cX8_has : ByteArray := prog_10_method_3_code
def yX8_has : MethodName := ⟨RX8, "has", "(I)Z"⟩
abbrev cX8_isAction : ByteArray := prog_10_method_4_code
def yX8_isAction : MethodName := ⟨RX8, "isAction", "(IIII)Z"⟩
abbrev cX8_add : ByteArray := prog_10_method_5_code
def yX8_add : MethodName := ⟨RX8, "add", "(IIIII)I"⟩
abbrev cX8_remove : ByteArray := prog_10_method_6_code
def yX8_remove : MethodName := ⟨RX8, "remove", "(I)I"⟩
abbrev cX8_copyStep : ByteArray := prog_10_method_7_code
def yX8_copyStep : MethodName := ⟨RX8, "copyStep", "(LTruthKernel$Steps;II)V"⟩
abbrev cX8_target : ByteArray := prog_10_method_8_code
def yX8_target : MethodName := ⟨RX8, "target", "(IIZ)I"⟩
abbrev cX8_replace : ByteArray := prog_10_method_9_code
def yX8_replace : MethodName := ⟨RX8, "replace", "(III)I"⟩
def RX9 : String := "TruthKernel$Survey"
def TX9 : u_T := fun k => match k with
  | 0 => ("TruthKernel$Survey", "all", "LTruthKernel$StateSet;", true)
  | 1 => ("TruthKernel$Survey", "allowed", "LTruthKernel$StateSet;", true)
  | 2 => ("TruthKernel$Survey", "reached", "LTruthKernel$StateSet;", true)
  | 3 => ("TruthKernel$Survey", "queue", "[I", true)
  | _ => ("TruthKernel$Survey", "misses", "[I", true)
def tyX9 : Nat → FieldType := fun k => match k with
  | 0 => .object "TruthKernel$StateSet"
  | 1 => .object "TruthKernel$StateSet"
  | 2 => .object "TruthKernel$StateSet"
  | 3 => .array .int
  | _ => .array .int
abbrev wsX90 : List Cond := u_ws RX9 TX9 5
theorem nmX9 : ∀ a, a < 5 → ∀ b, b < 5 → a ≠ b → (TX9 a).2.1 ≠ (TX9 b).2.1 := by decide +kernel
theorem tyX9_ok : ∀ k, k < 5 → parseFieldDescriptor (TX9 k).2.2.1 = some (tyX9 k) := by decide +kernel
abbrev cX9_init : ByteArray := prog_11_method_1_code
def yX9_init : MethodName := ⟨RX9, "<init>", "()V"⟩
abbrev cX9_findReached : ByteArray := prog_11_method_2_code
def yX9_findReached : MethodName := ⟨RX9, "findReached", "(LTruthKernel$Machine;)V"⟩
abbrev cX9_isKernel : ByteArray := prog_11_method_3_code
def yX9_isKernel : MethodName := ⟨RX9, "isKernel", "(LTruthKernel$Machine;)Z"⟩
abbrev cX9_findCore : ByteArray := prog_11_method_4_code
def yX9_findCore : MethodName := ⟨RX9, "findCore", "(LTruthKernel$Machine;I)J"⟩
abbrev cX9_countMisses : ByteArray := prog_11_method_5_code
def yX9_countMisses : MethodName := ⟨RX9, "countMisses", "(LTruthKernel$Candidates;)V"⟩
abbrev cX9_addMisses : ByteArray := prog_11_method_6_code
def yX9_addMisses : MethodName := ⟨RX9, "addMisses", "(II)V"⟩
abbrev cX9_isEnough : ByteArray := prog_11_method_7_code
def yX9_isEnough : MethodName := ⟨RX9, "isEnough", "(LTruthKernel$Machine;I)Z"⟩
def RX10 : String := "TruthKernel"
def TX10 : u_T := fun k => match k with
  | 0 => ("TruthKernel", "now", "LTruthKernel$Machine;", true)
  | 1 => ("TruthKernel", "history", "LTruthKernel$History;", true)
  | 2 => ("TruthKernel", "slots", "[LTruthKernel$Machine;", true)
  | 3 => ("TruthKernel", "filled", "[Z", true)
  | 4 => ("TruthKernel", "survey", "LTruthKernel$Survey;", true)
  | 5 => ("TruthKernel", "pad", "LTruthKernel$Pad;", true)
  | _ => ("TruthKernel", "reader", "LTruthKernel$Reader;", true)
def tyX10 : Nat → FieldType := fun k => match k with
  | 0 => .object "TruthKernel$Machine"
  | 1 => .object "TruthKernel$History"
  | 2 => .array (.object "TruthKernel$Machine")
  | 3 => .array .boolean
  | 4 => .object "TruthKernel$Survey"
  | 5 => .object "TruthKernel$Pad"
  | _ => .object "TruthKernel$Reader"
abbrev wsX100 : List Cond := u_ws RX10 TX10 7
theorem nmX10 : ∀ a, a < 7 → ∀ b, b < 7 → a ≠ b → (TX10 a).2.1 ≠ (TX10 b).2.1 := by decide +kernel
theorem tyX10_ok : ∀ k, k < 7 → parseFieldDescriptor (TX10 k).2.2.1 = some (tyX10 k) := by decide +kernel
abbrev cX10_init : ByteArray := prog_1_method_1_code
def yX10_init : MethodName := ⟨RX10, "<init>", "()V"⟩
abbrev cX10_start : ByteArray := prog_1_method_2_code
def yX10_start : MethodName := ⟨RX10, "start", "(III)I"⟩
abbrev cX10_wrap : ByteArray := prog_1_method_3_code
def yX10_wrap : MethodName := ⟨RX10, "wrap", "(I)I"⟩
abbrev cX10_step : ByteArray := prog_1_method_4_code
def yX10_step : MethodName := ⟨RX10, "step", "(IIIII)I"⟩
abbrev cX10_drop : ByteArray := prog_1_method_5_code
def yX10_drop : MethodName := ⟨RX10, "drop", "(I)I"⟩
abbrev cX10_candidate : ByteArray := prog_1_method_6_code
def yX10_candidate : MethodName := ⟨RX10, "candidate", "(I)I"⟩
abbrev cX10_guess : ByteArray := prog_1_method_7_code
def yX10_guess : MethodName := ⟨RX10, "guess", "(I)I"⟩
abbrev cX10_run : ByteArray := prog_1_method_8_code
def yX10_run : MethodName := ⟨RX10, "run", "(II)I"⟩
abbrev cX10_strike : ByteArray := prog_1_method_9_code
def yX10_strike : MethodName := ⟨RX10, "strike", "()I"⟩
abbrev cX10_settle : ByteArray := prog_1_method_10_code
def yX10_settle : MethodName := ⟨RX10, "settle", "()I"⟩
abbrev cX10_claim : ByteArray := prog_1_method_11_code
def yX10_claim : MethodName := ⟨RX10, "claim", "(IIII)I"⟩
abbrev cX10_holds : ByteArray := prog_1_method_12_code
def yX10_holds : MethodName := ⟨RX10, "holds", "(II)I"⟩
abbrev cX10_ofStep : ByteArray := prog_1_method_13_code
def yX10_ofStep : MethodName := ⟨RX10, "ofStep", "(II)I"⟩
abbrev cX10_leads : ByteArray := prog_1_method_14_code
def yX10_leads : MethodName := ⟨RX10, "leads", "(II)I"⟩
abbrev cX10_ofCandidate : ByteArray := prog_1_method_15_code
def yX10_ofCandidate : MethodName := ⟨RX10, "ofCandidate", "(II)I"⟩
abbrev cX10_count : ByteArray := prog_1_method_16_code
def yX10_count : MethodName := ⟨RX10, "count", "(I)I"⟩
abbrev cX10_ofState : ByteArray := prog_1_method_17_code
def yX10_ofState : MethodName := ⟨RX10, "ofState", "(I)I"⟩
abbrev cX10_proves : ByteArray := prog_1_method_18_code
def yX10_proves : MethodName := ⟨RX10, "proves", "(I)I"⟩
abbrev cX10_witness : ByteArray := prog_1_method_19_code
def yX10_witness : MethodName := ⟨RX10, "witness", "(I)I"⟩
abbrev cX10_isTrue : ByteArray := prog_1_method_20_code
def yX10_isTrue : MethodName := ⟨RX10, "isTrue", "(I)I"⟩
abbrev cX10_needless : ByteArray := prog_1_method_21_code
def yX10_needless : MethodName := ⟨RX10, "needless", "()J"⟩
abbrev cX10_core : ByteArray := prog_1_method_22_code
def yX10_core : MethodName := ⟨RX10, "core", "(I)J"⟩
abbrev cX10_put : ByteArray := prog_1_method_23_code
def yX10_put : MethodName := ⟨RX10, "put", "(J)I"⟩
abbrev cX10_wipe : ByteArray := prog_1_method_24_code
def yX10_wipe : MethodName := ⟨RX10, "wipe", "()I"⟩
abbrev cX10_fault : ByteArray := prog_1_method_25_code
def yX10_fault : MethodName := ⟨RX10, "fault", "()I"⟩
abbrev cX10_carryOut : ByteArray := prog_1_method_26_code
def yX10_carryOut : MethodName := ⟨RX10, "carryOut", "()I"⟩
abbrev cX10_undo : ByteArray := prog_1_method_27_code
def yX10_undo : MethodName := ⟨RX10, "undo", "()I"⟩
abbrev cX10_save : ByteArray := prog_1_method_28_code
def yX10_save : MethodName := ⟨RX10, "save", "(I)I"⟩
abbrev cX10_restore : ByteArray := prog_1_method_29_code
def yX10_restore : MethodName := ⟨RX10, "restore", "(I)I"⟩
abbrev cX10_carryOrderOut : ByteArray := prog_1_method_30_code
def yX10_carryOrderOut : MethodName := ⟨RX10, "carryOrderOut", "()I"⟩
abbrev cX10_isState : ByteArray := prog_1_method_31_code
def yX10_isState : MethodName := ⟨RX10, "isState", "(I)Z"⟩
abbrev cX10_asNumber : ByteArray := prog_1_method_32_code
def yX10_asNumber : MethodName := ⟨RX10, "asNumber", "(Z)I"⟩
def RX11 : String := "TruthKernelModel"
def TX11 : u_T := fun k => match k with
  | _ => ("", "", "", false)
def tyX11 : Nat → FieldType := fun k => match k with
  | _ => .int
abbrev wsX110 : List Cond := u_ws RX11 TX11 0
theorem nmX11 : ∀ a, a < 0 → ∀ b, b < 0 → a ≠ b → (TX11 a).2.1 ≠ (TX11 b).2.1 := by decide +kernel
theorem tyX11_ok : ∀ k, k < 0 → parseFieldDescriptor (TX11 k).2.2.1 = some (tyX11 k) := by decide +kernel
def RJ13 : String := "java/lang/Long"
def TJ13 : u_T := fun k => match k with
  | _ => ("", "", "", false)
def tyJ13 : Nat → FieldType := fun k => match k with
  | _ => .int
abbrev wsJ130 : List Cond := u_ws RJ13 TJ13 0
theorem nmJ13 : ∀ a, a < 0 → ∀ b, b < 0 → a ≠ b → (TJ13 a).2.1 ≠ (TJ13 b).2.1 := by decide +kernel
theorem tyJ13_ok : ∀ k, k < 0 → parseFieldDescriptor (TJ13 k).2.2.1 = some (tyJ13 k) := by decide +kernel
abbrev cJ13_bitCount_95d88 : ByteArray := prog_14_method_50_code
def yJ13_bitCount_95d88 : MethodName := ⟨RJ13, "bitCount", "(J)I"⟩
def RJ10 : String := "java/lang/System"
def TJ10 : u_T := fun k => match k with
  | _ => ("", "", "", false)
def tyJ10 : Nat → FieldType := fun k => match k with
  | _ => .int
abbrev wsJ100 : List Cond := u_ws RJ10 TJ10 0
theorem nmJ10 : ∀ a, a < 0 → ∀ b, b < 0 → a ≠ b → (TJ10 a).2.1 ≠ (TJ10 b).2.1 := by decide +kernel
theorem tyJ10_ok : ∀ k, k < 0 → parseFieldDescriptor (TJ10 k).2.2.1 = some (tyJ10 k) := by decide +kernel
def RL : String := "TruthKernelLaw"
abbrev cL_part : ByteArray := method_2_code
def yL_part : MethodName := ⟨RL, "part", "(II)I"⟩
abbrev cL_drawn : ByteArray := method_3_code
def yL_drawn : MethodName := ⟨RL, "drawn", "([II)I"⟩
abbrev cL_seen : ByteArray := method_4_code
def yL_seen : MethodName := ⟨RL, "seen", "(LTruthKernel;)J"⟩
abbrev cL_refusesAny : ByteArray := method_5_code
def yL_refusesAny : MethodName := ⟨RL, "refusesAny", "(LTruthKernel;I)Z"⟩
abbrev cL_refused : ByteArray := method_6_code
def yL_refused : MethodName := ⟨RL, "refused", "(LTruthKernel;)Z"⟩
abbrev cL_codes : ByteArray := method_7_code
def yL_codes : MethodName := ⟨RL, "codes", "()Z"⟩
abbrev cL_isCandidate : ByteArray := method_8_code
def yL_isCandidate : MethodName := ⟨RL, "isCandidate", "(LTruthKernel;IIIII)Z"⟩
abbrev cL_counts : ByteArray := method_9_code
def yL_counts : MethodName := ⟨RL, "counts", "()Z"⟩
abbrev cL_puts : ByteArray := method_10_code
def yL_puts : MethodName := ⟨RL, "puts", "(LTruthKernel;J)Z"⟩
abbrev cL_faultOf : ByteArray := method_11_code
def yL_faultOf : MethodName := ⟨RL, "faultOf", "(JJ)I"⟩
abbrev cL_texts : ByteArray := method_12_code
def yL_texts : MethodName := ⟨RL, "texts", "()Z"⟩
abbrev cL_carried : ByteArray := method_13_code
def yL_carried : MethodName := ⟨RL, "carried", "()Z"⟩
abbrev cL_law : ByteArray := code
def yL_law : MethodName := ⟨RL, "law", "([I)Z"⟩
def wsX0_init : List Cond := .code yX0_init cX0_init 1 none :: ([.methodLink RX0 3 objectInit, .instanceMethod objectInit, .code objectInit ⟨#[0xb1]⟩ 1 none, .arrayClass .int, .fieldLink RX0 9 "TruthKernel$Candidates" "code" "[I", .fieldLink RX0 15 "TruthKernel$Candidates" "fate" "[I", .fieldLink RX0 18 "TruthKernel$Candidates" "state" "[I", .fieldLink RX0 21 "TruthKernel$Candidates" "number" "[I", .fieldLink RX0 24 "TruthKernel$Candidates" "round" "[I"] ++ wsX00)
def wsX0_copyFrom : List Cond := .code yX0_copyFrom cX0_copyFrom 2 none :: ([.fieldLink RX0 27 "TruthKernel$Candidates" "count" "I", .fieldLink RX0 9 "TruthKernel$Candidates" "code" "[I", .methodLink RX0 31 arraycopyName, .native arraycopyName, .static arraycopyName, .initialized "java/lang/System", .fieldLink RX0 15 "TruthKernel$Candidates" "fate" "[I", .fieldLink RX0 18 "TruthKernel$Candidates" "state" "[I", .fieldLink RX0 21 "TruthKernel$Candidates" "number" "[I", .fieldLink RX0 24 "TruthKernel$Candidates" "round" "[I"] ++ wsX00)
def wsX0_has : List Cond := .code yX0_has cX0_has 2 (some .boolean) :: ([.fieldLink RX0 27 "TruthKernel$Candidates" "count" "I"] ++ wsX00)
def wsX0_hasCode : List Cond := .code yX0_hasCode cX0_hasCode 3 (some .boolean) :: ([.fieldLink RX0 27 "TruthKernel$Candidates" "count" "I", .fieldLink RX0 9 "TruthKernel$Candidates" "code" "[I"] ++ wsX00)
def wsX0_setFate : List Cond := .code yX0_setFate cX0_setFate 6 none :: ([.fieldLink RX0 15 "TruthKernel$Candidates" "fate" "[I", .fieldLink RX0 18 "TruthKernel$Candidates" "state" "[I", .fieldLink RX0 21 "TruthKernel$Candidates" "number" "[I", .fieldLink RX0 24 "TruthKernel$Candidates" "round" "[I"] ++ wsX00)
def wsX0_findStanding : List Cond := .code yX0_findStanding cX0_findStanding 4 (some .long) :: ([.fieldLink RX0 27 "TruthKernel$Candidates" "count" "I", .fieldLink RX0 15 "TruthKernel$Candidates" "fate" "[I"] ++ wsX00)
abbrev vwCl : List vw_C := [(RX0, TX0, 6), (RX2, TX2, 2), (RX3, TX3, 7), (RX4, TX4, 2), (RX5, TX5, 10), (RX6, TX6, 3), (RX7, TX7, 1), (RX8, TX8, 6), (RX9, TX9, 5), (RX10, TX10, 7)]
