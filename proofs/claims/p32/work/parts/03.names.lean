def RX0 : String := "MarkovBench$Code"
def TX0 : u_T := fun k => match k with
  | 0 => ("MarkovBench$Code", "operations", "[I", true)
  | 1 => ("MarkovBench$Code", "operands", "[J", true)
  | 2 => ("MarkovBench$Code", "length", "I", false)
  | 3 => ("MarkovBench$Code", "begins", "[I", true)
  | 4 => ("MarkovBench$Code", "ends", "[I", true)
  | 5 => ("MarkovBench$Code", "expressionCount", "I", false)
  | _ => ("MarkovBench$Code", "stack", "[J", true)
def tyX0 : Nat → FieldType := fun k => match k with
  | 0 => .array .int
  | 1 => .array .long
  | 2 => .int
  | 3 => .array .int
  | 4 => .array .int
  | 5 => .int
  | _ => .array .long
abbrev wsX00 : List Cond := u_ws RX0 TX0 7
theorem nmX0 : ∀ a, a < 7 → ∀ b, b < 7 → a ≠ b → (TX0 a).2.1 ≠ (TX0 b).2.1 := by decide +kernel
theorem tyX0_ok : ∀ k, k < 7 → parseFieldDescriptor (TX0 k).2.2.1 = some (tyX0 k) := by decide +kernel
abbrev cX0_init : ByteArray := prog_2_method_1_code
def yX0_init : MethodName := ⟨RX0, "<init>", "()V"⟩
abbrev cX0_clear : ByteArray := prog_2_method_2_code
def yX0_clear : MethodName := ⟨RX0, "clear", "()V"⟩
abbrev cX0_beginExpression : ByteArray := prog_2_method_3_code
def yX0_beginExpression : MethodName := ⟨RX0, "beginExpression", "()I"⟩
abbrev cX0_add : ByteArray := prog_2_method_4_code
def yX0_add : MethodName := ⟨RX0, "add", "(IJ)V"⟩
abbrev cX0_reckon : ByteArray := prog_2_method_5_code
def yX0_reckon : MethodName := ⟨RX0, "reckon", "(I[II)J"⟩
abbrev cX0_push : ByteArray := prog_2_method_6_code
def yX0_push : MethodName := ⟨RX0, "push", "(IJ)I"⟩
abbrev cX0_isUnary : ByteArray := prog_2_method_7_code
def yX0_isUnary : MethodName := ⟨RX0, "isUnary", "(I)Z"⟩
abbrev cX0_unary : ByteArray := prog_2_method_8_code
def yX0_unary : MethodName := ⟨RX0, "unary", "(IJ)J"⟩
abbrev cX0_binary : ByteArray := prog_2_method_9_code
def yX0_binary : MethodName := ⟨RX0, "binary", "(IJJ)J"⟩
abbrev cX0_isRelated : ByteArray := prog_2_method_10_code
def yX0_isRelated : MethodName := ⟨RX0, "isRelated", "(IJJ)Z"⟩
def RX1 : String := "MarkovBench$Parser"
def TX1 : u_T := fun k => match k with
  | 0 => ("MarkovBench$Parser", "tokens", "LMarkovBench$Tokens;", true)
  | 1 => ("MarkovBench$Parser", "code", "LMarkovBench$Code;", true)
  | 2 => ("MarkovBench$Parser", "program", "LMarkovBench$Program;", true)
  | 3 => ("MarkovBench$Parser", "isForMeaning", "Z", false)
  | 4 => ("MarkovBench$Parser", "at", "I", false)
  | 5 => ("MarkovBench$Parser", "limit", "I", false)
  | 6 => ("MarkovBench$Parser", "error", "I", false)
  | _ => ("MarkovBench$Parser", "errorPosition", "I", false)
def tyX1 : Nat → FieldType := fun k => match k with
  | 0 => .object "MarkovBench$Tokens"
  | 1 => .object "MarkovBench$Code"
  | 2 => .object "MarkovBench$Program"
  | 3 => .boolean
  | 4 => .int
  | 5 => .int
  | 6 => .int
  | _ => .int
abbrev wsX10 : List Cond := u_ws RX1 TX1 8
theorem nmX1 : ∀ a, a < 8 → ∀ b, b < 8 → a ≠ b → (TX1 a).2.1 ≠ (TX1 b).2.1 := by decide +kernel
theorem tyX1_ok : ∀ k, k < 8 → parseFieldDescriptor (TX1 k).2.2.1 = some (tyX1 k) := by decide +kernel
abbrev cX1_init : ByteArray := prog_3_method_1_code
def yX1_init : MethodName := ⟨RX1, "<init>", "(LMarkovBench$Tokens;LMarkovBench$Code;LMarkovBench$Program;)V"⟩
abbrev cX1_readProgram : ByteArray := prog_3_method_2_code
def yX1_readProgram : MethodName := ⟨RX1, "readProgram", "(Z)V"⟩
abbrev cX1_begin : ByteArray := prog_3_method_4_code
def yX1_begin : MethodName := ⟨RX1, "begin", "(Z)V"⟩
abbrev cX1_readVariable : ByteArray := prog_3_method_5_code
def yX1_readVariable : MethodName := ⟨RX1, "readVariable", "()V"⟩
abbrev cX1_readGain : ByteArray := prog_3_method_6_code
def yX1_readGain : MethodName := ⟨RX1, "readGain", "()V"⟩
abbrev cX1_readGoal : ByteArray := prog_3_method_7_code
def yX1_readGoal : MethodName := ⟨RX1, "readGoal", "()V"⟩
abbrev cX1_readCommand : ByteArray := prog_3_method_8_code
def yX1_readCommand : MethodName := ⟨RX1, "readCommand", "()V"⟩
abbrev cX1_readBranch : ByteArray := prog_3_method_9_code
def yX1_readBranch : MethodName := ⟨RX1, "readBranch", "()V"⟩
abbrev cX1_readWhole : ByteArray := prog_3_method_10_code
def yX1_readWhole : MethodName := ⟨RX1, "readWhole", "()I"⟩
abbrev cX1_wholeAt : ByteArray := prog_3_method_11_code
def yX1_wholeAt : MethodName := ⟨RX1, "wholeAt", "(I)I"⟩
abbrev cX1_readExpression : ByteArray := prog_3_method_12_code
def yX1_readExpression : MethodName := ⟨RX1, "readExpression", "()I"⟩
abbrev cX1_readLevel : ByteArray := prog_3_method_13_code
def yX1_readLevel : MethodName := ⟨RX1, "readLevel", "(II)V"⟩
abbrev cX1_readFactor : ByteArray := prog_3_method_14_code
def yX1_readFactor : MethodName := ⟨RX1, "readFactor", "(I)V"⟩
abbrev cX1_readBracket : ByteArray := prog_3_method_15_code
def yX1_readBracket : MethodName := ⟨RX1, "readBracket", "(II)V"⟩
abbrev cX1_levelOf : ByteArray := prog_3_method_16_code
def yX1_levelOf : MethodName := ⟨RX1, "levelOf", "(I)I"⟩
abbrev cX1_commandNamed : ByteArray := prog_3_method_17_code
def yX1_commandNamed : MethodName := ⟨RX1, "commandNamed", "(J)I"⟩
abbrev cX1_look : ByteArray := prog_3_method_18_code
def yX1_look : MethodName := ⟨RX1, "look", "()I"⟩
abbrev cX1_accept : ByteArray := prog_3_method_19_code
def yX1_accept : MethodName := ⟨RX1, "accept", "(I)Z"⟩
abbrev cX1_expect : ByteArray := prog_3_method_20_code
def yX1_expect : MethodName := ⟨RX1, "expect", "(I)I"⟩
abbrev cX1_acceptDeeper : ByteArray := prog_3_method_21_code
def yX1_acceptDeeper : MethodName := ⟨RX1, "acceptDeeper", "(II)Z"⟩
abbrev cX1_isMeaningRight : ByteArray := prog_3_method_22_code
def yX1_isMeaningRight : MethodName := ⟨RX1, "isMeaningRight", "()Z"⟩
abbrev cX1_demandNewName : ByteArray := prog_3_method_23_code
def yX1_demandNewName : MethodName := ⟨RX1, "demandNewName", "(I)V"⟩
abbrev cX1_demand : ByteArray := prog_3_method_24_code
def yX1_demand : MethodName := ⟨RX1, "demand", "(ZII)V"⟩
abbrev cX1_fail : ByteArray := prog_3_method_25_code
def yX1_fail : MethodName := ⟨RX1, "fail", "(II)V"⟩
def RX2 : String := "MarkovBench$Planner"
def TX2 : u_T := fun k => match k with
  | 0 => ("MarkovBench$Planner", "states", "LMarkovBench$States;", true)
  | 1 => ("MarkovBench$Planner", "before", "[J", true)
  | _ => ("MarkovBench$Planner", "now", "[J", true)
def tyX2 : Nat → FieldType := fun k => match k with
  | 0 => .object "MarkovBench$States"
  | 1 => .array .long
  | _ => .array .long
abbrev wsX20 : List Cond := u_ws RX2 TX2 3
theorem nmX2 : ∀ a, a < 3 → ∀ b, b < 3 → a ≠ b → (TX2 a).2.1 ≠ (TX2 b).2.1 := by decide +kernel
theorem tyX2_ok : ∀ k, k < 3 → parseFieldDescriptor (TX2 k).2.2.1 = some (tyX2 k) := by decide +kernel
abbrev cX2_init : ByteArray := prog_4_method_1_code
def yX2_init : MethodName := ⟨RX2, "<init>", "(LMarkovBench$States;)V"⟩
abbrev cX2_plan : ByteArray := prog_4_method_2_code
def yX2_plan : MethodName := ⟨RX2, "plan", "(LMarkovBench$Strategy;)V"⟩
abbrev cX2_extremeChance : ByteArray := prog_4_method_3_code
def yX2_extremeChance : MethodName := ⟨RX2, "extremeChance", "(IZ)I"⟩
abbrev cX2_choose : ByteArray := prog_4_method_4_code
def yX2_choose : MethodName := ⟨RX2, "choose", "(LMarkovBench$Strategy;II)V"⟩
abbrev cX2_weighted : ByteArray := prog_4_method_5_code
def yX2_weighted : MethodName := ⟨RX2, "weighted", "(LMarkovBench$Strategy;II)J"⟩
abbrev cX2_gainOfAll : ByteArray := prog_4_method_6_code
def yX2_gainOfAll : MethodName := ⟨RX2, "gainOfAll", "(LMarkovBench$Strategy;I)J"⟩
abbrev cX2_chanceOfAll : ByteArray := prog_4_method_7_code
def yX2_chanceOfAll : MethodName := ⟨RX2, "chanceOfAll", "(LMarkovBench$Strategy;)I"⟩
abbrev cX2_extremeIn : ByteArray := prog_4_method_8_code
def yX2_extremeIn : MethodName := ⟨RX2, "extremeIn", "(IZ)J"⟩
abbrev cX2_startChances : ByteArray := prog_4_method_9_code
def yX2_startChances : MethodName := ⟨RX2, "startChances", "()V"⟩
abbrev cX2_stepOn : ByteArray := prog_4_method_10_code
def yX2_stepOn : MethodName := ⟨RX2, "stepOn", "()V"⟩
abbrev cX2_later : ByteArray := prog_4_method_11_code
def yX2_later : MethodName := ⟨RX2, "later", "([JIII)J"⟩
def RX3 : String := "MarkovBench$Player"
def TX3 : u_T := fun k => match k with
  | 0 => ("MarkovBench$Player", "states", "LMarkovBench$States;", true)
  | 1 => ("MarkovBench$Player", "z", "J", false)
  | 2 => ("MarkovBench$Player", "steps", "I", false)
  | _ => ("MarkovBench$Player", "sums", "[J", true)
def tyX3 : Nat → FieldType := fun k => match k with
  | 0 => .object "MarkovBench$States"
  | 1 => .long
  | 2 => .int
  | _ => .array .long
abbrev wsX30 : List Cond := u_ws RX3 TX3 4
theorem nmX3 : ∀ a, a < 4 → ∀ b, b < 4 → a ≠ b → (TX3 a).2.1 ≠ (TX3 b).2.1 := by decide +kernel
theorem tyX3_ok : ∀ k, k < 4 → parseFieldDescriptor (TX3 k).2.2.1 = some (tyX3 k) := by decide +kernel
abbrev cX3_init : ByteArray := prog_5_method_1_code
def yX3_init : MethodName := ⟨RX3, "<init>", "(LMarkovBench$States;)V"⟩
abbrev cX3_clear : ByteArray := prog_5_method_2_code
def yX3_clear : MethodName := ⟨RX3, "clear", "()V"⟩
def RX4 : String := "MarkovBench$Program"
def TX4 : u_T := fun k => match k with
  | 0 => ("MarkovBench$Program", "variableCount", "I", false)
  | 1 => ("MarkovBench$Program", "variableNames", "[J", true)
  | 2 => ("MarkovBench$Program", "firstValues", "[I", true)
  | 3 => ("MarkovBench$Program", "least", "[I", true)
  | 4 => ("MarkovBench$Program", "greatest", "[I", true)
  | 5 => ("MarkovBench$Program", "gainCount", "I", false)
  | 6 => ("MarkovBench$Program", "gainNames", "[J", true)
  | 7 => ("MarkovBench$Program", "gainCommands", "[I", true)
  | 8 => ("MarkovBench$Program", "gainExpressions", "[I", true)
  | 9 => ("MarkovBench$Program", "goalExpression", "I", false)
  | 10 => ("MarkovBench$Program", "commandCount", "I", false)
  | 11 => ("MarkovBench$Program", "commandNames", "[J", true)
  | 12 => ("MarkovBench$Program", "commandStarts", "[I", true)
  | 13 => ("MarkovBench$Program", "whenExpressions", "[I", true)
  | 14 => ("MarkovBench$Program", "branchCounts", "[I", true)
  | 15 => ("MarkovBench$Program", "chances", "[I", true)
  | _ => ("MarkovBench$Program", "setExpressions", "[I", true)
def tyX4 : Nat → FieldType := fun k => match k with
  | 0 => .int
  | 1 => .array .long
  | 2 => .array .int
  | 3 => .array .int
  | 4 => .array .int
  | 5 => .int
  | 6 => .array .long
  | 7 => .array .int
  | 8 => .array .int
  | 9 => .int
  | 10 => .int
  | 11 => .array .long
  | 12 => .array .int
  | 13 => .array .int
  | 14 => .array .int
  | 15 => .array .int
  | _ => .array .int
abbrev wsX40 : List Cond := u_ws RX4 TX4 17
theorem nmX4 : ∀ a, a < 17 → ∀ b, b < 17 → a ≠ b → (TX4 a).2.1 ≠ (TX4 b).2.1 := by decide +kernel
theorem tyX4_ok : ∀ k, k < 17 → parseFieldDescriptor (TX4 k).2.2.1 = some (tyX4 k) := by decide +kernel
abbrev cX4_init : ByteArray := prog_6_method_1_code
def yX4_init : MethodName := ⟨RX4, "<init>", "()V"⟩
abbrev cX4_clear : ByteArray := prog_6_method_2_code
def yX4_clear : MethodName := ⟨RX4, "clear", "()V"⟩
abbrev cX4_addVariable : ByteArray := prog_6_method_3_code
def yX4_addVariable : MethodName := ⟨RX4, "addVariable", "(JIII)V"⟩
abbrev cX4_addGain : ByteArray := prog_6_method_4_code
def yX4_addGain : MethodName := ⟨RX4, "addGain", "(JII)V"⟩
abbrev cX4_addCommand : ByteArray := prog_6_method_5_code
def yX4_addCommand : MethodName := ⟨RX4, "addCommand", "(JII)V"⟩
abbrev cX4_addBranch : ByteArray := prog_6_method_6_code
def yX4_addBranch : MethodName := ⟨RX4, "addBranch", "(I)V"⟩
abbrev cX4_addSetting : ByteArray := prog_6_method_7_code
def yX4_addSetting : MethodName := ⟨RX4, "addSetting", "(II)V"⟩
abbrev cX4_isSetInLatest : ByteArray := prog_6_method_8_code
def yX4_isSetInLatest : MethodName := ⟨RX4, "isSetInLatest", "(I)Z"⟩
abbrev cX4_latestBranches : ByteArray := prog_6_method_9_code
def yX4_latestBranches : MethodName := ⟨RX4, "latestBranches", "()I"⟩
abbrev cX4_latestChances : ByteArray := prog_6_method_10_code
def yX4_latestChances : MethodName := ⟨RX4, "latestChances", "()I"⟩
abbrev cX4_variableNamed : ByteArray := prog_6_method_11_code
def yX4_variableNamed : MethodName := ⟨RX4, "variableNamed", "(J)I"⟩
abbrev cX4_isNameTaken : ByteArray := prog_6_method_12_code
def yX4_isNameTaken : MethodName := ⟨RX4, "isNameTaken", "(J)Z"⟩
abbrev cX4_latestSetting : ByteArray := prog_6_method_13_code
def yX4_latestSetting : MethodName := ⟨RX4, "latestSetting", "(I)I"⟩
abbrev cX4_indexOf : ByteArray := prog_6_method_14_code
def yX4_indexOf : MethodName := ⟨RX4, "indexOf", "([JIJ)I"⟩
def RX5 : String := "MarkovBench$States"
def TX5 : u_T := fun k => match k with
  | 0 => ("MarkovBench$States", "program", "LMarkovBench$Program;", true)
  | 1 => ("MarkovBench$States", "code", "LMarkovBench$Code;", true)
  | 2 => ("MarkovBench$States", "stateCount", "I", false)
  | 3 => ("MarkovBench$States", "values", "[I", true)
  | 4 => ("MarkovBench$States", "choiceCounts", "[I", true)
  | 5 => ("MarkovBench$States", "commands", "[I", true)
  | 6 => ("MarkovBench$States", "targets", "[I", true)
  | 7 => ("MarkovBench$States", "gains", "[J", true)
  | 8 => ("MarkovBench$States", "next", "[I", true)
  | 9 => ("MarkovBench$States", "error", "I", false)
  | _ => ("MarkovBench$States", "errorPosition", "I", false)
def tyX5 : Nat → FieldType := fun k => match k with
  | 0 => .object "MarkovBench$Program"
  | 1 => .object "MarkovBench$Code"
  | 2 => .int
  | 3 => .array .int
  | 4 => .array .int
  | 5 => .array .int
  | 6 => .array .int
  | 7 => .array .long
  | 8 => .array .int
  | 9 => .int
  | _ => .int
abbrev wsX50 : List Cond := u_ws RX5 TX5 11
theorem nmX5 : ∀ a, a < 11 → ∀ b, b < 11 → a ≠ b → (TX5 a).2.1 ≠ (TX5 b).2.1 := by decide +kernel
theorem tyX5_ok : ∀ k, k < 11 → parseFieldDescriptor (TX5 k).2.2.1 = some (tyX5 k) := by decide +kernel
abbrev cX5_init : ByteArray := prog_7_method_1_code
def yX5_init : MethodName := ⟨RX5, "<init>", "(LMarkovBench$Program;LMarkovBench$Code;)V"⟩
abbrev cX5_clear : ByteArray := prog_7_method_2_code
def yX5_clear : MethodName := ⟨RX5, "clear", "()V"⟩
abbrev cX5_explore : ByteArray := prog_7_method_3_code
def yX5_explore : MethodName := ⟨RX5, "explore", "()I"⟩
abbrev cX5_commandOf : ByteArray := prog_7_method_4_code
def yX5_commandOf : MethodName := ⟨RX5, "commandOf", "(II)I"⟩
abbrev cX5_branchesOf : ByteArray := prog_7_method_5_code
def yX5_branchesOf : MethodName := ⟨RX5, "branchesOf", "(II)I"⟩
abbrev cX5_chanceOf : ByteArray := prog_7_method_6_code
def yX5_chanceOf : MethodName := ⟨RX5, "chanceOf", "(III)I"⟩
abbrev cX5_targetOf : ByteArray := prog_7_method_7_code
def yX5_targetOf : MethodName := ⟨RX5, "targetOf", "(III)I"⟩
abbrev cX5_gainOf : ByteArray := prog_7_method_8_code
def yX5_gainOf : MethodName := ⟨RX5, "gainOf", "(III)J"⟩
abbrev cX5_isGoal : ByteArray := prog_7_method_9_code
def yX5_isGoal : MethodName := ⟨RX5, "isGoal", "(I)Z"⟩
abbrev cX5_visit : ByteArray := prog_7_method_11_code
def yX5_visit : MethodName := ⟨RX5, "visit", "(I)V"⟩
abbrev cX5_addChoice : ByteArray := prog_7_method_12_code
def yX5_addChoice : MethodName := ⟨RX5, "addChoice", "(II)V"⟩
abbrev cX5_reckonNext : ByteArray := prog_7_method_13_code
def yX5_reckonNext : MethodName := ⟨RX5, "reckonNext", "(II)Z"⟩
abbrev cX5_fail : ByteArray := prog_7_method_14_code
def yX5_fail : MethodName := ⟨RX5, "fail", "(II)V"⟩
abbrev cX5_addNext : ByteArray := prog_7_method_15_code
def yX5_addNext : MethodName := ⟨RX5, "addNext", "()Z"⟩
abbrev cX5_placeOfNext : ByteArray := prog_7_method_16_code
def yX5_placeOfNext : MethodName := ⟨RX5, "placeOfNext", "()I"⟩
def RX6 : String := "MarkovBench$Strategy"
def TX6 : u_T := fun k => match k with
  | 0 => ("MarkovBench$Strategy", "weights", "[I", true)
  | 1 => ("MarkovBench$Strategy", "steps", "I", false)
  | 2 => ("MarkovBench$Strategy", "taken", "[I", true)
  | 3 => ("MarkovBench$Strategy", "worths", "[J", true)
  | 4 => ("MarkovBench$Strategy", "brought", "[J", true)
  | _ => ("MarkovBench$Strategy", "goalChance", "I", false)
def tyX6 : Nat → FieldType := fun k => match k with
  | 0 => .array .int
  | 1 => .int
  | 2 => .array .int
  | 3 => .array .long
  | 4 => .array .long
  | _ => .int
abbrev wsX60 : List Cond := u_ws RX6 TX6 6
theorem nmX6 : ∀ a, a < 6 → ∀ b, b < 6 → a ≠ b → (TX6 a).2.1 ≠ (TX6 b).2.1 := by decide +kernel
theorem tyX6_ok : ∀ k, k < 6 → parseFieldDescriptor (TX6 k).2.2.1 = some (tyX6 k) := by decide +kernel
abbrev cX6_init : ByteArray := prog_8_method_1_code
def yX6_init : MethodName := ⟨RX6, "<init>", "()V"⟩
abbrev cX6_takenIn : ByteArray := prog_8_method_2_code
def yX6_takenIn : MethodName := ⟨RX6, "takenIn", "(II)I"⟩
def RX7 : String := "MarkovBench$Tokens"
def TX7 : u_T := fun k => match k with
  | 0 => ("MarkovBench$Tokens", "kinds", "[I", true)
  | 1 => ("MarkovBench$Tokens", "starts", "[I", true)
  | 2 => ("MarkovBench$Tokens", "contents", "[J", true)
  | _ => ("MarkovBench$Tokens", "size", "I", false)
def tyX7 : Nat → FieldType := fun k => match k with
  | 0 => .array .int
  | 1 => .array .int
  | 2 => .array .long
  | _ => .int
abbrev wsX70 : List Cond := u_ws RX7 TX7 4
theorem nmX7 : ∀ a, a < 4 → ∀ b, b < 4 → a ≠ b → (TX7 a).2.1 ≠ (TX7 b).2.1 := by decide +kernel
theorem tyX7_ok : ∀ k, k < 4 → parseFieldDescriptor (TX7 k).2.2.1 = some (tyX7 k) := by decide +kernel
abbrev cX7_init : ByteArray := prog_9_method_1_code
def yX7_init : MethodName := ⟨RX7, "<init>", "()V"⟩
abbrev cX7_read : ByteArray := prog_9_method_2_code
def yX7_read : MethodName := ⟨RX7, "read", "([II)V"⟩
abbrev cX7_kindOf : ByteArray := prog_9_method_3_code
def yX7_kindOf : MethodName := ⟨RX7, "kindOf", "(I)I"⟩
abbrev cX7_contentOf : ByteArray := prog_9_method_4_code
def yX7_contentOf : MethodName := ⟨RX7, "contentOf", "(I)J"⟩
abbrev cX7_readOne : ByteArray := prog_9_method_5_code
def yX7_readOne : MethodName := ⟨RX7, "readOne", "([III)I"⟩
abbrev cX7_readWord : ByteArray := prog_9_method_6_code
def yX7_readWord : MethodName := ⟨RX7, "readWord", "([III)I"⟩
abbrev cX7_readNumber : ByteArray := prog_9_method_7_code
def yX7_readNumber : MethodName := ⟨RX7, "readNumber", "([III)I"⟩
abbrev cX7_readSymbol : ByteArray := prog_9_method_8_code
def yX7_readSymbol : MethodName := ⟨RX7, "readSymbol", "([III)I"⟩
abbrev cX7_put : ByteArray := prog_9_method_9_code
def yX7_put : MethodName := ⟨RX7, "put", "(IIJ)V"⟩
abbrev cX7_kindOfPair : ByteArray := prog_9_method_10_code
def yX7_kindOfPair : MethodName := ⟨RX7, "kindOfPair", "(II)I"⟩
abbrev cX7_kindOfWord : ByteArray := prog_9_method_11_code
def yX7_kindOfWord : MethodName := ⟨RX7, "kindOfWord", "(J)I"⟩
abbrev cX7_isLetter : ByteArray := prog_9_method_12_code
def yX7_isLetter : MethodName := ⟨RX7, "isLetter", "(I)Z"⟩
abbrev cX7_isDigit : ByteArray := prog_9_method_13_code
def yX7_isDigit : MethodName := ⟨RX7, "isDigit", "(I)Z"⟩
def RX8 : String := "MarkovBench"
def TX8 : u_T := fun k => match k with
  | 0 => ("MarkovBench", "tape", "[I", true)
  | 1 => ("MarkovBench", "tapeLength", "I", false)
  | 2 => ("MarkovBench", "tokens", "LMarkovBench$Tokens;", true)
  | 3 => ("MarkovBench", "code", "LMarkovBench$Code;", true)
  | 4 => ("MarkovBench", "program", "LMarkovBench$Program;", true)
  | 5 => ("MarkovBench", "parser", "LMarkovBench$Parser;", true)
  | 6 => ("MarkovBench", "states", "LMarkovBench$States;", true)
  | 7 => ("MarkovBench", "planner", "LMarkovBench$Planner;", true)
  | 8 => ("MarkovBench", "player", "LMarkovBench$Player;", true)
  | 9 => ("MarkovBench", "weights", "[I", true)
  | 10 => ("MarkovBench", "strategies", "[LMarkovBench$Strategy;", true)
  | 11 => ("MarkovBench", "strategyCount", "I", false)
  | 12 => ("MarkovBench", "errorPosition", "I", false)
  | _ => ("MarkovBench", "reckoned", "J", false)
def tyX8 : Nat → FieldType := fun k => match k with
  | 0 => .array .int
  | 1 => .int
  | 2 => .object "MarkovBench$Tokens"
  | 3 => .object "MarkovBench$Code"
  | 4 => .object "MarkovBench$Program"
  | 5 => .object "MarkovBench$Parser"
  | 6 => .object "MarkovBench$States"
  | 7 => .object "MarkovBench$Planner"
  | 8 => .object "MarkovBench$Player"
  | 9 => .array .int
  | 10 => .array (.object "MarkovBench$Strategy")
  | 11 => .int
  | 12 => .int
  | _ => .long
abbrev wsX80 : List Cond := u_ws RX8 TX8 14
theorem nmX8 : ∀ a, a < 14 → ∀ b, b < 14 → a ≠ b → (TX8 a).2.1 ≠ (TX8 b).2.1 := by decide +kernel
theorem tyX8_ok : ∀ k, k < 14 → parseFieldDescriptor (TX8 k).2.2.1 = some (tyX8 k) := by decide +kernel
abbrev cX8_init : ByteArray := prog_1_method_1_code
def yX8_init : MethodName := ⟨RX8, "<init>", "()V"⟩
abbrev cX8_feed : ByteArray := prog_1_method_2_code
def yX8_feed : MethodName := ⟨RX8, "feed", "(IIIII)I"⟩
abbrev cX8_trim : ByteArray := prog_1_method_3_code
def yX8_trim : MethodName := ⟨RX8, "trim", "(I)I"⟩
abbrev cX8_compile : ByteArray := prog_1_method_4_code
def yX8_compile : MethodName := ⟨RX8, "compile", "()I"⟩
abbrev cX8_count : ByteArray := prog_1_method_6_code
def yX8_count : MethodName := ⟨RX8, "count", "(I)I"⟩
abbrev cX8_choices : ByteArray := prog_1_method_10_code
def yX8_choices : MethodName := ⟨RX8, "choices", "(I)I"⟩
abbrev cX8_choice : ByteArray := prog_1_method_11_code
def yX8_choice : MethodName := ⟨RX8, "choice", "(III)I"⟩
abbrev cX8_gain : ByteArray := prog_1_method_12_code
def yX8_gain : MethodName := ⟨RX8, "gain", "(III)J"⟩
abbrev cX8_branch : ByteArray := prog_1_method_13_code
def yX8_branch : MethodName := ⟨RX8, "branch", "(IIIZ)I"⟩
abbrev cX8_weigh : ByteArray := prog_1_method_14_code
def yX8_weigh : MethodName := ⟨RX8, "weigh", "(II)I"⟩
abbrev cX8_solve : ByteArray := prog_1_method_15_code
def yX8_solve : MethodName := ⟨RX8, "solve", "(I)I"⟩
abbrev cX8_takes : ByteArray := prog_1_method_16_code
def yX8_takes : MethodName := ⟨RX8, "takes", "(III)I"⟩
abbrev cX8_worth : ByteArray := prog_1_method_17_code
def yX8_worth : MethodName := ⟨RX8, "worth", "(III)J"⟩
abbrev cX8_brings : ByteArray := prog_1_method_18_code
def yX8_brings : MethodName := ⟨RX8, "brings", "(II)J"⟩
abbrev cX8_chance : ByteArray := prog_1_method_19_code
def yX8_chance : MethodName := ⟨RX8, "chance", "(I)I"⟩
abbrev cX8_isWorthHaving : ByteArray := prog_1_method_20_code
def yX8_isWorthHaving : MethodName := ⟨RX8, "isWorthHaving", "(I)Z"⟩
abbrev cX8_reach : ByteArray := prog_1_method_25_code
def yX8_reach : MethodName := ⟨RX8, "reach", "(IZ)I"⟩
abbrev cX8_append : ByteArray := prog_1_method_32_code
def yX8_append : MethodName := ⟨RX8, "append", "(I)V"⟩
abbrev cX8_forgetProgram : ByteArray := prog_1_method_33_code
def yX8_forgetProgram : MethodName := ⟨RX8, "forgetProgram", "()V"⟩
abbrev cX8_isBetter : ByteArray := prog_1_method_34_code
def yX8_isBetter : MethodName := ⟨RX8, "isBetter", "(LMarkovBench$Strategy;LMarkovBench$Strategy;)Z"⟩
abbrev cX8_checkState : ByteArray := prog_1_method_37_code
def yX8_checkState : MethodName := ⟨RX8, "checkState", "(I)V"⟩
abbrev cX8_checkChoice : ByteArray := prog_1_method_38_code
def yX8_checkChoice : MethodName := ⟨RX8, "checkChoice", "(II)V"⟩
abbrev cX8_checkGain : ByteArray := prog_1_method_39_code
def yX8_checkGain : MethodName := ⟨RX8, "checkGain", "(I)V"⟩
abbrev cX8_checkStrategy : ByteArray := prog_1_method_40_code
def yX8_checkStrategy : MethodName := ⟨RX8, "checkStrategy", "(I)V"⟩
abbrev cX8_checkIndex : ByteArray := prog_1_method_41_code
def yX8_checkIndex : MethodName := ⟨RX8, "checkIndex", "(II)V"⟩
abbrev cX8_checkRange : ByteArray := prog_1_method_42_code
def yX8_checkRange : MethodName := ⟨RX8, "checkRange", "(III)V"⟩
abbrev cX8_checkProgram : ByteArray := prog_1_method_44_code
def yX8_checkProgram : MethodName := ⟨RX8, "checkProgram", "()V"⟩
abbrev cX8_checkRoom : ByteArray := prog_1_method_45_code
def yX8_checkRoom : MethodName := ⟨RX8, "checkRoom", "(I)V"⟩
abbrev cX8_entry : ByteArray := prog_1_method_46_code
def yX8_entry : MethodName := ⟨RX8, "entry", "([II)I"⟩
abbrev cX8_entry_ : ByteArray := prog_1_method_47_code
def yX8_entry_ : MethodName := ⟨RX8, "entry", "([JI)J"⟩
def RX9 : String := "MarkovBenchLaw$Walk"
def TX9 : u_T := fun k => match k with
  | 0 => ("MarkovBenchLaw$Walk", "n", "I", true)
  | 1 => ("MarkovBenchLaw$Walk", "first", "I", true)
  | 2 => ("MarkovBenchLaw$Walk", "p", "I", true)
  | 3 => ("MarkovBenchLaw$Walk", "q", "I", true)
  | 4 => ("MarkovBenchLaw$Walk", "back", "I", true)
  | 5 => ("MarkovBenchLaw$Walk", "a", "I", true)
  | 6 => ("MarkovBenchLaw$Walk", "b", "I", true)
  | 7 => ("MarkovBenchLaw$Walk", "goal", "I", true)
  | 8 => ("MarkovBenchLaw$Walk", "jump", "I", true)
  | 9 => ("MarkovBenchLaw$Walk", "states", "[[I", true)
  | _ => ("MarkovBenchLaw$Walk", "many", "I", false)
def tyX9 : Nat → FieldType := fun k => match k with
  | 0 => .int
  | 1 => .int
  | 2 => .int
  | 3 => .int
  | 4 => .int
  | 5 => .int
  | 6 => .int
  | 7 => .int
  | 8 => .int
  | 9 => .array (.array .int)
  | _ => .int
abbrev wsX90 : List Cond := u_ws RX9 TX9 11
theorem nmX9 : ∀ a, a < 11 → ∀ b, b < 11 → a ≠ b → (TX9 a).2.1 ≠ (TX9 b).2.1 := by decide +kernel
theorem tyX9_ok : ∀ k, k < 11 → parseFieldDescriptor (TX9 k).2.2.1 = some (tyX9 k) := by decide +kernel
abbrev cX9_init : ByteArray := prog_11_method_1_code
def yX9_init : MethodName := ⟨RX9, "<init>", "([II)V"⟩
abbrev cX9_text : ByteArray := prog_11_method_2_code
def yX9_text : MethodName := ⟨RX9, "text", "()Ljava/lang/String;"⟩
abbrev cX9_isGoal : ByteArray := prog_11_method_3_code
def yX9_isGoal : MethodName := ⟨RX9, "isGoal", "(I)Z"⟩
abbrev cX9_isEnabled : ByteArray := prog_11_method_4_code
def yX9_isEnabled : MethodName := ⟨RX9, "isEnabled", "(II)Z"⟩
abbrev cX9_branches : ByteArray := prog_11_method_5_code
def yX9_branches : MethodName := ⟨RX9, "branches", "(I)I"⟩
abbrev cX9_target : ByteArray := prog_11_method_7_code
def yX9_target : MethodName := ⟨RX9, "target", "(III)[I"⟩
abbrev cX9_find : ByteArray := prog_11_method_9_code
def yX9_find : MethodName := ⟨RX9, "find", "([I)I"⟩
abbrev cX9_explore : ByteArray := prog_11_method_10_code
def yX9_explore : MethodName := ⟨RX9, "explore", "()V"⟩
def RX10 : String := "MarkovBenchModel$Wrong"
def TX10 : u_T := fun k => match k with
  | _ => ("", "", "", false)
def tyX10 : Nat → FieldType := fun k => match k with
  | _ => .int
abbrev wsX100 : List Cond := u_ws RX10 TX10 0
theorem nmX10 : ∀ a, a < 0 → ∀ b, b < 0 → a ≠ b → (TX10 a).2.1 ≠ (TX10 b).2.1 := by decide +kernel
theorem tyX10_ok : ∀ k, k < 0 → parseFieldDescriptor (TX10 k).2.2.1 = some (tyX10 k) := by decide +kernel
def RX11 : String := "MarkovBenchModel"
def TX11 : u_T := fun k => match k with
  | _ => ("", "", "", false)
def tyX11 : Nat → FieldType := fun k => match k with
  | _ => .int
abbrev wsX110 : List Cond := u_ws RX11 TX11 0
theorem nmX11 : ∀ a, a < 0 → ∀ b, b < 0 → a ≠ b → (TX11 a).2.1 ≠ (TX11 b).2.1 := by decide +kernel
theorem tyX11_ok : ∀ k, k < 0 → parseFieldDescriptor (TX11 k).2.2.1 = some (tyX11 k) := by decide +kernel
def RJx145de : String := "java/io/Serializable"
def TJx145de : u_T := fun k => match k with
  | _ => ("", "", "", false)
def tyJx145de : Nat → FieldType := fun k => match k with
  | _ => .int
abbrev wsJx145de0 : List Cond := u_ws RJx145de TJx145de 0
theorem nmJx145de : ∀ a, a < 0 → ∀ b, b < 0 → a ≠ b → (TJx145de a).2.1 ≠ (TJx145de b).2.1 := by decide +kernel
theorem tyJx145de_ok : ∀ k, k < 0 → parseFieldDescriptor (TJx145de k).2.2.1 = some (tyJx145de k) := by decide +kernel
def RJ5 : String := "java/lang/AbstractStringBuilder"
def TJ5 : u_T := fun k => match k with
  | _ => ("", "", "", false)
def tyJ5 : Nat → FieldType := fun k => match k with
  | _ => .int
abbrev wsJ50 : List Cond := u_ws RJ5 TJ5 0
theorem nmJ5 : ∀ a, a < 0 → ∀ b, b < 0 → a ≠ b → (TJ5 a).2.1 ≠ (TJ5 b).2.1 := by decide +kernel
theorem tyJ5_ok : ∀ k, k < 0 → parseFieldDescriptor (TJ5 k).2.2.1 = some (tyJ5 k) := by decide +kernel
abbrev cJ5_init_d00df : ByteArray := prog_14_method_2_code
def yJ5_init_d00df : MethodName := ⟨RJ5, "<init>", "(I)V"⟩
abbrev cJ5_length_8abf5 : ByteArray := prog_14_method_6_code
def yJ5_length_8abf5 : MethodName := ⟨RJ5, "length", "()I"⟩
abbrev cJ5_ensureCapacityInternal_d00df : ByteArray := prog_14_method_9_code
def yJ5_ensureCapacityInternal_d00df : MethodName := ⟨RJ5, "ensureCapacityInternal", "(I)V"⟩
abbrev cJ5_newCapacity_0f7a4 : ByteArray := prog_14_method_10_code
def yJ5_newCapacity_0f7a4 : MethodName := ⟨RJ5, "newCapacity", "(I)I"⟩
abbrev cJ5_inflate_da8c8 : ByteArray := prog_14_method_11_code
def yJ5_inflate_da8c8 : MethodName := ⟨RJ5, "inflate", "()V"⟩
abbrev cJ5_append_cf1ce : ByteArray := prog_14_method_22_code
def yJ5_append_cf1ce : MethodName := ⟨RJ5, "append", "(Ljava/lang/String;)Ljava/lang/AbstractStringBuilder;"⟩
abbrev cJ5_appendNull_278bc : ByteArray := prog_14_method_26_code
def yJ5_appendNull_278bc : MethodName := ⟨RJ5, "appendNull", "()Ljava/lang/AbstractStringBuilder;"⟩
abbrev cJ5_append_c97b9 : ByteArray := prog_14_method_32_code
def yJ5_append_c97b9 : MethodName := ⟨RJ5, "append", "(I)Ljava/lang/AbstractStringBuilder;"⟩
abbrev cJ5_getValue_6d5f1 : ByteArray := prog_14_method_64_code
def yJ5_getValue_6d5f1 : MethodName := ⟨RJ5, "getValue", "()[B"⟩
abbrev cJ5_isLatin1_aae02 : ByteArray := prog_14_method_68_code
def yJ5_isLatin1_aae02 : MethodName := ⟨RJ5, "isLatin1", "()Z"⟩
abbrev cJ5_inflateIfNeededFor_a7421 : ByteArray := prog_14_method_71_code
def yJ5_inflateIfNeededFor_a7421 : MethodName := ⟨RJ5, "inflateIfNeededFor", "(Ljava/lang/String;)V"⟩
abbrev cJ5_putStringAt_47b60 : ByteArray := prog_14_method_73_code
def yJ5_putStringAt_47b60 : MethodName := ⟨RJ5, "putStringAt", "(ILjava/lang/String;)V"⟩
def RJx2cfe8 : String := "java/lang/Appendable"
def TJx2cfe8 : u_T := fun k => match k with
  | _ => ("", "", "", false)
def tyJx2cfe8 : Nat → FieldType := fun k => match k with
  | _ => .int
abbrev wsJx2cfe80 : List Cond := u_ws RJx2cfe8 TJx2cfe8 0
theorem nmJx2cfe8 : ∀ a, a < 0 → ∀ b, b < 0 → a ≠ b → (TJx2cfe8 a).2.1 ≠ (TJx2cfe8 b).2.1 := by decide +kernel
theorem tyJx2cfe8_ok : ∀ k, k < 0 → parseFieldDescriptor (TJx2cfe8 k).2.2.1 = some (tyJx2cfe8 k) := by decide +kernel
def RJx9f9b0 : String := "java/lang/CharSequence"
def TJx9f9b0 : u_T := fun k => match k with
  | _ => ("", "", "", false)
def tyJx9f9b0 : Nat → FieldType := fun k => match k with
  | _ => .int
abbrev wsJx9f9b00 : List Cond := u_ws RJx9f9b0 TJx9f9b0 0
theorem nmJx9f9b0 : ∀ a, a < 0 → ∀ b, b < 0 → a ≠ b → (TJx9f9b0 a).2.1 ≠ (TJx9f9b0 b).2.1 := by decide +kernel
theorem tyJx9f9b0_ok : ∀ k, k < 0 → parseFieldDescriptor (TJx9f9b0 k).2.2.1 = some (tyJx9f9b0 k) := by decide +kernel
def RJ11 : String := "java/lang/Character"
def TJ11 : u_T := fun k => match k with
  | _ => ("", "", "", false)
def tyJ11 : Nat → FieldType := fun k => match k with
  | _ => .int
abbrev wsJ110 : List Cond := u_ws RJ11 TJ11 0
theorem nmJ11 : ∀ a, a < 0 → ∀ b, b < 0 → a ≠ b → (TJ11 a).2.1 ≠ (TJ11 b).2.1 := by decide +kernel
theorem tyJ11_ok : ∀ k, k < 0 → parseFieldDescriptor (TJ11 k).2.2.1 = some (tyJ11 k) := by decide +kernel
abbrev cJ11_isValidCodePoint_9a6ad : ByteArray := prog_15_method_11_code
def yJ11_isValidCodePoint_9a6ad : MethodName := ⟨RJ11, "isValidCodePoint", "(I)Z"⟩
abbrev cJ11_highSurrogate_5068e : ByteArray := prog_15_method_28_code
def yJ11_highSurrogate_5068e : MethodName := ⟨RJ11, "highSurrogate", "(I)C"⟩
abbrev cJ11_lowSurrogate_5068e : ByteArray := prog_15_method_29_code
def yJ11_lowSurrogate_5068e : MethodName := ⟨RJ11, "lowSurrogate", "(I)C"⟩
def RJx8e188 : String := "java/lang/Cloneable"
def TJx8e188 : u_T := fun k => match k with
  | _ => ("", "", "", false)
def tyJx8e188 : Nat → FieldType := fun k => match k with
  | _ => .int
abbrev wsJx8e1880 : List Cond := u_ws RJx8e188 TJx8e188 0
theorem nmJx8e188 : ∀ a, a < 0 → ∀ b, b < 0 → a ≠ b → (TJx8e188 a).2.1 ≠ (TJx8e188 b).2.1 := by decide +kernel
theorem tyJx8e188_ok : ∀ k, k < 0 → parseFieldDescriptor (TJx8e188 k).2.2.1 = some (tyJx8e188 k) := by decide +kernel
def RJxb160c : String := "java/lang/Comparable"
def TJxb160c : u_T := fun k => match k with
  | _ => ("", "", "", false)
def tyJxb160c : Nat → FieldType := fun k => match k with
  | _ => .int
abbrev wsJxb160c0 : List Cond := u_ws RJxb160c TJxb160c 0
theorem nmJxb160c : ∀ a, a < 0 → ∀ b, b < 0 → a ≠ b → (TJxb160c a).2.1 ≠ (TJxb160c b).2.1 := by decide +kernel
theorem tyJxb160c_ok : ∀ k, k < 0 → parseFieldDescriptor (TJxb160c k).2.2.1 = some (tyJxb160c k) := by decide +kernel
def RJ6 : String := "java/lang/Integer"
def TJ6 : u_T := fun k => match k with
  | _ => ("", "", "", false)
def tyJ6 : Nat → FieldType := fun k => match k with
  | _ => .int
abbrev wsJ60 : List Cond := u_ws RJ6 TJ6 0
theorem nmJ6 : ∀ a, a < 0 → ∀ b, b < 0 → a ≠ b → (TJ6 a).2.1 ≠ (TJ6 b).2.1 := by decide +kernel
theorem tyJ6_ok : ∀ k, k < 0 → parseFieldDescriptor (TJ6 k).2.2.1 = some (tyJ6 k) := by decide +kernel
abbrev cJ6_getChars_ba4f3 : ByteArray := prog_21_method_12_code
def yJ6_getChars_ba4f3 : MethodName := ⟨RJ6, "getChars", "(II[B)I"⟩
abbrev cJ6_stringSize_0f7a4 : ByteArray := prog_21_method_13_code
def yJ6_stringSize_0f7a4 : MethodName := ⟨RJ6, "stringSize", "(I)I"⟩
def RJ9 : String := "java/lang/Math"
def TJ9 : u_T := fun k => match k with
  | _ => ("", "", "", false)
def tyJ9 : Nat → FieldType := fun k => match k with
  | _ => .int
abbrev wsJ90 : List Cond := u_ws RJ9 TJ9 0
theorem nmJ9 : ∀ a, a < 0 → ∀ b, b < 0 → a ≠ b → (TJ9 a).2.1 ≠ (TJ9 b).2.1 := by decide +kernel
theorem tyJ9_ok : ∀ k, k < 0 → parseFieldDescriptor (TJ9 k).2.2.1 = some (tyJ9 k) := by decide +kernel
abbrev cJ9_abs_067f4 : ByteArray := prog_22_method_61_code
def yJ9_abs_067f4 : MethodName := ⟨RJ9, "abs", "(J)J"⟩
abbrev cJ9_max_7cf53 : ByteArray := prog_22_method_65_code
def yJ9_max_7cf53 : MethodName := ⟨RJ9, "max", "(II)I"⟩
abbrev cJ9_max_f86c9 : ByteArray := prog_22_method_66_code
def yJ9_max_f86c9 : MethodName := ⟨RJ9, "max", "(JJ)J"⟩
abbrev cJ9_min_7cf53 : ByteArray := prog_22_method_69_code
def yJ9_min_7cf53 : MethodName := ⟨RJ9, "min", "(II)I"⟩
abbrev cJ9_min_f86c9 : ByteArray := prog_22_method_70_code
def yJ9_min_f86c9 : MethodName := ⟨RJ9, "min", "(JJ)J"⟩
def RJxd2413 : String := "java/lang/Number"
def TJxd2413 : u_T := fun k => match k with
  | _ => ("", "", "", false)
def tyJxd2413 : Nat → FieldType := fun k => match k with
  | _ => .int
abbrev wsJxd24130 : List Cond := u_ws RJxd2413 TJxd2413 0
theorem nmJxd2413 : ∀ a, a < 0 → ∀ b, b < 0 → a ≠ b → (TJxd2413 a).2.1 ≠ (TJxd2413 b).2.1 := by decide +kernel
theorem tyJxd2413_ok : ∀ k, k < 0 → parseFieldDescriptor (TJxd2413 k).2.2.1 = some (tyJxd2413 k) := by decide +kernel
def RJ0 : String := "java/lang/String"
def TJ0 : u_T := fun k => match k with
  | 0 => ("java/lang/String", "value", "[B", true)
  | 1 => ("java/lang/String", "coder", "B", true)
  | 2 => ("java/lang/String", "hash", "I", false)
  | _ => ("java/lang/String", "hashIsZero", "Z", false)
def tyJ0 : Nat → FieldType := fun k => match k with
  | 0 => .array .byte
  | 1 => .byte
  | 2 => .int
  | _ => .boolean
abbrev wsJ00 : List Cond := u_ws RJ0 TJ0 4
theorem nmJ0 : ∀ a, a < 4 → ∀ b, b < 4 → a ≠ b → (TJ0 a).2.1 ≠ (TJ0 b).2.1 := by decide +kernel
theorem tyJ0_ok : ∀ k, k < 4 → parseFieldDescriptor (TJ0 k).2.2.1 = some (tyJ0 k) := by decide +kernel
abbrev cJ0_init_81219 : ByteArray := prog_25_method_53_code
def yJ0_init_81219 : MethodName := ⟨RJ0, "<init>", "(Ljava/lang/StringBuilder;)V"⟩
abbrev cJ0_length_8abf5 : ByteArray := prog_25_method_54_code
def yJ0_length_8abf5 : MethodName := ⟨RJ0, "length", "()I"⟩
abbrev cJ0_charAt_5068e : ByteArray := prog_25_method_56_code
def yJ0_charAt_5068e : MethodName := ⟨RJ0, "charAt", "(I)C"⟩
abbrev cJ0_indexOf_0f7a4 : ByteArray := prog_25_method_79_code
def yJ0_indexOf_0f7a4 : MethodName := ⟨RJ0, "indexOf", "(I)I"⟩
abbrev cJ0_indexOf_7cf53 : ByteArray := prog_25_method_80_code
def yJ0_indexOf_7cf53 : MethodName := ⟨RJ0, "indexOf", "(II)I"⟩
abbrev cJ0_getBytes_840e7 : ByteArray := prog_25_method_147_code
def yJ0_getBytes_840e7 : MethodName := ⟨RJ0, "getBytes", "([BIB)V"⟩
abbrev cJ0_init_db425 : ByteArray := prog_25_method_150_code
def yJ0_init_db425 : MethodName := ⟨RJ0, "<init>", "(Ljava/lang/AbstractStringBuilder;Ljava/lang/Void;)V"⟩
abbrev cJ0_coder_7d493 : ByteArray := prog_25_method_152_code
def yJ0_coder_7d493 : MethodName := ⟨RJ0, "coder", "()B"⟩
abbrev cJ0_isLatin1_aae02 : ByteArray := prog_25_method_154_code
def yJ0_isLatin1_aae02 : MethodName := ⟨RJ0, "isLatin1", "()Z"⟩
abbrev cJ0_checkIndex_df160 : ByteArray := prog_25_method_155_code
def yJ0_checkIndex_df160 : MethodName := ⟨RJ0, "checkIndex", "(II)V"⟩
abbrev cJ0_checkBoundsOffCount_cabcc : ByteArray := prog_25_method_157_code
def yJ0_checkBoundsOffCount_cabcc : MethodName := ⟨RJ0, "checkBoundsOffCount", "(III)I"⟩
abbrev cJ0_checkBoundsBeginEnd_23922 : ByteArray := prog_25_method_158_code
def yJ0_checkBoundsBeginEnd_23922 : MethodName := ⟨RJ0, "checkBoundsBeginEnd", "(III)V"⟩
def RJ4 : String := "java/lang/StringBuilder"
def TJ4 : u_T := fun k => match k with
  | 0 => ("java/lang/AbstractStringBuilder", "value", "[B", false)
  | 1 => ("java/lang/AbstractStringBuilder", "coder", "B", false)
  | 2 => ("java/lang/AbstractStringBuilder", "maybeLatin1", "Z", false)
  | _ => ("java/lang/AbstractStringBuilder", "count", "I", false)
def tyJ4 : Nat → FieldType := fun k => match k with
  | 0 => .array .byte
  | 1 => .byte
  | 2 => .boolean
  | _ => .int
abbrev wsJ40 : List Cond := u_ws RJ4 TJ4 4
theorem nmJ4 : ∀ a, a < 4 → ∀ b, b < 4 → a ≠ b → (TJ4 a).2.1 ≠ (TJ4 b).2.1 := by decide +kernel
theorem tyJ4_ok : ∀ k, k < 4 → parseFieldDescriptor (TJ4 k).2.2.1 = some (tyJ4 k) := by decide +kernel
abbrev cJ4_init_da8c8 : ByteArray := prog_26_method_1_code
def yJ4_init_da8c8 : MethodName := ⟨RJ4, "<init>", "()V"⟩
abbrev cJ4_append_15ec4 : ByteArray := prog_26_method_7_code
def yJ4_append_15ec4 : MethodName := ⟨RJ4, "append", "(Ljava/lang/String;)Ljava/lang/StringBuilder;"⟩
abbrev cJ4_append_bf812 : ByteArray := prog_26_method_15_code
def yJ4_append_bf812 : MethodName := ⟨RJ4, "append", "(I)Ljava/lang/StringBuilder;"⟩
abbrev cJ4_toString_0e30d : ByteArray := prog_26_method_42_code
def yJ4_toString_0e30d : MethodName := ⟨RJ4, "toString", "()Ljava/lang/String;"⟩
abbrev cJ4_length_8abf5 : ByteArray := prog_26_method_93_code
def yJ4_length_8abf5 : MethodName := ⟨RJ4, "length", "()I"⟩
def RJ1 : String := "java/lang/StringLatin1"
def TJ1 : u_T := fun k => match k with
  | _ => ("", "", "", false)
def tyJ1 : Nat → FieldType := fun k => match k with
  | _ => .int
abbrev wsJ10 : List Cond := u_ws RJ1 TJ1 0
theorem nmJ1 : ∀ a, a < 0 → ∀ b, b < 0 → a ≠ b → (TJ1 a).2.1 ≠ (TJ1 b).2.1 := by decide +kernel
theorem tyJ1_ok : ∀ k, k < 0 → parseFieldDescriptor (TJ1 k).2.2.1 = some (tyJ1 k) := by decide +kernel
abbrev cJ1_charAt_3b067 : ByteArray := prog_27_method_2_code
def yJ1_charAt_3b067 : MethodName := ⟨RJ1, "charAt", "([BI)C"⟩
abbrev cJ1_canEncode_9a6ad : ByteArray := prog_27_method_4_code
def yJ1_canEncode_9a6ad : MethodName := ⟨RJ1, "canEncode", "(I)Z"⟩
abbrev cJ1_indexOf_4cfef : ByteArray := prog_27_method_22_code
def yJ1_indexOf_4cfef : MethodName := ⟨RJ1, "indexOf", "([BIII)I"⟩
abbrev cJ1_indexOfChar_4cfef : ByteArray := prog_27_method_23_code
def yJ1_indexOfChar_4cfef : MethodName := ⟨RJ1, "indexOfChar", "([BIII)I"⟩
abbrev cJ1_inflate_0e8fd : ByteArray := prog_27_method_50_code
def yJ1_inflate_0e8fd : MethodName := ⟨RJ1, "inflate", "([BI[BII)V"⟩
def RJ2 : String := "java/lang/StringUTF16"
def TJ2 : u_T := fun k => match k with
  | _ => ("", "", "", false)
def tyJ2 : Nat → FieldType := fun k => match k with
  | _ => .int
abbrev wsJ20 : List Cond := u_ws RJ2 TJ2 0
theorem nmJ2 : ∀ a, a < 0 → ∀ b, b < 0 → a ≠ b → (TJ2 a).2.1 ≠ (TJ2 b).2.1 := by decide +kernel
theorem tyJ2_ok : ∀ k, k < 0 → parseFieldDescriptor (TJ2 k).2.2.1 = some (tyJ2 k) := by decide +kernel
abbrev cJ2_newBytesFor_77867 : ByteArray := prog_28_method_2_code
def yJ2_newBytesFor_77867 : MethodName := ⟨RJ2, "newBytesFor", "(I)[B"⟩
abbrev cJ2_newBytesLength_0f7a4 : ByteArray := prog_28_method_3_code
def yJ2_newBytesLength_0f7a4 : MethodName := ⟨RJ2, "newBytesLength", "(I)I"⟩
abbrev cJ2_putChar_b72d1 : ByteArray := prog_28_method_4_code
def yJ2_putChar_b72d1 : MethodName := ⟨RJ2, "putChar", "([BII)V"⟩
abbrev cJ2_getChar_3b067 : ByteArray := prog_28_method_5_code
def yJ2_getChar_3b067 : MethodName := ⟨RJ2, "getChar", "([BI)C"⟩
abbrev cJ2_length_9d52b : ByteArray := prog_28_method_6_code
def yJ2_length_9d52b : MethodName := ⟨RJ2, "length", "([B)I"⟩
abbrev cJ2_coderFromArrayLen_85cad : ByteArray := prog_28_method_15_code
def yJ2_coderFromArrayLen_85cad : MethodName := ⟨RJ2, "coderFromArrayLen", "([BI)B"⟩
abbrev cJ2_compress_39247 : ByteArray := prog_28_method_17_code
def yJ2_compress_39247 : MethodName := ⟨RJ2, "compress", "([BII)[B"⟩
abbrev cJ2_compress_5af95 : ByteArray := prog_28_method_22_code
def yJ2_compress_5af95 : MethodName := ⟨RJ2, "compress", "([BI[BII)I"⟩
abbrev cJ2_indexOf_4cfef : ByteArray := prog_28_method_40_code
def yJ2_indexOf_4cfef : MethodName := ⟨RJ2, "indexOf", "([BIII)I"⟩
abbrev cJ2_indexOfChar_4cfef : ByteArray := prog_28_method_47_code
def yJ2_indexOfChar_4cfef : MethodName := ⟨RJ2, "indexOfChar", "([BIII)I"⟩
abbrev cJ2_indexOfCharUnsafe_4cfef : ByteArray := prog_28_method_48_code
def yJ2_indexOfCharUnsafe_4cfef : MethodName := ⟨RJ2, "indexOfCharUnsafe", "([BIII)I"⟩
abbrev cJ2_indexOfSupplementary_4cfef : ByteArray := prog_28_method_49_code
def yJ2_indexOfSupplementary_4cfef : MethodName := ⟨RJ2, "indexOfSupplementary", "([BIII)I"⟩
abbrev cJ2_getChars_46870 : ByteArray := prog_28_method_77_code
def yJ2_getChars_46870 : MethodName := ⟨RJ2, "getChars", "(III[B)I"⟩
abbrev cJ2_putCharsAt_cd4e5 : ByteArray := prog_28_method_81_code
def yJ2_putCharsAt_cd4e5 : MethodName := ⟨RJ2, "putCharsAt", "([BICCCC)I"⟩
abbrev cJ2_charAt_3b067 : ByteArray := prog_28_method_83_code
def yJ2_charAt_3b067 : MethodName := ⟨RJ2, "charAt", "([BI)C"⟩
abbrev cJ2_inflate_0e8fd : ByteArray := prog_28_method_86_code
def yJ2_inflate_0e8fd : MethodName := ⟨RJ2, "inflate", "([BI[BII)V"⟩
abbrev cJ2_getChars_ba4f3 : ByteArray := prog_28_method_89_code
def yJ2_getChars_ba4f3 : MethodName := ⟨RJ2, "getChars", "(II[B)I"⟩
abbrev cJ2_checkIndex_2214a : ByteArray := prog_28_method_91_code
def yJ2_checkIndex_2214a : MethodName := ⟨RJ2, "checkIndex", "(I[B)V"⟩
abbrev cJ2_checkBoundsBeginEnd_d044e : ByteArray := prog_28_method_93_code
def yJ2_checkBoundsBeginEnd_d044e : MethodName := ⟨RJ2, "checkBoundsBeginEnd", "(II[B)V"⟩
abbrev cJ2_checkBoundsOffCount_d044e : ByteArray := prog_28_method_94_code
def yJ2_checkBoundsOffCount_d044e : MethodName := ⟨RJ2, "checkBoundsOffCount", "(II[B)V"⟩
def RJ10 : String := "java/lang/System"
def TJ10 : u_T := fun k => match k with
  | _ => ("", "", "", false)
def tyJ10 : Nat → FieldType := fun k => match k with
  | _ => .int
abbrev wsJ100 : List Cond := u_ws RJ10 TJ10 0
theorem nmJ10 : ∀ a, a < 0 → ∀ b, b < 0 → a ≠ b → (TJ10 a).2.1 ≠ (TJ10 b).2.1 := by decide +kernel
theorem tyJ10_ok : ∀ k, k < 0 → parseFieldDescriptor (TJ10 k).2.2.1 = some (tyJ10 k) := by decide +kernel
def RJxfd54e : String := "java/lang/constant/Constable"
def TJxfd54e : u_T := fun k => match k with
  | _ => ("", "", "", false)
def tyJxfd54e : Nat → FieldType := fun k => match k with
  | _ => .int
abbrev wsJxfd54e0 : List Cond := u_ws RJxfd54e TJxfd54e 0
theorem nmJxfd54e : ∀ a, a < 0 → ∀ b, b < 0 → a ≠ b → (TJxfd54e a).2.1 ≠ (TJxfd54e b).2.1 := by decide +kernel
theorem tyJxfd54e_ok : ∀ k, k < 0 → parseFieldDescriptor (TJxfd54e k).2.2.1 = some (tyJxfd54e k) := by decide +kernel
def RJx3cf43 : String := "java/lang/constant/ConstantDesc"
def TJx3cf43 : u_T := fun k => match k with
  | _ => ("", "", "", false)
def tyJx3cf43 : Nat → FieldType := fun k => match k with
  | _ => .int
abbrev wsJx3cf430 : List Cond := u_ws RJx3cf43 TJx3cf43 0
theorem nmJx3cf43 : ∀ a, a < 0 → ∀ b, b < 0 → a ≠ b → (TJx3cf43 a).2.1 ≠ (TJx3cf43 b).2.1 := by decide +kernel
theorem tyJx3cf43_ok : ∀ k, k < 0 → parseFieldDescriptor (TJx3cf43 k).2.2.1 = some (tyJx3cf43 k) := by decide +kernel
def RJ7 : String := "java/util/Arrays"
def TJ7 : u_T := fun k => match k with
  | _ => ("", "", "", false)
def tyJ7 : Nat → FieldType := fun k => match k with
  | _ => .int
abbrev wsJ70 : List Cond := u_ws RJ7 TJ7 0
theorem nmJ7 : ∀ a, a < 0 → ∀ b, b < 0 → a ≠ b → (TJ7 a).2.1 ≠ (TJ7 b).2.1 := by decide +kernel
theorem tyJ7_ok : ∀ k, k < 0 → parseFieldDescriptor (TJ7 k).2.2.1 = some (tyJ7 k) := by decide +kernel
abbrev cJ7_fill_d0a16 : ByteArray := prog_31_method_101_code
def yJ7_fill_d0a16 : MethodName := ⟨RJ7, "fill", "([JJ)V"⟩
abbrev cJ7_fill_53178 : ByteArray := prog_31_method_103_code
def yJ7_fill_53178 : MethodName := ⟨RJ7, "fill", "([II)V"⟩
abbrev cJ7_copyOf_9075b : ByteArray := prog_31_method_121_code
def yJ7_copyOf_9075b : MethodName := ⟨RJ7, "copyOf", "([BI)[B"⟩
abbrev cJ7_checkLength_df160 : ByteArray := prog_31_method_131_code
def yJ7_checkLength_df160 : MethodName := ⟨RJ7, "checkLength", "(II)V"⟩
abbrev cJ7_copyOfRange_39247 : ByteArray := prog_31_method_132_code
def yJ7_copyOfRange_39247 : MethodName := ⟨RJ7, "copyOfRange", "([BII)[B"⟩
abbrev cJ7_copyOfRangeByte_39247 : ByteArray := prog_31_method_133_code
def yJ7_copyOfRangeByte_39247 : MethodName := ⟨RJ7, "copyOfRangeByte", "([BII)[B"⟩
def RJ8 : String := "jdk/internal/util/ArraysSupport"
def TJ8 : u_T := fun k => match k with
  | _ => ("", "", "", false)
def tyJ8 : Nat → FieldType := fun k => match k with
  | _ => .int
abbrev wsJ80 : List Cond := u_ws RJ8 TJ8 0
theorem nmJ8 : ∀ a, a < 0 → ∀ b, b < 0 → a ≠ b → (TJ8 a).2.1 ≠ (TJ8 b).2.1 := by decide +kernel
theorem tyJ8_ok : ∀ k, k < 0 → parseFieldDescriptor (TJ8 k).2.2.1 = some (tyJ8 k) := by decide +kernel
abbrev cJ8_newLength_cabcc : ByteArray := prog_32_method_27_code
def yJ8_newLength_cabcc : MethodName := ⟨RJ8, "newLength", "(III)I"⟩
abbrev cJ8_hugeLength_7cf53 : ByteArray := prog_32_method_28_code
def yJ8_hugeLength_7cf53 : MethodName := ⟨RJ8, "hugeLength", "(II)I"⟩
def RJ3 : String := "jdk/internal/util/Preconditions"
def TJ3 : u_T := fun k => match k with
  | _ => ("", "", "", false)
def tyJ3 : Nat → FieldType := fun k => match k with
  | _ => .int
abbrev wsJ30 : List Cond := u_ws RJ3 TJ3 0
theorem nmJ3 : ∀ a, a < 0 → ∀ b, b < 0 → a ≠ b → (TJ3 a).2.1 ≠ (TJ3 b).2.1 := by decide +kernel
theorem tyJ3_ok : ∀ k, k < 0 → parseFieldDescriptor (TJ3 k).2.2.1 = some (tyJ3 k) := by decide +kernel
abbrev cJ3_checkIndex_8e157 : ByteArray := prog_33_method_11_code
def yJ3_checkIndex_8e157 : MethodName := ⟨RJ3, "checkIndex", "(IILjava/util/function/BiFunction;)I"⟩
abbrev cJ3_checkFromToIndex_8c36e : ByteArray := prog_33_method_12_code
def yJ3_checkFromToIndex_8c36e : MethodName := ⟨RJ3, "checkFromToIndex", "(IIILjava/util/function/BiFunction;)I"⟩
abbrev cJ3_checkFromIndexSize_8c36e : ByteArray := prog_33_method_13_code
def yJ3_checkFromIndexSize_8c36e : MethodName := ⟨RJ3, "checkFromIndexSize", "(IIILjava/util/function/BiFunction;)I"⟩
def RL : String := "MarkovBenchLaw"
abbrev cL_below : ByteArray := method_2_code
def yL_below : MethodName := ⟨RL, "below", "(II)I"⟩
abbrev cL_cell : ByteArray := method_3_code
def yL_cell : MethodName := ⟨RL, "cell", "([II)I"⟩
abbrev cL_feed : ByteArray := method_4_code
def yL_feed : MethodName := ⟨RL, "feed", "(LMarkovBench;Ljava/lang/String;)V"⟩
abbrev cL_compile : ByteArray := method_5_code
def yL_compile : MethodName := ⟨RL, "compile", "(LMarkovBench;Ljava/lang/String;)I"⟩
abbrev cL_law : ByteArray := code
def yL_law : MethodName := ⟨RL, "law", "([I)Z"⟩
abbrev vwCl : List vw_C := [(RJ0, TJ0, 4), (RJ4, TJ4, 4), (RX0, TX0, 7), (RX1, TX1, 8), (RX2, TX2, 3), (RX3, TX3, 4), (RX4, TX4, 17), (RX5, TX5, 11), (RX6, TX6, 6), (RX7, TX7, 4), (RX8, TX8, 14), (RX9, TX9, 11)]
