/-! ===== BEGIN printed: names, fields, word lists, decode rows ===== -/
def RX0 : String := "LayerMoisture$Air"
def TX0 : u_T := fun k => match k with
  | 0 => ("LayerMoisture$Air", "kelvin", "D", false)
  | 1 => ("LayerMoisture$Air", "damp", "D", false)
  | 2 => ("LayerMoisture$Air", "speed", "D", false)
  | _ => ("LayerMoisture$Air", "ventShare", "D", false)
def tyX0 : Nat → FieldType := fun k => match k with
  | 0 => .double
  | 1 => .double
  | 2 => .double
  | _ => .double
abbrev wsX00 : List Cond := u_ws RX0 TX0 4
theorem nmX0 : ∀ a, a < 4 → ∀ b, b < 4 → a ≠ b → (TX0 a).2.1 ≠ (TX0 b).2.1 := by decide +kernel
theorem tyX0_ok : ∀ k, k < 4 → parseFieldDescriptor (TX0 k).2.2.1 = some (tyX0 k) := by decide +kernel
abbrev cX0_init : ByteArray := prog_2_method_1_code
def yX0_init : MethodName := ⟨RX0, "<init>", "()V"⟩
abbrev cX0_balanceNow : ByteArray := prog_2_method_2_code
def yX0_balanceNow : MethodName := ⟨RX0, "balanceNow", "()D"⟩
abbrev cX0_takeUp : ByteArray := prog_2_method_3_code
def yX0_takeUp : MethodName := ⟨RX0, "takeUp", "(D)V"⟩
def RX1 : String := "LayerMoisture$Board"
def TX1 : u_T := fun k => match k with
  | 0 => ("LayerMoisture$Board", "wetness", "[D", true)
  | 1 => ("LayerMoisture$Board", "kind", "LLayerMoisture$Kind;", false)
  | 2 => ("LayerMoisture$Board", "there", "Z", false)
  | 3 => ("LayerMoisture$Board", "depth", "D", false)
  | 4 => ("LayerMoisture$Board", "limited", "Z", false)
  | 5 => ("LayerMoisture$Board", "loadLimit", "D", false)
  | _ => ("LayerMoisture$Board", "keptHour", "I", false)
def tyX1 : Nat → FieldType := fun k => match k with
  | 0 => .array .double
  | 1 => .object "LayerMoisture$Kind"
  | 2 => .boolean
  | 3 => .double
  | 4 => .boolean
  | 5 => .double
  | _ => .int
abbrev wsX10 : List Cond := u_ws RX1 TX1 7
theorem nmX1 : ∀ a, a < 7 → ∀ b, b < 7 → a ≠ b → (TX1 a).2.1 ≠ (TX1 b).2.1 := by decide +kernel
theorem tyX1_ok : ∀ k, k < 7 → parseFieldDescriptor (TX1 k).2.2.1 = some (tyX1 k) := by decide +kernel
abbrev cX1_init : ByteArray := prog_3_method_1_code
def yX1_init : MethodName := ⟨RX1, "<init>", "(ILLayerMoisture$Kind;)V"⟩
abbrev cX1_lay : ByteArray := prog_3_method_2_code
def yX1_lay : MethodName := ⟨RX1, "lay", "(DDLLayerMoisture$Kind;)V"⟩
abbrev cX1_setLimit : ByteArray := prog_3_method_3_code
def yX1_setLimit : MethodName := ⟨RX1, "setLimit", "(D)V"⟩
abbrev cX1_meanWetness : ByteArray := prog_3_method_4_code
def yX1_meanWetness : MethodName := ⟨RX1, "meanWetness", "()D"⟩
abbrev cX1_greatestWetness : ByteArray := prog_3_method_5_code
def yX1_greatestWetness : MethodName := ⟨RX1, "greatestWetness", "()D"⟩
abbrev cX1_refuses : ByteArray := prog_3_method_6_code
def yX1_refuses : MethodName := ⟨RX1, "refuses", "(D)Z"⟩
abbrev cX1_dry : ByteArray := prog_3_method_7_code
def yX1_dry : MethodName := ⟨RX1, "dry", "(DD)D"⟩
abbrev cX1_faceFlow : ByteArray := prog_3_method_8_code
def yX1_faceFlow : MethodName := ⟨RX1, "faceFlow", "(DDD)D"⟩
abbrev cX1_slopeFlow : ByteArray := prog_3_method_9_code
def yX1_slopeFlow : MethodName := ⟨RX1, "slopeFlow", "(DD)D"⟩
abbrev cX1_shrinkage : ByteArray := prog_3_method_10_code
def yX1_shrinkage : MethodName := ⟨RX1, "shrinkage", "(D)D"⟩
abbrev cX1_meanShrinkage : ByteArray := prog_3_method_11_code
def yX1_meanShrinkage : MethodName := ⟨RX1, "meanShrinkage", "()D"⟩
abbrev cX1_greatestLoad : ByteArray := prog_3_method_12_code
def yX1_greatestLoad : MethodName := ⟨RX1, "greatestLoad", "()D"⟩
abbrev cX1_watchLoad : ByteArray := prog_3_method_13_code
def yX1_watchLoad : MethodName := ⟨RX1, "watchLoad", "(I)V"⟩
def RX2 : String := "LayerMoisture$Kind"
def TX2 : u_T := fun k => match k with
  | 0 => ("LayerMoisture$Kind", "a", "D", false)
  | _ => ("LayerMoisture$Kind", "b", "D", false)
def tyX2 : Nat → FieldType := fun k => match k with
  | 0 => .double
  | _ => .double
abbrev wsX20 : List Cond := u_ws RX2 TX2 2
theorem nmX2 : ∀ a, a < 2 → ∀ b, b < 2 → a ≠ b → (TX2 a).2.1 ≠ (TX2 b).2.1 := by decide +kernel
theorem tyX2_ok : ∀ k, k < 2 → parseFieldDescriptor (TX2 k).2.2.1 = some (tyX2 k) := by decide +kernel
abbrev cX2_init : ByteArray := prog_4_method_1_code
def yX2_init : MethodName := ⟨RX2, "<init>", "()V"⟩
abbrev cX2_speedAt : ByteArray := prog_4_method_2_code
def yX2_speedAt : MethodName := ⟨RX2, "speedAt", "(D)D"⟩
def RX3 : String := "LayerMoisture$Ledger"
def TX3 : u_T := fun k => match k with
  | 0 => ("LayerMoisture$Ledger", "rest", "D", false)
  | _ => ("LayerMoisture$Ledger", "gone", "J", false)
def tyX3 : Nat → FieldType := fun k => match k with
  | 0 => .double
  | _ => .long
abbrev wsX30 : List Cond := u_ws RX3 TX3 2
theorem nmX3 : ∀ a, a < 2 → ∀ b, b < 2 → a ≠ b → (TX3 a).2.1 ≠ (TX3 b).2.1 := by decide +kernel
theorem tyX3_ok : ∀ k, k < 2 → parseFieldDescriptor (TX3 k).2.2.1 = some (tyX3 k) := by decide +kernel
abbrev cX3_init : ByteArray := prog_5_method_1_code
def yX3_init : MethodName := ⟨RX3, "<init>", "()V"⟩
abbrev cX3_take : ByteArray := prog_5_method_2_code
def yX3_take : MethodName := ⟨RX3, "take", "(D)V"⟩
def RX4 : String := "LayerMoisture$Plan"
def TX4 : u_T := fun k => match k with
  | 0 => ("LayerMoisture$Plan", "byHours", "[Z", true)
  | 1 => ("LayerMoisture$Plan", "times", "[I", true)
  | 2 => ("LayerMoisture$Plan", "kelvins", "[I", true)
  | 3 => ("LayerMoisture$Plan", "damps", "[I", true)
  | 4 => ("LayerMoisture$Plan", "steps", "I", false)
  | _ => ("LayerMoisture$Plan", "done", "I", false)
def tyX4 : Nat → FieldType := fun k => match k with
  | 0 => .array .boolean
  | 1 => .array .int
  | 2 => .array .int
  | 3 => .array .int
  | 4 => .int
  | _ => .int
abbrev wsX40 : List Cond := u_ws RX4 TX4 6
theorem nmX4 : ∀ a, a < 6 → ∀ b, b < 6 → a ≠ b → (TX4 a).2.1 ≠ (TX4 b).2.1 := by decide +kernel
theorem tyX4_ok : ∀ k, k < 6 → parseFieldDescriptor (TX4 k).2.2.1 = some (tyX4 k) := by decide +kernel
abbrev cX4_init : ByteArray := prog_6_method_1_code
def yX4_init : MethodName := ⟨RX4, "<init>", "()V"⟩
abbrev cX4_readFrom : ByteArray := prog_6_method_2_code
def yX4_readFrom : MethodName := ⟨RX4, "readFrom", "(LLayerMoisture$Text;)I"⟩
abbrev cX4_readSteps : ByteArray := prog_6_method_3_code
def yX4_readSteps : MethodName := ⟨RX4, "readSteps", "(LLayerMoisture$Text;)I"⟩
abbrev cX4_readStep : ByteArray := prog_6_method_4_code
def yX4_readStep : MethodName := ⟨RX4, "readStep", "(LLayerMoisture$Text;I)Z"⟩
def RX5 : String := "LayerMoisture$Text"
def TX5 : u_T := fun k => match k with
  | 0 => ("LayerMoisture$Text", "units", "[C", true)
  | 1 => ("LayerMoisture$Text", "length", "I", false)
  | _ => ("LayerMoisture$Text", "place", "I", false)
def tyX5 : Nat → FieldType := fun k => match k with
  | 0 => .array .char
  | 1 => .int
  | _ => .int
abbrev wsX50 : List Cond := u_ws RX5 TX5 3
theorem nmX5 : ∀ a, a < 3 → ∀ b, b < 3 → a ≠ b → (TX5 a).2.1 ≠ (TX5 b).2.1 := by decide +kernel
theorem tyX5_ok : ∀ k, k < 3 → parseFieldDescriptor (TX5 k).2.2.1 = some (tyX5 k) := by decide +kernel
abbrev cX5_init : ByteArray := prog_7_method_1_code
def yX5_init : MethodName := ⟨RX5, "<init>", "()V"⟩
abbrev cX5_append : ByteArray := prog_7_method_2_code
def yX5_append : MethodName := ⟨RX5, "append", "(I)Z"⟩
abbrev cX5_empty : ByteArray := prog_7_method_3_code
def yX5_empty : MethodName := ⟨RX5, "empty", "()V"⟩
abbrev cX5_isAtEnd : ByteArray := prog_7_method_4_code
def yX5_isAtEnd : MethodName := ⟨RX5, "isAtEnd", "()Z"⟩
abbrev cX5_next : ByteArray := prog_7_method_5_code
def yX5_next : MethodName := ⟨RX5, "next", "()C"⟩
abbrev cX5_isAtDigit : ByteArray := prog_7_method_6_code
def yX5_isAtDigit : MethodName := ⟨RX5, "isAtDigit", "()Z"⟩
abbrev cX5_pass : ByteArray := prog_7_method_7_code
def yX5_pass : MethodName := ⟨RX5, "pass", "(C)Z"⟩
abbrev cX5_readNumber : ByteArray := prog_7_method_8_code
def yX5_readNumber : MethodName := ⟨RX5, "readNumber", "(II)I"⟩
def RX6 : String := "LayerMoisture"
def TX6 : u_T := fun k => match k with
  | 0 => ("LayerMoisture", "layerCount", "I", true)
  | 1 => ("LayerMoisture", "boards", "[LLayerMoisture$Board;", true)
  | 2 => ("LayerMoisture", "kinds", "[LLayerMoisture$Kind;", true)
  | 3 => ("LayerMoisture", "state", "LLayerMoisture$Air;", true)
  | 4 => ("LayerMoisture", "ledger", "LLayerMoisture$Ledger;", true)
  | 5 => ("LayerMoisture", "text", "LLayerMoisture$Text;", true)
  | 6 => ("LayerMoisture", "plan", "LLayerMoisture$Plan;", true)
  | _ => ("LayerMoisture", "hoursPassed", "I", false)
def tyX6 : Nat → FieldType := fun k => match k with
  | 0 => .int
  | 1 => .array (.object "LayerMoisture$Board")
  | 2 => .array (.object "LayerMoisture$Kind")
  | 3 => .object "LayerMoisture$Air"
  | 4 => .object "LayerMoisture$Ledger"
  | 5 => .object "LayerMoisture$Text"
  | 6 => .object "LayerMoisture$Plan"
  | _ => .int
abbrev wsX60 : List Cond := u_ws RX6 TX6 8
theorem nmX6 : ∀ a, a < 8 → ∀ b, b < 8 → a ≠ b → (TX6 a).2.1 ≠ (TX6 b).2.1 := by decide +kernel
theorem tyX6_ok : ∀ k, k < 8 → parseFieldDescriptor (TX6 k).2.2.1 = some (tyX6 k) := by decide +kernel
abbrev cX6_init : ByteArray := prog_1_method_1_code
def yX6_init : MethodName := ⟨RX6, "<init>", "(II)V"⟩
abbrev cX6_board : ByteArray := prog_1_method_2_code
def yX6_board : MethodName := ⟨RX6, "board", "(IDDI)V"⟩
abbrev cX6_rate : ByteArray := prog_1_method_3_code
def yX6_rate : MethodName := ⟨RX6, "rate", "(IDD)V"⟩
abbrev cX6_air : ByteArray := prog_1_method_4_code
def yX6_air : MethodName := ⟨RX6, "air", "(DDD)V"⟩
abbrev cX6_vent : ByteArray := prog_1_method_5_code
def yX6_vent : MethodName := ⟨RX6, "vent", "(D)V"⟩
abbrev cX6_soak : ByteArray := prog_1_method_6_code
def yX6_soak : MethodName := ⟨RX6, "soak", "(IID)V"⟩
abbrev cX6_unit : ByteArray := prog_1_method_7_code
def yX6_unit : MethodName := ⟨RX6, "unit", "(I)Z"⟩
abbrev cX6_schedule : ByteArray := prog_1_method_8_code
def yX6_schedule : MethodName := ⟨RX6, "schedule", "()I"⟩
abbrev cX6_run : ByteArray := prog_1_method_9_code
def yX6_run : MethodName := ⟨RX6, "run", "(I)I"⟩
abbrev cX6_limit : ByteArray := prog_1_method_10_code
def yX6_limit : MethodName := ⟨RX6, "limit", "(ID)V"⟩
abbrev cX6_check : ByteArray := prog_1_method_11_code
def yX6_check : MethodName := ⟨RX6, "check", "(I)I"⟩
abbrev cX6_wet : ByteArray := prog_1_method_12_code
def yX6_wet : MethodName := ⟨RX6, "wet", "(II)D"⟩
abbrev cX6_mean : ByteArray := prog_1_method_13_code
def yX6_mean : MethodName := ⟨RX6, "mean", "(I)D"⟩
abbrev cX6_stress : ByteArray := prog_1_method_14_code
def yX6_stress : MethodName := ⟨RX6, "stress", "(II)D"⟩
abbrev cX6_balance : ByteArray := prog_1_method_15_code
def yX6_balance : MethodName := ⟨RX6, "balance", "()D"⟩
abbrev cX6_told : ByteArray := prog_1_method_16_code
def yX6_told : MethodName := ⟨RX6, "told", "(I)D"⟩
abbrev cX6_grams : ByteArray := prog_1_method_17_code
def yX6_grams : MethodName := ⟨RX6, "grams", "()J"⟩
abbrev cX6_count : ByteArray := prog_1_method_18_code
def yX6_count : MethodName := ⟨RX6, "count", "(I)I"⟩
abbrev cX6_slotOf : ByteArray := prog_1_method_19_code
def yX6_slotOf : MethodName := ⟨RX6, "slotOf", "(I)LLayerMoisture$Board;"⟩
abbrev cX6_boardThere : ByteArray := prog_1_method_20_code
def yX6_boardThere : MethodName := ⟨RX6, "boardThere", "(I)LLayerMoisture$Board;"⟩
abbrev cX6_kindOf : ByteArray := prog_1_method_21_code
def yX6_kindOf : MethodName := ⟨RX6, "kindOf", "(I)LLayerMoisture$Kind;"⟩
abbrev cX6_requireLayer : ByteArray := prog_1_method_22_code
def yX6_requireLayer : MethodName := ⟨RX6, "requireLayer", "(I)V"⟩
abbrev cX6_requireThere : ByteArray := prog_1_method_23_code
def yX6_requireThere : MethodName := ⟨RX6, "requireThere", "(LLayerMoisture$Board;)V"⟩
abbrev cX6_requireWithin : ByteArray := prog_1_method_24_code
def yX6_requireWithin : MethodName := ⟨RX6, "requireWithin", "(DDD)V"⟩
abbrev cX6_boardsThere : ByteArray := prog_1_method_25_code
def yX6_boardsThere : MethodName := ⟨RX6, "boardsThere", "()I"⟩
abbrev cX6_isRefused : ByteArray := prog_1_method_26_code
def yX6_isRefused : MethodName := ⟨RX6, "isRefused", "()Z"⟩
abbrev cX6_passHour : ByteArray := prog_1_method_27_code
def yX6_passHour : MethodName := ⟨RX6, "passHour", "()V"⟩
abbrev cX6_followPlan : ByteArray := prog_1_method_28_code
def yX6_followPlan : MethodName := ⟨RX6, "followPlan", "()V"⟩
abbrev cX6_isStepDue : ByteArray := prog_1_method_29_code
def yX6_isStepDue : MethodName := ⟨RX6, "isStepDue", "(I)Z"⟩
abbrev cX6_isAnyWetterThan : ByteArray := prog_1_method_30_code
def yX6_isAnyWetterThan : MethodName := ⟨RX6, "isAnyWetterThan", "(D)Z"⟩
def RX7 : String := "LayerMoistureModel"
def TX7 : u_T := fun k => match k with
  | 0 => ("LayerMoistureModel", "thrown", "I", false)
  | 1 => ("LayerMoistureModel", "layers", "I", false)
  | 2 => ("LayerMoistureModel", "boards", "I", false)
  | 3 => ("LayerMoistureModel", "rateA", "[D", true)
  | 4 => ("LayerMoistureModel", "rateB", "[D", true)
  | 5 => ("LayerMoistureModel", "kelvin", "D", false)
  | 6 => ("LayerMoistureModel", "damp", "D", false)
  | 7 => ("LayerMoistureModel", "speed", "D", false)
  | 8 => ("LayerMoistureModel", "vent", "D", false)
  | 9 => ("LayerMoistureModel", "left", "D", false)
  | 10 => ("LayerMoistureModel", "gone", "J", false)
  | 11 => ("LayerMoistureModel", "hours", "I", false)
  | 12 => ("LayerMoistureModel", "there", "[Z", true)
  | 13 => ("LayerMoistureModel", "depths", "[D", true)
  | 14 => ("LayerMoistureModel", "kinds", "[I", true)
  | 15 => ("LayerMoistureModel", "wets", "[D", true)
  | 16 => ("LayerMoistureModel", "next", "[D", true)
  | 17 => ("LayerMoistureModel", "limited", "[Z", true)
  | 18 => ("LayerMoistureModel", "limits", "[D", true)
  | 19 => ("LayerMoistureModel", "kept", "[I", true)
  | 20 => ("LayerMoistureModel", "text", "[I", true)
  | 21 => ("LayerMoistureModel", "typed", "I", false)
  | 22 => ("LayerMoistureModel", "at", "I", false)
  | 23 => ("LayerMoistureModel", "bad", "I", false)
  | 24 => ("LayerMoistureModel", "number", "I", false)
  | 25 => ("LayerMoistureModel", "byWet", "[Z", true)
  | 26 => ("LayerMoistureModel", "times", "[I", true)
  | 27 => ("LayerMoistureModel", "kelvins", "[I", true)
  | 28 => ("LayerMoistureModel", "damps", "[I", true)
  | 29 => ("LayerMoistureModel", "steps", "I", false)
  | _ => ("LayerMoistureModel", "done", "I", false)
def tyX7 : Nat → FieldType := fun k => match k with
  | 0 => .int
  | 1 => .int
  | 2 => .int
  | 3 => .array .double
  | 4 => .array .double
  | 5 => .double
  | 6 => .double
  | 7 => .double
  | 8 => .double
  | 9 => .double
  | 10 => .long
  | 11 => .int
  | 12 => .array .boolean
  | 13 => .array .double
  | 14 => .array .int
  | 15 => .array .double
  | 16 => .array .double
  | 17 => .array .boolean
  | 18 => .array .double
  | 19 => .array .int
  | 20 => .array .int
  | 21 => .int
  | 22 => .int
  | 23 => .int
  | 24 => .int
  | 25 => .array .boolean
  | 26 => .array .int
  | 27 => .array .int
  | 28 => .array .int
  | 29 => .int
  | _ => .int
abbrev wsX70 : List Cond := u_ws RX7 TX7 31
theorem nmX7 : ∀ a, a < 31 → ∀ b, b < 31 → a ≠ b → (TX7 a).2.1 ≠ (TX7 b).2.1 := by decide +kernel
theorem tyX7_ok : ∀ k, k < 31 → parseFieldDescriptor (TX7 k).2.2.1 = some (tyX7 k) := by decide +kernel
abbrev cX7_init : ByteArray := prog_9_method_1_code
def yX7_init : MethodName := ⟨RX7, "<init>", "(II)V"⟩
abbrev cX7_thrown : ByteArray := prog_9_method_2_code
def yX7_thrown : MethodName := ⟨RX7, "thrown", "()I"⟩
abbrev cX7_noBoard : ByteArray := prog_9_method_3_code
def yX7_noBoard : MethodName := ⟨RX7, "noBoard", "(I)Z"⟩
abbrev cX7_noLayer : ByteArray := prog_9_method_4_code
def yX7_noLayer : MethodName := ⟨RX7, "noLayer", "(II)Z"⟩
abbrev cX7_isIn : ByteArray := prog_9_method_5_code
def yX7_isIn : MethodName := ⟨RX7, "isIn", "(DDD)Z"⟩
abbrev cX7_board : ByteArray := prog_9_method_6_code
def yX7_board : MethodName := ⟨RX7, "board", "(IDDI)V"⟩
abbrev cX7_rate : ByteArray := prog_9_method_7_code
def yX7_rate : MethodName := ⟨RX7, "rate", "(IDD)V"⟩
abbrev cX7_air : ByteArray := prog_9_method_8_code
def yX7_air : MethodName := ⟨RX7, "air", "(DDD)V"⟩
abbrev cX7_vent : ByteArray := prog_9_method_9_code
def yX7_vent : MethodName := ⟨RX7, "vent", "(D)V"⟩
abbrev cX7_soak : ByteArray := prog_9_method_10_code
def yX7_soak : MethodName := ⟨RX7, "soak", "(IID)V"⟩
abbrev cX7_unit : ByteArray := prog_9_method_11_code
def yX7_unit : MethodName := ⟨RX7, "unit", "(I)Z"⟩
abbrev cX7_fail : ByteArray := prog_9_method_12_code
def yX7_fail : MethodName := ⟨RX7, "fail", "(I)Z"⟩
abbrev cX7_pass : ByteArray := prog_9_method_13_code
def yX7_pass : MethodName := ⟨RX7, "pass", "(I)Z"⟩
abbrev cX7_isDigit : ByteArray := prog_9_method_14_code
def yX7_isDigit : MethodName := ⟨RX7, "isDigit", "()Z"⟩
abbrev cX7_passNumber : ByteArray := prog_9_method_15_code
def yX7_passNumber : MethodName := ⟨RX7, "passNumber", "(II)Z"⟩
abbrev cX7_passStep : ByteArray := prog_9_method_16_code
def yX7_passStep : MethodName := ⟨RX7, "passStep", "()Z"⟩
abbrev cX7_schedule : ByteArray := prog_9_method_17_code
def yX7_schedule : MethodName := ⟨RX7, "schedule", "()I"⟩
abbrev cX7_sumOf : ByteArray := prog_9_method_18_code
def yX7_sumOf : MethodName := ⟨RX7, "sumOf", "(I)D"⟩
abbrev cX7_meanOf : ByteArray := prog_9_method_19_code
def yX7_meanOf : MethodName := ⟨RX7, "meanOf", "(I)D"⟩
abbrev cX7_balanceNow : ByteArray := prog_9_method_20_code
def yX7_balanceNow : MethodName := ⟨RX7, "balanceNow", "()D"⟩
abbrev cX7_isRefused : ByteArray := prog_9_method_21_code
def yX7_isRefused : MethodName := ⟨RX7, "isRefused", "()Z"⟩
abbrev cX7_hasCome : ByteArray := prog_9_method_22_code
def yX7_hasCome : MethodName := ⟨RX7, "hasCome", "()Z"⟩
abbrev cX7_flow : ByteArray := prog_9_method_23_code
def yX7_flow : MethodName := ⟨RX7, "flow", "(II)D"⟩
abbrev cX7_hourOf : ByteArray := prog_9_method_24_code
def yX7_hourOf : MethodName := ⟨RX7, "hourOf", "(I)V"⟩
abbrev cX7_share : ByteArray := prog_9_method_25_code
def yX7_share : MethodName := ⟨RX7, "share", "(II)D"⟩
abbrev cX7_stressOf : ByteArray := prog_9_method_26_code
def yX7_stressOf : MethodName := ⟨RX7, "stressOf", "(II)D"⟩
abbrev cX7_keep : ByteArray := prog_9_method_27_code
def yX7_keep : MethodName := ⟨RX7, "keep", "(I)V"⟩
abbrev cX7_hour : ByteArray := prog_9_method_28_code
def yX7_hour : MethodName := ⟨RX7, "hour", "()V"⟩
abbrev cX7_run : ByteArray := prog_9_method_29_code
def yX7_run : MethodName := ⟨RX7, "run", "(I)I"⟩
abbrev cX7_limit : ByteArray := prog_9_method_30_code
def yX7_limit : MethodName := ⟨RX7, "limit", "(ID)V"⟩
abbrev cX7_isMissing : ByteArray := prog_9_method_31_code
def yX7_isMissing : MethodName := ⟨RX7, "isMissing", "(IZ)Z"⟩
abbrev cX7_check : ByteArray := prog_9_method_32_code
def yX7_check : MethodName := ⟨RX7, "check", "(I)I"⟩
abbrev cX7_wet : ByteArray := prog_9_method_33_code
def yX7_wet : MethodName := ⟨RX7, "wet", "(II)D"⟩
abbrev cX7_mean : ByteArray := prog_9_method_34_code
def yX7_mean : MethodName := ⟨RX7, "mean", "(I)D"⟩
abbrev cX7_stress : ByteArray := prog_9_method_35_code
def yX7_stress : MethodName := ⟨RX7, "stress", "(II)D"⟩
abbrev cX7_balance : ByteArray := prog_9_method_36_code
def yX7_balance : MethodName := ⟨RX7, "balance", "()D"⟩
abbrev cX7_told : ByteArray := prog_9_method_37_code
def yX7_told : MethodName := ⟨RX7, "told", "(I)D"⟩
abbrev cX7_grams : ByteArray := prog_9_method_38_code
def yX7_grams : MethodName := ⟨RX7, "grams", "()J"⟩
abbrev cX7_count : ByteArray := prog_9_method_39_code
def yX7_count : MethodName := ⟨RX7, "count", "(I)I"⟩
def RJx00060 : String := "java/lang/ArrayIndexOutOfBoundsException"
def TJx00060 : u_T := fun k => match k with
  | 0 => ("java/lang/Throwable", "cause", "Ljava/lang/Throwable;", false)
  | 1 => ("java/lang/Throwable", "stackTrace", "[Ljava/lang/StackTraceElement;", false)
  | 2 => ("java/lang/Throwable", "suppressedExceptions", "Ljava/util/List;", false)
  | 3 => ("java/lang/Throwable", "detailMessage", "Ljava/lang/String;", false)
  | 4 => ("java/lang/Throwable", "backtrace", "Ljava/lang/Object;", false)
  | _ => ("java/lang/Throwable", "depth", "I", false)
def tyJx00060 : Nat → FieldType := fun k => match k with
  | 0 => .object "java/lang/Throwable"
  | 1 => .array (.object "java/lang/StackTraceElement")
  | 2 => .object "java/util/List"
  | 3 => .object "java/lang/String"
  | 4 => .object "java/lang/Object"
  | _ => .int
abbrev wsJx000600 : List Cond := u_ws RJx00060 TJx00060 6
theorem nmJx00060 : ∀ a, a < 6 → ∀ b, b < 6 → a ≠ b → (TJx00060 a).2.1 ≠ (TJx00060 b).2.1 := by decide +kernel
theorem tyJx00060_ok : ∀ k, k < 6 → parseFieldDescriptor (TJx00060 k).2.2.1 = some (tyJx00060 k) := by decide +kernel
abbrev cJx00060_init_a7421 : ByteArray := prog_10_method_2_code
def yJx00060_init_a7421 : MethodName := ⟨RJx00060, "<init>", "(Ljava/lang/String;)V"⟩
def RJ9 : String := "java/lang/Math"
def TJ9 : u_T := fun k => match k with
  | _ => ("", "", "", false)
def tyJ9 : Nat → FieldType := fun k => match k with
  | _ => .int
abbrev wsJ90 : List Cond := u_ws RJ9 TJ9 0
theorem nmJ9 : ∀ a, a < 0 → ∀ b, b < 0 → a ≠ b → (TJ9 a).2.1 ≠ (TJ9 b).2.1 := by decide +kernel
theorem tyJ9_ok : ∀ k, k < 0 → parseFieldDescriptor (TJ9 k).2.2.1 = some (tyJ9 k) := by decide +kernel
abbrev cJ9_max_7cf53 : ByteArray := prog_15_method_65_code
def yJ9_max_7cf53 : MethodName := ⟨RJ9, "max", "(II)I"⟩
abbrev cJ9_min_7cf53 : ByteArray := prog_15_method_69_code
def yJ9_min_7cf53 : MethodName := ⟨RJ9, "min", "(II)I"⟩
def RJ0 : String := "java/lang/String"
def TJ0 : u_T := fun k => match k with
  | _ => ("", "", "", false)
def tyJ0 : Nat → FieldType := fun k => match k with
  | _ => .int
abbrev wsJ00 : List Cond := u_ws RJ0 TJ0 0
theorem nmJ0 : ∀ a, a < 0 → ∀ b, b < 0 → a ≠ b → (TJ0 a).2.1 ≠ (TJ0 b).2.1 := by decide +kernel
theorem tyJ0_ok : ∀ k, k < 0 → parseFieldDescriptor (TJ0 k).2.2.1 = some (tyJ0 k) := by decide +kernel
def RL : String := "LayerMoistureLaw"
abbrev cL_cell : ByteArray := method_2_code
def yL_cell : MethodName := ⟨RL, "cell", "([II)I"⟩
abbrev cL_board : ByteArray := method_3_code
def yL_board : MethodName := ⟨RL, "board", "(LLayerMoisture;IDDI)I"⟩
abbrev cL_rate : ByteArray := method_4_code
def yL_rate : MethodName := ⟨RL, "rate", "(LLayerMoisture;IDD)I"⟩
abbrev cL_air : ByteArray := method_5_code
def yL_air : MethodName := ⟨RL, "air", "(LLayerMoisture;DDD)I"⟩
abbrev cL_vent : ByteArray := method_6_code
def yL_vent : MethodName := ⟨RL, "vent", "(LLayerMoisture;D)I"⟩
abbrev cL_soak : ByteArray := method_7_code
def yL_soak : MethodName := ⟨RL, "soak", "(LLayerMoisture;IID)I"⟩
abbrev cL_run : ByteArray := method_8_code
def yL_run : MethodName := ⟨RL, "run", "(LLayerMoisture;I[J)I"⟩
abbrev cL_limit : ByteArray := method_9_code
def yL_limit : MethodName := ⟨RL, "limit", "(LLayerMoisture;ID)I"⟩
abbrev cL_check : ByteArray := method_10_code
def yL_check : MethodName := ⟨RL, "check", "(LLayerMoisture;I[J)I"⟩
abbrev cL_wet : ByteArray := method_11_code
def yL_wet : MethodName := ⟨RL, "wet", "(LLayerMoisture;II[D)I"⟩
abbrev cL_mean : ByteArray := method_12_code
def yL_mean : MethodName := ⟨RL, "mean", "(LLayerMoisture;I[D)I"⟩
abbrev cL_stress : ByteArray := method_13_code
def yL_stress : MethodName := ⟨RL, "stress", "(LLayerMoisture;II[D)I"⟩
abbrev cL_told : ByteArray := method_14_code
def yL_told : MethodName := ⟨RL, "told", "(LLayerMoisture;I[D)I"⟩
abbrev cL_count : ByteArray := method_15_code
def yL_count : MethodName := ⟨RL, "count", "(LLayerMoisture;I[J)I"⟩
abbrev cL_law : ByteArray := code
def yL_law : MethodName := ⟨RL, "law", "([I)Z"⟩
def wsX0_init : List Cond := .code yX0_init cX0_init 1 none :: ([.methodLink RX0 1 objectInit, .instanceMethod objectInit, .code objectInit ⟨#[0xb1]⟩ 1 none, .constantDouble RX0 7 (4643862126702624768), .fieldLink RX0 9 "LayerMoisture$Air" "kelvin" "D", .constantDouble RX0 15 (4602678819172646912), .fieldLink RX0 17 "LayerMoisture$Air" "damp" "D", .fieldLink RX0 20 "LayerMoisture$Air" "speed" "D", .fieldLink RX0 23 "LayerMoisture$Air" "ventShare" "D"] ++ wsX00)
def wsX0_balanceNow : List Cond := .code yX0_balanceNow cX0_balanceNow 1 (some .double) :: ([.constantDouble RX0 26 (4600427019358961664), .fieldLink RX0 17 "LayerMoisture$Air" "damp" "D", .fieldLink RX0 9 "LayerMoisture$Air" "kelvin" "D", .constantDouble RX0 28 (4643510282981736448), .constantDouble RX0 30 (4643211215818981376)] ++ wsX00)
def wsX0_takeUp : List Cond := .code yX0_takeUp cX0_takeUp 5 none :: ([.fieldLink RX0 17 "LayerMoisture$Air" "damp" "D", .constantDouble RX0 32 (4679240012837945344), .fieldLink RX0 23 "LayerMoisture$Air" "ventShare" "D"] ++ wsX00)
def wsX1_init : List Cond := .code yX1_init cX1_init 3 none :: ([.methodLink RX1 3 objectInit, .instanceMethod objectInit, .code objectInit ⟨#[0xb1]⟩ 1 none, .arrayClass .double, .fieldLink RX1 9 "LayerMoisture$Board" "wetness" "[D", .fieldLink RX1 15 "LayerMoisture$Board" "kind" "LLayerMoisture$Kind;"] ++ wsX10)
def wsX1_lay : List Cond := .code yX1_lay cX1_lay 7 none :: ([.fieldLink RX1 19 "LayerMoisture$Board" "there" "Z", .fieldLink RX1 9 "LayerMoisture$Board" "wetness" "[D", .fieldLink RX1 23 "LayerMoisture$Board" "depth" "D", .fieldLink RX1 15 "LayerMoisture$Board" "kind" "LLayerMoisture$Kind;", .fieldLink RX1 27 "LayerMoisture$Board" "limited" "Z", .fieldLink RX1 30 "LayerMoisture$Board" "keptHour" "I"] ++ wsX10)
def wsX1_setLimit : List Cond := .code yX1_setLimit cX1_setLimit 3 none :: ([.fieldLink RX1 27 "LayerMoisture$Board" "limited" "Z", .fieldLink RX1 34 "LayerMoisture$Board" "loadLimit" "D", .fieldLink RX1 30 "LayerMoisture$Board" "keptHour" "I"] ++ wsX10)
def wsX1_meanWetness : List Cond := .code yX1_meanWetness cX1_meanWetness 4 (some .double) :: ([.fieldLink RX1 9 "LayerMoisture$Board" "wetness" "[D"] ++ wsX10)
def wsX1_greatestWetness : List Cond := .code yX1_greatestWetness cX1_greatestWetness 4 (some .double) :: ([.fieldLink RX1 9 "LayerMoisture$Board" "wetness" "[D"] ++ wsX10)
def wsX2_speedAt : List Cond := .code yX2_speedAt cX2_speedAt 3 (some .double) :: ([.fieldLink RX2 7 "LayerMoisture$Kind" "a" "D", .fieldLink RX2 13 "LayerMoisture$Kind" "b" "D"] ++ wsX20)
def wsX1_refuses : List Cond := .code yX1_refuses cX1_refuses 3 (some .boolean) :: ([.constantDouble RX1 37 (4620693217682128896), .fieldLink RX1 23 "LayerMoisture$Board" "depth" "D", .constantDouble RX1 39 (4598175219545276416), .fieldLink RX1 15 "LayerMoisture$Board" "kind" "LLayerMoisture$Kind;", .methodLink RX1 41 yX1_greatestWetness, .instanceMethod yX1_greatestWetness, .selects RX1 yX1_greatestWetness yX1_greatestWetness, .initialized RX1, .code yX1_greatestWetness cX1_greatestWetness 4 (some .double), .fieldLink RX1 9 "LayerMoisture$Board" "wetness" "[D", .methodLink RX1 45 yX2_speedAt, .instanceMethod yX2_speedAt, .selects RX2 yX2_speedAt yX2_speedAt, .initialized RX2, .code yX2_speedAt cX2_speedAt 3 (some .double), .fieldLink RX2 7 "LayerMoisture$Kind" "a" "D", .fieldLink RX2 13 "LayerMoisture$Kind" "b" "D"] ++ wsX10 ++ wsX20)
def wsX1_faceFlow : List Cond := .code yX1_faceFlow cX1_faceFlow 7 (some .double) :: ([.constantDouble RX1 37 (4620693217682128896), .fieldLink RX1 23 "LayerMoisture$Board" "depth" "D"] ++ wsX10)
def wsX1_slopeFlow : List Cond := .code yX1_slopeFlow cX1_slopeFlow 5 (some .double) :: ([.fieldLink RX1 15 "LayerMoisture$Board" "kind" "LLayerMoisture$Kind;", .constantDouble RX1 61 (4611686018427387904), .fieldLink RX1 23 "LayerMoisture$Board" "depth" "D", .methodLink RX1 45 yX2_speedAt, .instanceMethod yX2_speedAt, .selects RX2 yX2_speedAt yX2_speedAt, .initialized RX2, .code yX2_speedAt cX2_speedAt 3 (some .double), .fieldLink RX2 7 "LayerMoisture$Kind" "a" "D", .fieldLink RX2 13 "LayerMoisture$Kind" "b" "D"] ++ wsX10 ++ wsX20)
def wsX1_dry : List Cond := .code yX1_dry cX1_dry 15 (some .double) :: ([.fieldLink RX1 9 "LayerMoisture$Board" "wetness" "[D", .fieldLink RX1 23 "LayerMoisture$Board" "depth" "D", .constantDouble RX1 59 (4634204016564240384), .methodLink RX1 51 yX1_faceFlow, .instanceMethod yX1_faceFlow, .selects RX1 yX1_faceFlow yX1_faceFlow, .initialized RX1, .code yX1_faceFlow cX1_faceFlow 7 (some .double), .constantDouble RX1 37 (4620693217682128896), .methodLink RX1 55 yX1_slopeFlow, .instanceMethod yX1_slopeFlow, .selects RX1 yX1_slopeFlow yX1_slopeFlow, .code yX1_slopeFlow cX1_slopeFlow 5 (some .double), .fieldLink RX1 15 "LayerMoisture$Board" "kind" "LLayerMoisture$Kind;", .constantDouble RX1 61 (4611686018427387904), .methodLink RX1 45 yX2_speedAt, .instanceMethod yX2_speedAt, .selects RX2 yX2_speedAt yX2_speedAt, .initialized RX2, .code yX2_speedAt cX2_speedAt 3 (some .double), .fieldLink RX2 7 "LayerMoisture$Kind" "a" "D", .fieldLink RX2 13 "LayerMoisture$Kind" "b" "D"] ++ wsX10 ++ wsX20)
def wsX1_shrinkage : List Cond := .code yX1_shrinkage cX1_shrinkage 2 (some .double) :: ([.constantDouble RX1 39 (4598175219545276416), .constantDouble RX1 63 (4599301119452119040)])
def wsX1_meanShrinkage : List Cond := .code yX1_meanShrinkage cX1_meanShrinkage 4 (some .double) :: ([.fieldLink RX1 9 "LayerMoisture$Board" "wetness" "[D", .methodLink RX1 65 yX1_shrinkage, .static yX1_shrinkage, .initialized RX1, .code yX1_shrinkage cX1_shrinkage 2 (some .double), .constantDouble RX1 39 (4598175219545276416), .constantDouble RX1 63 (4599301119452119040)] ++ wsX10)
def wsX1_greatestLoad : List Cond := .code yX1_greatestLoad cX1_greatestLoad 10 (some .double) :: ([.fieldLink RX1 9 "LayerMoisture$Board" "wetness" "[D", .methodLink RX1 68 yX1_meanShrinkage, .instanceMethod yX1_meanShrinkage, .selects RX1 yX1_meanShrinkage yX1_meanShrinkage, .initialized RX1, .code yX1_meanShrinkage cX1_meanShrinkage 4 (some .double), .methodLink RX1 65 yX1_shrinkage, .static yX1_shrinkage, .code yX1_shrinkage cX1_shrinkage 2 (some .double), .constantDouble RX1 39 (4598175219545276416), .constantDouble RX1 63 (4599301119452119040)] ++ wsX10)
def wsX1_watchLoad : List Cond := .code yX1_watchLoad cX1_watchLoad 2 none :: ([.fieldLink RX1 27 "LayerMoisture$Board" "limited" "Z", .fieldLink RX1 30 "LayerMoisture$Board" "keptHour" "I", .fieldLink RX1 34 "LayerMoisture$Board" "loadLimit" "D", .methodLink RX1 71 yX1_greatestLoad, .instanceMethod yX1_greatestLoad, .selects RX1 yX1_greatestLoad yX1_greatestLoad, .initialized RX1, .code yX1_greatestLoad cX1_greatestLoad 10 (some .double), .fieldLink RX1 9 "LayerMoisture$Board" "wetness" "[D", .methodLink RX1 68 yX1_meanShrinkage, .instanceMethod yX1_meanShrinkage, .selects RX1 yX1_meanShrinkage yX1_meanShrinkage, .code yX1_meanShrinkage cX1_meanShrinkage 4 (some .double), .methodLink RX1 65 yX1_shrinkage, .static yX1_shrinkage, .code yX1_shrinkage cX1_shrinkage 2 (some .double), .constantDouble RX1 39 (4598175219545276416), .constantDouble RX1 63 (4599301119452119040)] ++ wsX10)
def wsX2_init : List Cond := .code yX2_init cX2_init 1 none :: ([.methodLink RX2 1 objectInit, .instanceMethod objectInit, .code objectInit ⟨#[0xb1]⟩ 1 none])
def wsX3_init : List Cond := .code yX3_init cX3_init 1 none :: ([.methodLink RX3 1 objectInit, .instanceMethod objectInit, .code objectInit ⟨#[0xb1]⟩ 1 none])
def wsX3_take : List Cond := .code yX3_take cX3_take 5 none :: ([.fieldLink RX3 7 "LayerMoisture$Ledger" "rest" "D", .fieldLink RX3 13 "LayerMoisture$Ledger" "gone" "J"] ++ wsX30)
def wsX4_init : List Cond := .code yX4_init cX4_init 1 none :: ([.methodLink RX4 3 objectInit, .instanceMethod objectInit, .code objectInit ⟨#[0xb1]⟩ 1 none, .arrayClass .boolean, .fieldLink RX4 11 "LayerMoisture$Plan" "byHours" "[Z", .arrayClass .int, .fieldLink RX4 15 "LayerMoisture$Plan" "times" "[I", .fieldLink RX4 19 "LayerMoisture$Plan" "kelvins" "[I", .fieldLink RX4 22 "LayerMoisture$Plan" "damps" "[I"] ++ wsX40)
def wsX5_isAtEnd : List Cond := .code yX5_isAtEnd cX5_isAtEnd 1 (some .boolean) :: ([.fieldLink RX5 19 "LayerMoisture$Text" "place" "I", .fieldLink RX5 15 "LayerMoisture$Text" "length" "I"] ++ wsX50)
def wsX5_next : List Cond := .code yX5_next cX5_next 1 (some .char) :: ([.fieldLink RX5 11 "LayerMoisture$Text" "units" "[C", .fieldLink RX5 19 "LayerMoisture$Text" "place" "I", .methodLink RX5 22 yX5_isAtEnd, .instanceMethod yX5_isAtEnd, .selects RX5 yX5_isAtEnd yX5_isAtEnd, .initialized RX5, .code yX5_isAtEnd cX5_isAtEnd 1 (some .boolean), .fieldLink RX5 15 "LayerMoisture$Text" "length" "I"] ++ wsX50)
def wsX5_pass : List Cond := .code yX5_pass cX5_pass 2 (some .boolean) :: ([.fieldLink RX5 19 "LayerMoisture$Text" "place" "I", .methodLink RX5 26 yX5_next, .instanceMethod yX5_next, .selects RX5 yX5_next yX5_next, .initialized RX5, .code yX5_next cX5_next 1 (some .char), .fieldLink RX5 11 "LayerMoisture$Text" "units" "[C", .methodLink RX5 22 yX5_isAtEnd, .instanceMethod yX5_isAtEnd, .selects RX5 yX5_isAtEnd yX5_isAtEnd, .code yX5_isAtEnd cX5_isAtEnd 1 (some .boolean), .fieldLink RX5 15 "LayerMoisture$Text" "length" "I"] ++ wsX50)
def wsX5_isAtDigit : List Cond := .code yX5_isAtDigit cX5_isAtDigit 1 (some .boolean) :: ([.methodLink RX5 26 yX5_next, .instanceMethod yX5_next, .selects RX5 yX5_next yX5_next, .initialized RX5, .code yX5_next cX5_next 1 (some .char), .fieldLink RX5 11 "LayerMoisture$Text" "units" "[C", .fieldLink RX5 19 "LayerMoisture$Text" "place" "I", .methodLink RX5 22 yX5_isAtEnd, .instanceMethod yX5_isAtEnd, .selects RX5 yX5_isAtEnd yX5_isAtEnd, .code yX5_isAtEnd cX5_isAtEnd 1 (some .boolean), .fieldLink RX5 15 "LayerMoisture$Text" "length" "I"] ++ wsX50)
def wsX5_readNumber : List Cond := .code yX5_readNumber cX5_readNumber 6 (some .int) :: ([.fieldLink RX5 19 "LayerMoisture$Text" "place" "I", .methodLink RX5 30 yX5_isAtDigit, .instanceMethod yX5_isAtDigit, .selects RX5 yX5_isAtDigit yX5_isAtDigit, .initialized RX5, .code yX5_isAtDigit cX5_isAtDigit 1 (some .boolean), .methodLink RX5 26 yX5_next, .instanceMethod yX5_next, .selects RX5 yX5_next yX5_next, .code yX5_next cX5_next 1 (some .char), .fieldLink RX5 11 "LayerMoisture$Text" "units" "[C", .methodLink RX5 22 yX5_isAtEnd, .instanceMethod yX5_isAtEnd, .selects RX5 yX5_isAtEnd yX5_isAtEnd, .code yX5_isAtEnd cX5_isAtEnd 1 (some .boolean), .fieldLink RX5 15 "LayerMoisture$Text" "length" "I"] ++ wsX50)
def wsX4_readStep_r1 : List Cond := [Cond.fieldLink RX4 11 "LayerMoisture$Plan" "byHours" "[Z", Cond.fieldLink RX4 15 "LayerMoisture$Plan" "times" "[I", Cond.fieldLink RX4 19 "LayerMoisture$Plan" "kelvins" "[I", Cond.fieldLink RX4 22 "LayerMoisture$Plan" "damps" "[I", Cond.methodLink RX4 56 yX5_next, Cond.instanceMethod yX5_next, Cond.selects RX5 yX5_next yX5_next, Cond.initialized RX5, Cond.code yX5_next cX5_next 1 (some .char), Cond.fieldLink RX5 11 "LayerMoisture$Text" "units" "[C", Cond.fieldLink RX5 19 "LayerMoisture$Text" "place" "I", Cond.methodLink RX5 22 yX5_isAtEnd, Cond.instanceMethod yX5_isAtEnd, Cond.selects RX5 yX5_isAtEnd yX5_isAtEnd, Cond.code yX5_isAtEnd cX5_isAtEnd 1 (some .boolean), Cond.fieldLink RX5 15 "LayerMoisture$Text" "length" "I", Cond.methodLink RX4 44 yX5_pass, Cond.instanceMethod yX5_pass, Cond.selects RX5 yX5_pass yX5_pass, Cond.code yX5_pass cX5_pass 2 (some .boolean), Cond.methodLink RX5 26 yX5_next, Cond.methodLink RX4 60 yX5_readNumber, Cond.instanceMethod yX5_readNumber, Cond.selects RX5 yX5_readNumber yX5_readNumber]
def wsX4_readStep_r2 : List Cond := [Cond.code yX5_readNumber cX5_readNumber 6 (some .int), Cond.methodLink RX5 30 yX5_isAtDigit, Cond.instanceMethod yX5_isAtDigit, Cond.selects RX5 yX5_isAtDigit yX5_isAtDigit, Cond.code yX5_isAtDigit cX5_isAtDigit 1 (some .boolean)]
def wsX4_readStep : List Cond := .code yX4_readStep cX4_readStep 3 (some .boolean) :: ((wsX4_readStep_r1 ++ wsX4_readStep_r2) ++ wsX40 ++ wsX50)
def wsX4_readSteps_r1 : List Cond := [Cond.methodLink RX4 44 yX5_pass, Cond.instanceMethod yX5_pass, Cond.selects RX5 yX5_pass yX5_pass, Cond.initialized RX5, Cond.code yX5_pass cX5_pass 2 (some .boolean), Cond.fieldLink RX5 19 "LayerMoisture$Text" "place" "I", Cond.methodLink RX5 26 yX5_next, Cond.instanceMethod yX5_next, Cond.selects RX5 yX5_next yX5_next, Cond.code yX5_next cX5_next 1 (some .char), Cond.fieldLink RX5 11 "LayerMoisture$Text" "units" "[C", Cond.methodLink RX5 22 yX5_isAtEnd, Cond.instanceMethod yX5_isAtEnd, Cond.selects RX5 yX5_isAtEnd yX5_isAtEnd, Cond.code yX5_isAtEnd cX5_isAtEnd 1 (some .boolean), Cond.fieldLink RX5 15 "LayerMoisture$Text" "length" "I", Cond.methodLink RX4 48 yX4_readStep, Cond.instanceMethod yX4_readStep, Cond.selects RX4 yX4_readStep yX4_readStep, Cond.initialized RX4, Cond.code yX4_readStep cX4_readStep 3 (some .boolean), Cond.fieldLink RX4 11 "LayerMoisture$Plan" "byHours" "[Z", Cond.fieldLink RX4 15 "LayerMoisture$Plan" "times" "[I", Cond.fieldLink RX4 19 "LayerMoisture$Plan" "kelvins" "[I"]
def wsX4_readSteps_r2 : List Cond := [Cond.fieldLink RX4 22 "LayerMoisture$Plan" "damps" "[I", Cond.methodLink RX4 56 yX5_next, Cond.methodLink RX4 60 yX5_readNumber, Cond.instanceMethod yX5_readNumber, Cond.selects RX5 yX5_readNumber yX5_readNumber, Cond.code yX5_readNumber cX5_readNumber 6 (some .int), Cond.methodLink RX5 30 yX5_isAtDigit, Cond.instanceMethod yX5_isAtDigit, Cond.selects RX5 yX5_isAtDigit yX5_isAtDigit, Cond.code yX5_isAtDigit cX5_isAtDigit 1 (some .boolean), Cond.methodLink RX4 52 yX5_isAtEnd]
def wsX4_readSteps : List Cond := .code yX4_readSteps cX4_readSteps 3 (some .int) :: ((wsX4_readSteps_r1 ++ wsX4_readSteps_r2) ++ wsX50 ++ wsX40)
def wsX5_empty : List Cond := .code yX5_empty cX5_empty 1 none :: ([.fieldLink RX5 15 "LayerMoisture$Text" "length" "I", .fieldLink RX5 19 "LayerMoisture$Text" "place" "I"] ++ wsX50)
def wsX4_readFrom_r1 : List Cond := [Cond.fieldLink RX4 29 "LayerMoisture$Text" "place" "I", Cond.fieldLink RX4 35 "LayerMoisture$Plan" "steps" "I", Cond.fieldLink RX4 38 "LayerMoisture$Plan" "done" "I", Cond.methodLink RX4 25 yX4_readSteps, Cond.instanceMethod yX4_readSteps, Cond.selects RX4 yX4_readSteps yX4_readSteps, Cond.initialized RX4, Cond.code yX4_readSteps cX4_readSteps 3 (some .int), Cond.methodLink RX4 44 yX5_pass, Cond.instanceMethod yX5_pass, Cond.selects RX5 yX5_pass yX5_pass, Cond.initialized RX5, Cond.code yX5_pass cX5_pass 2 (some .boolean), Cond.fieldLink RX5 19 "LayerMoisture$Text" "place" "I", Cond.methodLink RX5 26 yX5_next, Cond.instanceMethod yX5_next, Cond.selects RX5 yX5_next yX5_next, Cond.code yX5_next cX5_next 1 (some .char), Cond.fieldLink RX5 11 "LayerMoisture$Text" "units" "[C", Cond.methodLink RX5 22 yX5_isAtEnd, Cond.instanceMethod yX5_isAtEnd, Cond.selects RX5 yX5_isAtEnd yX5_isAtEnd, Cond.code yX5_isAtEnd cX5_isAtEnd 1 (some .boolean), Cond.fieldLink RX5 15 "LayerMoisture$Text" "length" "I"]
def wsX4_readFrom_r2 : List Cond := [Cond.methodLink RX4 48 yX4_readStep, Cond.instanceMethod yX4_readStep, Cond.selects RX4 yX4_readStep yX4_readStep, Cond.code yX4_readStep cX4_readStep 3 (some .boolean), Cond.fieldLink RX4 11 "LayerMoisture$Plan" "byHours" "[Z", Cond.fieldLink RX4 15 "LayerMoisture$Plan" "times" "[I", Cond.fieldLink RX4 19 "LayerMoisture$Plan" "kelvins" "[I", Cond.fieldLink RX4 22 "LayerMoisture$Plan" "damps" "[I", Cond.methodLink RX4 56 yX5_next, Cond.methodLink RX4 60 yX5_readNumber, Cond.instanceMethod yX5_readNumber, Cond.selects RX5 yX5_readNumber yX5_readNumber, Cond.code yX5_readNumber cX5_readNumber 6 (some .int), Cond.methodLink RX5 30 yX5_isAtDigit, Cond.instanceMethod yX5_isAtDigit, Cond.selects RX5 yX5_isAtDigit yX5_isAtDigit, Cond.code yX5_isAtDigit cX5_isAtDigit 1 (some .boolean), Cond.methodLink RX4 52 yX5_isAtEnd, Cond.methodLink RX4 41 yX5_empty, Cond.instanceMethod yX5_empty, Cond.selects RX5 yX5_empty yX5_empty, Cond.code yX5_empty cX5_empty 1 none]
def wsX4_readFrom : List Cond := .code yX4_readFrom cX4_readFrom 4 (some .int) :: ((wsX4_readFrom_r1 ++ wsX4_readFrom_r2) ++ wsX50 ++ wsX40)
def wsX5_init : List Cond := .code yX5_init cX5_init 1 none :: ([.methodLink RX5 3 objectInit, .instanceMethod objectInit, .code objectInit ⟨#[0xb1]⟩ 1 none, .arrayClass .char, .fieldLink RX5 11 "LayerMoisture$Text" "units" "[C"] ++ wsX50)
def wsX5_append : List Cond := .code yX5_append cX5_append 2 (some .boolean) :: ([.fieldLink RX5 15 "LayerMoisture$Text" "length" "I", .fieldLink RX5 11 "LayerMoisture$Text" "units" "[C"] ++ wsX50)
def wsX6_init_r1 : List Cond := [Cond.methodLink RX6 1 objectInit, Cond.instanceMethod objectInit, Cond.code objectInit ⟨#[0xb1]⟩ 1 none, Cond.methodLink RX6 9 Lib.Math.min.name, Cond.static Lib.Math.min.name, Cond.initialized "java/lang/Math", Cond.code Lib.Math.min.name Lib.Math.min.code 2 (some .int), Cond.methodLink RX6 15 Lib.Math.max.name, Cond.static Lib.Math.max.name, Cond.code Lib.Math.max.name Lib.Math.max.code 2 (some .int), Cond.fieldLink RX6 18 "LayerMoisture" "layerCount" "I", Cond.classLink RX6 22 RX2, Cond.fieldLink RX6 24 "LayerMoisture" "kinds" "[LLayerMoisture$Kind;", Cond.instantiable RX2 2, Cond.initialized RX2, Cond.classLink RX6 29 RX1, Cond.fieldLink RX6 31 "LayerMoisture" "boards" "[LLayerMoisture$Board;", Cond.instantiable RX1 7, Cond.initialized RX1, Cond.classLink RX6 38 RX0, Cond.instantiable RX0 4, Cond.initialized RX0, Cond.fieldLink RX6 41 "LayerMoisture" "state" "LLayerMoisture$Air;", Cond.classLink RX6 45 RX3]
def wsX6_init_r2 : List Cond := [Cond.instantiable RX3 2, Cond.initialized RX3, Cond.fieldLink RX6 48 "LayerMoisture" "ledger" "LLayerMoisture$Ledger;", Cond.classLink RX6 52 RX5, Cond.instantiable RX5 3, Cond.initialized RX5, Cond.fieldLink RX6 55 "LayerMoisture" "text" "LLayerMoisture$Text;", Cond.classLink RX6 59 RX4, Cond.instantiable RX4 6, Cond.initialized RX4, Cond.fieldLink RX6 62 "LayerMoisture" "plan" "LLayerMoisture$Plan;", Cond.instanceMethod yX2_init, Cond.code yX2_init cX2_init 1 none, Cond.methodLink RX2 1 objectInit, Cond.methodLink RX6 35 yX1_init, Cond.instanceMethod yX1_init, Cond.code yX1_init cX1_init 3 none, Cond.methodLink RX1 3 objectInit, Cond.arrayClass .double, Cond.fieldLink RX1 9 "LayerMoisture$Board" "wetness" "[D", Cond.fieldLink RX1 15 "LayerMoisture$Board" "kind" "LLayerMoisture$Kind;", Cond.instanceMethod yX0_init, Cond.code yX0_init cX0_init 1 none, Cond.methodLink RX0 1 objectInit]
def wsX6_init_r3 : List Cond := [Cond.constantDouble RX0 7 (4643862126702624768), Cond.fieldLink RX0 9 "LayerMoisture$Air" "kelvin" "D", Cond.constantDouble RX0 15 (4602678819172646912), Cond.fieldLink RX0 17 "LayerMoisture$Air" "damp" "D", Cond.fieldLink RX0 20 "LayerMoisture$Air" "speed" "D", Cond.fieldLink RX0 23 "LayerMoisture$Air" "ventShare" "D", Cond.instanceMethod yX3_init, Cond.code yX3_init cX3_init 1 none, Cond.methodLink RX3 1 objectInit, Cond.instanceMethod yX5_init, Cond.code yX5_init cX5_init 1 none, Cond.methodLink RX5 3 objectInit, Cond.arrayClass .char, Cond.fieldLink RX5 11 "LayerMoisture$Text" "units" "[C", Cond.instanceMethod yX4_init, Cond.code yX4_init cX4_init 1 none, Cond.methodLink RX4 3 objectInit, Cond.arrayClass .boolean, Cond.fieldLink RX4 11 "LayerMoisture$Plan" "byHours" "[Z", Cond.arrayClass .int, Cond.fieldLink RX4 15 "LayerMoisture$Plan" "times" "[I", Cond.fieldLink RX4 19 "LayerMoisture$Plan" "kelvins" "[I", Cond.fieldLink RX4 22 "LayerMoisture$Plan" "damps" "[I"]
def wsX6_init : List Cond := .code yX6_init cX6_init 4 none :: ((wsX6_init_r1 ++ (wsX6_init_r2 ++ wsX6_init_r3)) ++ wsX60 ++ wsX20 ++ wsX10 ++ wsX00 ++ wsX30 ++ wsX50 ++ wsX40)
def wsX6_slotOf : List Cond := .code yX6_slotOf cX6_slotOf 2 (some (.object "LayerMoisture$Board")) :: ([.fieldLink RX6 31 "LayerMoisture" "boards" "[LLayerMoisture$Board;", .classLink RX6 177 RJx00060, .instantiable RJx00060 6, .initialized RJx00060] ++ wsX60 ++ wsJx000600)
def wsX6_kindOf : List Cond := .code yX6_kindOf cX6_kindOf 2 (some (.object "LayerMoisture$Kind")) :: ([.fieldLink RX6 24 "LayerMoisture" "kinds" "[LLayerMoisture$Kind;", .classLink RX6 177 RJx00060, .instantiable RJx00060 6, .initialized RJx00060] ++ wsX60 ++ wsJx000600)
def wsX6_requireWithin : List Cond := .code yX6_requireWithin cX6_requireWithin 6 none :: ([.classLink RX6 131 "java/lang/IllegalArgumentException", .initialized "java/lang/IllegalArgumentException"] ++ (vx_atS RX6 135 "java/lang/IllegalArgumentException" ["java/lang/RuntimeException", "java/lang/Exception"]).filter goodWord)
def wsX6_board_r1 : List Cond := [Cond.constantDouble RX6 74 (4645744490609377280), Cond.constantDouble RX6 80 (4613937818241073152), Cond.methodLink RX6 66 yX6_slotOf, Cond.instanceMethod yX6_slotOf, Cond.selects RX6 yX6_slotOf yX6_slotOf, Cond.initialized RX6, Cond.code yX6_slotOf cX6_slotOf 2 (some (.object "LayerMoisture$Board")), Cond.fieldLink RX6 31 "LayerMoisture" "boards" "[LLayerMoisture$Board;", Cond.classLink RX6 177 RJx00060, Cond.instantiable RJx00060 6, Cond.initialized RJx00060, Cond.methodLink RX6 70 yX6_kindOf, Cond.instanceMethod yX6_kindOf, Cond.selects RX6 yX6_kindOf yX6_kindOf, Cond.code yX6_kindOf cX6_kindOf 2 (some (.object "LayerMoisture$Kind")), Cond.fieldLink RX6 24 "LayerMoisture" "kinds" "[LLayerMoisture$Kind;", Cond.methodLink RX6 76 yX6_requireWithin, Cond.static yX6_requireWithin, Cond.code yX6_requireWithin cX6_requireWithin 6 none, Cond.classLink RX6 131 "java/lang/IllegalArgumentException", Cond.initialized "java/lang/IllegalArgumentException", Cond.methodLink RX6 82 yX1_lay, Cond.instanceMethod yX1_lay, Cond.selects RX1 yX1_lay yX1_lay]
def wsX6_board_r2 : List Cond := [Cond.initialized RX1, Cond.code yX1_lay cX1_lay 7 none, Cond.fieldLink RX1 19 "LayerMoisture$Board" "there" "Z", Cond.fieldLink RX1 9 "LayerMoisture$Board" "wetness" "[D", Cond.fieldLink RX1 23 "LayerMoisture$Board" "depth" "D", Cond.fieldLink RX1 15 "LayerMoisture$Board" "kind" "LLayerMoisture$Kind;", Cond.fieldLink RX1 27 "LayerMoisture$Board" "limited" "Z", Cond.fieldLink RX1 30 "LayerMoisture$Board" "keptHour" "I"]
def wsX6_board : List Cond := .code yX6_board cX6_board 9 none :: ((wsX6_board_r1 ++ wsX6_board_r2) ++ wsX60 ++ wsJx000600 ++ wsX10 ++ (vx_atS RX6 135 "java/lang/IllegalArgumentException" ["java/lang/RuntimeException", "java/lang/Exception"]).filter goodWord)
def wsX6_rate : List Cond := .code yX6_rate cX6_rate 7 none :: ([.constantDouble RX6 86 (4620693217682128896), .fieldLink RX6 88 "LayerMoisture$Kind" "a" "D", .fieldLink RX6 92 "LayerMoisture$Kind" "b" "D", .methodLink RX6 70 yX6_kindOf, .instanceMethod yX6_kindOf, .selects RX6 yX6_kindOf yX6_kindOf, .initialized RX6, .code yX6_kindOf cX6_kindOf 2 (some (.object "LayerMoisture$Kind")), .fieldLink RX6 24 "LayerMoisture" "kinds" "[LLayerMoisture$Kind;", .classLink RX6 177 RJx00060, .instantiable RJx00060 6, .initialized RJx00060, .methodLink RX6 76 yX6_requireWithin, .static yX6_requireWithin, .code yX6_requireWithin cX6_requireWithin 6 none, .classLink RX6 131 "java/lang/IllegalArgumentException", .initialized "java/lang/IllegalArgumentException"] ++ wsX20 ++ wsX60 ++ wsJx000600 ++ (vx_atS RX6 135 "java/lang/IllegalArgumentException" ["java/lang/RuntimeException", "java/lang/Exception"]).filter goodWord)
def wsX6_air : List Cond := .code yX6_air cX6_air 7 none :: ([.constantDouble RX6 95 (4643000109586448384), .constantDouble RX6 74 (4645744490609377280), .constantDouble RX6 97 (4625196817309499392), .fieldLink RX6 41 "LayerMoisture" "state" "LLayerMoisture$Air;", .fieldLink RX6 99 "LayerMoisture$Air" "kelvin" "D", .fieldLink RX6 102 "LayerMoisture$Air" "damp" "D", .fieldLink RX6 105 "LayerMoisture$Air" "speed" "D", .methodLink RX6 76 yX6_requireWithin, .static yX6_requireWithin, .initialized RX6, .code yX6_requireWithin cX6_requireWithin 6 none, .classLink RX6 131 "java/lang/IllegalArgumentException", .initialized "java/lang/IllegalArgumentException"] ++ wsX60 ++ wsX00 ++ (vx_atS RX6 135 "java/lang/IllegalArgumentException" ["java/lang/RuntimeException", "java/lang/Exception"]).filter goodWord)
def wsX6_vent : List Cond := .code yX6_vent cX6_vent 3 none :: ([.fieldLink RX6 41 "LayerMoisture" "state" "LLayerMoisture$Air;", .fieldLink RX6 108 "LayerMoisture$Air" "ventShare" "D", .methodLink RX6 76 yX6_requireWithin, .static yX6_requireWithin, .initialized RX6, .code yX6_requireWithin cX6_requireWithin 6 none, .classLink RX6 131 "java/lang/IllegalArgumentException", .initialized "java/lang/IllegalArgumentException"] ++ wsX60 ++ wsX00 ++ (vx_atS RX6 135 "java/lang/IllegalArgumentException" ["java/lang/RuntimeException", "java/lang/Exception"]).filter goodWord)
def wsX6_requireLayer : List Cond := .code yX6_requireLayer cX6_requireLayer 2 none :: ([.fieldLink RX6 18 "LayerMoisture" "layerCount" "I", .classLink RX6 177 RJx00060, .instantiable RJx00060 6, .initialized RJx00060] ++ wsX60 ++ wsJx000600)
def wsX6_requireThere : List Cond := .code yX6_requireThere cX6_requireThere 1 none :: ([.classLink RX6 205 "java/lang/IllegalStateException", .initialized "java/lang/IllegalStateException", .fieldLink RX6 201 "LayerMoisture$Board" "there" "Z"] ++ wsX10 ++ (vx_atS RX6 209 "java/lang/IllegalStateException" ["java/lang/RuntimeException", "java/lang/Exception"]).filter goodWord)
def wsX6_soak_r1 : List Cond := [Cond.constantDouble RX6 80 (4613937818241073152), Cond.fieldLink RX6 119 "LayerMoisture$Board" "wetness" "[D", Cond.methodLink RX6 66 yX6_slotOf, Cond.instanceMethod yX6_slotOf, Cond.selects RX6 yX6_slotOf yX6_slotOf, Cond.initialized RX6, Cond.code yX6_slotOf cX6_slotOf 2 (some (.object "LayerMoisture$Board")), Cond.fieldLink RX6 31 "LayerMoisture" "boards" "[LLayerMoisture$Board;", Cond.classLink RX6 177 RJx00060, Cond.instantiable RJx00060 6, Cond.initialized RJx00060, Cond.methodLink RX6 111 yX6_requireLayer, Cond.instanceMethod yX6_requireLayer, Cond.selects RX6 yX6_requireLayer yX6_requireLayer, Cond.code yX6_requireLayer cX6_requireLayer 2 none, Cond.fieldLink RX6 18 "LayerMoisture" "layerCount" "I", Cond.methodLink RX6 76 yX6_requireWithin, Cond.static yX6_requireWithin, Cond.code yX6_requireWithin cX6_requireWithin 6 none, Cond.classLink RX6 131 "java/lang/IllegalArgumentException", Cond.initialized "java/lang/IllegalArgumentException", Cond.methodLink RX6 115 yX6_requireThere, Cond.static yX6_requireThere, Cond.code yX6_requireThere cX6_requireThere 1 none]
def wsX6_soak_r2 : List Cond := [Cond.classLink RX6 205 "java/lang/IllegalStateException", Cond.initialized "java/lang/IllegalStateException", Cond.fieldLink RX6 201 "LayerMoisture$Board" "there" "Z"]
def wsX6_soak : List Cond := .code yX6_soak cX6_soak 6 none :: ((wsX6_soak_r1 ++ wsX6_soak_r2) ++ wsX10 ++ wsX60 ++ wsJx000600 ++ (vx_atS RX6 135 "java/lang/IllegalArgumentException" ["java/lang/RuntimeException", "java/lang/Exception"]).filter goodWord ++ (vx_atS RX6 209 "java/lang/IllegalStateException" ["java/lang/RuntimeException", "java/lang/Exception"]).filter goodWord)
def wsX6_unit : List Cond := .code yX6_unit cX6_unit 2 (some .boolean) :: ([.fieldLink RX6 55 "LayerMoisture" "text" "LLayerMoisture$Text;", .methodLink RX6 123 yX5_append, .instanceMethod yX5_append, .selects RX5 yX5_append yX5_append, .initialized RX5, .code yX5_append cX5_append 2 (some .boolean), .fieldLink RX5 15 "LayerMoisture$Text" "length" "I", .fieldLink RX5 11 "LayerMoisture$Text" "units" "[C"] ++ wsX60 ++ wsX50)
def wsX6_schedule_r1 : List Cond := [Cond.fieldLink RX6 62 "LayerMoisture" "plan" "LLayerMoisture$Plan;", Cond.fieldLink RX6 55 "LayerMoisture" "text" "LLayerMoisture$Text;", Cond.methodLink RX6 127 yX4_readFrom, Cond.instanceMethod yX4_readFrom, Cond.selects RX4 yX4_readFrom yX4_readFrom, Cond.initialized RX4, Cond.code yX4_readFrom cX4_readFrom 4 (some .int), Cond.fieldLink RX4 29 "LayerMoisture$Text" "place" "I", Cond.fieldLink RX4 35 "LayerMoisture$Plan" "steps" "I", Cond.fieldLink RX4 38 "LayerMoisture$Plan" "done" "I", Cond.methodLink RX4 25 yX4_readSteps, Cond.instanceMethod yX4_readSteps, Cond.selects RX4 yX4_readSteps yX4_readSteps, Cond.code yX4_readSteps cX4_readSteps 3 (some .int), Cond.methodLink RX4 44 yX5_pass, Cond.instanceMethod yX5_pass, Cond.selects RX5 yX5_pass yX5_pass, Cond.initialized RX5, Cond.code yX5_pass cX5_pass 2 (some .boolean), Cond.fieldLink RX5 19 "LayerMoisture$Text" "place" "I", Cond.methodLink RX5 26 yX5_next, Cond.instanceMethod yX5_next, Cond.selects RX5 yX5_next yX5_next, Cond.code yX5_next cX5_next 1 (some .char)]
def wsX6_schedule_r2 : List Cond := [Cond.fieldLink RX5 11 "LayerMoisture$Text" "units" "[C", Cond.methodLink RX5 22 yX5_isAtEnd, Cond.instanceMethod yX5_isAtEnd, Cond.selects RX5 yX5_isAtEnd yX5_isAtEnd, Cond.code yX5_isAtEnd cX5_isAtEnd 1 (some .boolean), Cond.fieldLink RX5 15 "LayerMoisture$Text" "length" "I", Cond.methodLink RX4 48 yX4_readStep, Cond.instanceMethod yX4_readStep, Cond.selects RX4 yX4_readStep yX4_readStep, Cond.code yX4_readStep cX4_readStep 3 (some .boolean), Cond.fieldLink RX4 11 "LayerMoisture$Plan" "byHours" "[Z", Cond.fieldLink RX4 15 "LayerMoisture$Plan" "times" "[I", Cond.fieldLink RX4 19 "LayerMoisture$Plan" "kelvins" "[I", Cond.fieldLink RX4 22 "LayerMoisture$Plan" "damps" "[I", Cond.methodLink RX4 56 yX5_next, Cond.methodLink RX4 60 yX5_readNumber, Cond.instanceMethod yX5_readNumber, Cond.selects RX5 yX5_readNumber yX5_readNumber, Cond.code yX5_readNumber cX5_readNumber 6 (some .int), Cond.methodLink RX5 30 yX5_isAtDigit, Cond.instanceMethod yX5_isAtDigit, Cond.selects RX5 yX5_isAtDigit yX5_isAtDigit, Cond.code yX5_isAtDigit cX5_isAtDigit 1 (some .boolean), Cond.methodLink RX4 52 yX5_isAtEnd]
def wsX6_schedule_r3 : List Cond := [Cond.methodLink RX4 41 yX5_empty, Cond.instanceMethod yX5_empty, Cond.selects RX5 yX5_empty yX5_empty, Cond.code yX5_empty cX5_empty 1 none]
def wsX6_schedule : List Cond := .code yX6_schedule cX6_schedule 1 (some .int) :: ((wsX6_schedule_r1 ++ (wsX6_schedule_r2 ++ wsX6_schedule_r3)) ++ wsX60 ++ wsX50 ++ wsX40)
def wsX6_isRefused_r1 : List Cond := [Cond.fieldLink RX6 31 "LayerMoisture" "boards" "[LLayerMoisture$Board;", Cond.fieldLink RX6 201 "LayerMoisture$Board" "there" "Z", Cond.fieldLink RX6 41 "LayerMoisture" "state" "LLayerMoisture$Air;", Cond.fieldLink RX6 105 "LayerMoisture$Air" "speed" "D", Cond.methodLink RX6 212 yX1_refuses, Cond.instanceMethod yX1_refuses, Cond.selects RX1 yX1_refuses yX1_refuses, Cond.initialized RX1, Cond.code yX1_refuses cX1_refuses 3 (some .boolean), Cond.constantDouble RX1 37 (4620693217682128896), Cond.fieldLink RX1 23 "LayerMoisture$Board" "depth" "D", Cond.constantDouble RX1 39 (4598175219545276416), Cond.fieldLink RX1 15 "LayerMoisture$Board" "kind" "LLayerMoisture$Kind;", Cond.methodLink RX1 41 yX1_greatestWetness, Cond.instanceMethod yX1_greatestWetness, Cond.selects RX1 yX1_greatestWetness yX1_greatestWetness, Cond.code yX1_greatestWetness cX1_greatestWetness 4 (some .double), Cond.fieldLink RX1 9 "LayerMoisture$Board" "wetness" "[D", Cond.methodLink RX1 45 yX2_speedAt, Cond.instanceMethod yX2_speedAt, Cond.selects RX2 yX2_speedAt yX2_speedAt, Cond.initialized RX2, Cond.code yX2_speedAt cX2_speedAt 3 (some .double), Cond.fieldLink RX2 7 "LayerMoisture$Kind" "a" "D"]
def wsX6_isRefused_r2 : List Cond := [Cond.fieldLink RX2 13 "LayerMoisture$Kind" "b" "D"]
def wsX6_isRefused : List Cond := .code yX6_isRefused cX6_isRefused 2 (some .boolean) :: ((wsX6_isRefused_r1 ++ wsX6_isRefused_r2) ++ wsX60 ++ wsX10 ++ wsX00 ++ wsX20)
def wsX6_boardsThere : List Cond := .code yX6_boardsThere cX6_boardsThere 3 (some .int) :: ([.fieldLink RX6 31 "LayerMoisture" "boards" "[LLayerMoisture$Board;", .fieldLink RX6 201 "LayerMoisture$Board" "there" "Z"] ++ wsX60 ++ wsX10)
def wsX6_isAnyWetterThan : List Cond := .code yX6_isAnyWetterThan cX6_isAnyWetterThan 4 (some .boolean) :: ([.fieldLink RX6 31 "LayerMoisture" "boards" "[LLayerMoisture$Board;", .fieldLink RX6 201 "LayerMoisture$Board" "there" "Z", .methodLink RX6 160 yX1_meanWetness, .instanceMethod yX1_meanWetness, .selects RX1 yX1_meanWetness yX1_meanWetness, .initialized RX1, .code yX1_meanWetness cX1_meanWetness 4 (some .double), .fieldLink RX1 9 "LayerMoisture$Board" "wetness" "[D"] ++ wsX60 ++ wsX10)
def wsX6_isStepDue : List Cond := .code yX6_isStepDue cX6_isStepDue 2 (some .boolean) :: ([.fieldLink RX6 62 "LayerMoisture" "plan" "LLayerMoisture$Plan;", .fieldLink RX6 247 "LayerMoisture$Plan" "byHours" "[Z", .fieldLink RX6 142 "LayerMoisture" "hoursPassed" "I", .fieldLink RX6 251 "LayerMoisture$Plan" "times" "[I", .constantDouble RX6 245 (4636737291354636288), .methodLink RX6 189 yX6_boardsThere, .instanceMethod yX6_boardsThere, .selects RX6 yX6_boardsThere yX6_boardsThere, .initialized RX6, .code yX6_boardsThere cX6_boardsThere 3 (some .int), .fieldLink RX6 31 "LayerMoisture" "boards" "[LLayerMoisture$Board;", .fieldLink RX6 201 "LayerMoisture$Board" "there" "Z", .methodLink RX6 254 yX6_isAnyWetterThan, .instanceMethod yX6_isAnyWetterThan, .selects RX6 yX6_isAnyWetterThan yX6_isAnyWetterThan, .code yX6_isAnyWetterThan cX6_isAnyWetterThan 4 (some .boolean), .methodLink RX6 160 yX1_meanWetness, .instanceMethod yX1_meanWetness, .selects RX1 yX1_meanWetness yX1_meanWetness, .initialized RX1, .code yX1_meanWetness cX1_meanWetness 4 (some .double), .fieldLink RX1 9 "LayerMoisture$Board" "wetness" "[D"] ++ wsX60 ++ wsX40 ++ wsX10)
def wsX6_followPlan_r1 : List Cond := [Cond.fieldLink RX6 62 "LayerMoisture" "plan" "LLayerMoisture$Plan;", Cond.fieldLink RX6 186 "LayerMoisture$Plan" "done" "I", Cond.fieldLink RX6 232 "LayerMoisture$Plan" "steps" "I", Cond.fieldLink RX6 41 "LayerMoisture" "state" "LLayerMoisture$Air;", Cond.fieldLink RX6 238 "LayerMoisture$Plan" "kelvins" "[I", Cond.fieldLink RX6 99 "LayerMoisture$Air" "kelvin" "D", Cond.fieldLink RX6 242 "LayerMoisture$Plan" "damps" "[I", Cond.constantDouble RX6 245 (4636737291354636288), Cond.fieldLink RX6 102 "LayerMoisture$Air" "damp" "D", Cond.methodLink RX6 235 yX6_isStepDue, Cond.instanceMethod yX6_isStepDue, Cond.selects RX6 yX6_isStepDue yX6_isStepDue, Cond.initialized RX6, Cond.code yX6_isStepDue cX6_isStepDue 2 (some .boolean), Cond.fieldLink RX6 247 "LayerMoisture$Plan" "byHours" "[Z", Cond.fieldLink RX6 142 "LayerMoisture" "hoursPassed" "I", Cond.fieldLink RX6 251 "LayerMoisture$Plan" "times" "[I", Cond.methodLink RX6 189 yX6_boardsThere, Cond.instanceMethod yX6_boardsThere, Cond.selects RX6 yX6_boardsThere yX6_boardsThere, Cond.code yX6_boardsThere cX6_boardsThere 3 (some .int), Cond.fieldLink RX6 31 "LayerMoisture" "boards" "[LLayerMoisture$Board;", Cond.fieldLink RX6 201 "LayerMoisture$Board" "there" "Z", Cond.methodLink RX6 254 yX6_isAnyWetterThan]
def wsX6_followPlan_r2 : List Cond := [Cond.instanceMethod yX6_isAnyWetterThan, Cond.selects RX6 yX6_isAnyWetterThan yX6_isAnyWetterThan, Cond.code yX6_isAnyWetterThan cX6_isAnyWetterThan 4 (some .boolean), Cond.methodLink RX6 160 yX1_meanWetness, Cond.instanceMethod yX1_meanWetness, Cond.selects RX1 yX1_meanWetness yX1_meanWetness, Cond.initialized RX1, Cond.code yX1_meanWetness cX1_meanWetness 4 (some .double), Cond.fieldLink RX1 9 "LayerMoisture$Board" "wetness" "[D"]
def wsX6_followPlan : List Cond := .code yX6_followPlan cX6_followPlan 1 none :: ((wsX6_followPlan_r1 ++ wsX6_followPlan_r2) ++ wsX60 ++ wsX40 ++ wsX00 ++ wsX10)
def wsX6_passHour_r1 : List Cond := [Cond.fieldLink RX6 31 "LayerMoisture" "boards" "[LLayerMoisture$Board;", Cond.fieldLink RX6 201 "LayerMoisture$Board" "there" "Z", Cond.fieldLink RX6 41 "LayerMoisture" "state" "LLayerMoisture$Air;", Cond.fieldLink RX6 105 "LayerMoisture$Air" "speed" "D", Cond.fieldLink RX6 48 "LayerMoisture" "ledger" "LLayerMoisture$Ledger;", Cond.fieldLink RX6 142 "LayerMoisture" "hoursPassed" "I", Cond.methodLink RX6 216 yX6_followPlan, Cond.instanceMethod yX6_followPlan, Cond.selects RX6 yX6_followPlan yX6_followPlan, Cond.initialized RX6, Cond.code yX6_followPlan cX6_followPlan 1 none, Cond.fieldLink RX6 62 "LayerMoisture" "plan" "LLayerMoisture$Plan;", Cond.fieldLink RX6 186 "LayerMoisture$Plan" "done" "I", Cond.fieldLink RX6 232 "LayerMoisture$Plan" "steps" "I", Cond.fieldLink RX6 238 "LayerMoisture$Plan" "kelvins" "[I", Cond.fieldLink RX6 99 "LayerMoisture$Air" "kelvin" "D", Cond.fieldLink RX6 242 "LayerMoisture$Plan" "damps" "[I", Cond.constantDouble RX6 245 (4636737291354636288), Cond.fieldLink RX6 102 "LayerMoisture$Air" "damp" "D", Cond.methodLink RX6 235 yX6_isStepDue, Cond.instanceMethod yX6_isStepDue, Cond.selects RX6 yX6_isStepDue yX6_isStepDue, Cond.code yX6_isStepDue cX6_isStepDue 2 (some .boolean), Cond.fieldLink RX6 247 "LayerMoisture$Plan" "byHours" "[Z"]
def wsX6_passHour_r2 : List Cond := [Cond.fieldLink RX6 251 "LayerMoisture$Plan" "times" "[I", Cond.methodLink RX6 189 yX6_boardsThere, Cond.instanceMethod yX6_boardsThere, Cond.selects RX6 yX6_boardsThere yX6_boardsThere, Cond.code yX6_boardsThere cX6_boardsThere 3 (some .int), Cond.methodLink RX6 254 yX6_isAnyWetterThan, Cond.instanceMethod yX6_isAnyWetterThan, Cond.selects RX6 yX6_isAnyWetterThan yX6_isAnyWetterThan, Cond.code yX6_isAnyWetterThan cX6_isAnyWetterThan 4 (some .boolean), Cond.methodLink RX6 160 yX1_meanWetness, Cond.instanceMethod yX1_meanWetness, Cond.selects RX1 yX1_meanWetness yX1_meanWetness, Cond.initialized RX1, Cond.code yX1_meanWetness cX1_meanWetness 4 (some .double), Cond.fieldLink RX1 9 "LayerMoisture$Board" "wetness" "[D", Cond.methodLink RX6 171 yX0_balanceNow, Cond.instanceMethod yX0_balanceNow, Cond.selects RX0 yX0_balanceNow yX0_balanceNow, Cond.initialized RX0, Cond.code yX0_balanceNow cX0_balanceNow 1 (some .double), Cond.constantDouble RX0 26 (4600427019358961664), Cond.fieldLink RX0 17 "LayerMoisture$Air" "damp" "D", Cond.fieldLink RX0 9 "LayerMoisture$Air" "kelvin" "D", Cond.constantDouble RX0 28 (4643510282981736448)]
def wsX6_passHour_r3 : List Cond := [Cond.constantDouble RX0 30 (4643211215818981376), Cond.methodLink RX6 219 yX1_dry, Cond.instanceMethod yX1_dry, Cond.selects RX1 yX1_dry yX1_dry, Cond.code yX1_dry cX1_dry 15 (some .double), Cond.fieldLink RX1 23 "LayerMoisture$Board" "depth" "D", Cond.constantDouble RX1 59 (4634204016564240384), Cond.methodLink RX1 51 yX1_faceFlow, Cond.instanceMethod yX1_faceFlow, Cond.selects RX1 yX1_faceFlow yX1_faceFlow, Cond.code yX1_faceFlow cX1_faceFlow 7 (some .double), Cond.constantDouble RX1 37 (4620693217682128896), Cond.methodLink RX1 55 yX1_slopeFlow, Cond.instanceMethod yX1_slopeFlow, Cond.selects RX1 yX1_slopeFlow yX1_slopeFlow, Cond.code yX1_slopeFlow cX1_slopeFlow 5 (some .double), Cond.fieldLink RX1 15 "LayerMoisture$Board" "kind" "LLayerMoisture$Kind;", Cond.constantDouble RX1 61 (4611686018427387904), Cond.methodLink RX1 45 yX2_speedAt, Cond.instanceMethod yX2_speedAt, Cond.selects RX2 yX2_speedAt yX2_speedAt, Cond.initialized RX2, Cond.code yX2_speedAt cX2_speedAt 3 (some .double), Cond.fieldLink RX2 7 "LayerMoisture$Kind" "a" "D"]
def wsX6_passHour_r4 : List Cond := [Cond.fieldLink RX2 13 "LayerMoisture$Kind" "b" "D", Cond.methodLink RX6 223 yX3_take, Cond.instanceMethod yX3_take, Cond.selects RX3 yX3_take yX3_take, Cond.initialized RX3, Cond.code yX3_take cX3_take 5 none, Cond.fieldLink RX3 7 "LayerMoisture$Ledger" "rest" "D", Cond.fieldLink RX3 13 "LayerMoisture$Ledger" "gone" "J", Cond.methodLink RX6 226 yX0_takeUp, Cond.instanceMethod yX0_takeUp, Cond.selects RX0 yX0_takeUp yX0_takeUp, Cond.code yX0_takeUp cX0_takeUp 5 none, Cond.constantDouble RX0 32 (4679240012837945344), Cond.fieldLink RX0 23 "LayerMoisture$Air" "ventShare" "D", Cond.methodLink RX6 229 yX1_watchLoad, Cond.instanceMethod yX1_watchLoad, Cond.selects RX1 yX1_watchLoad yX1_watchLoad, Cond.code yX1_watchLoad cX1_watchLoad 2 none, Cond.fieldLink RX1 27 "LayerMoisture$Board" "limited" "Z", Cond.fieldLink RX1 30 "LayerMoisture$Board" "keptHour" "I", Cond.fieldLink RX1 34 "LayerMoisture$Board" "loadLimit" "D", Cond.methodLink RX1 71 yX1_greatestLoad, Cond.instanceMethod yX1_greatestLoad, Cond.selects RX1 yX1_greatestLoad yX1_greatestLoad]
def wsX6_passHour_r5 : List Cond := [Cond.code yX1_greatestLoad cX1_greatestLoad 10 (some .double), Cond.methodLink RX1 68 yX1_meanShrinkage, Cond.instanceMethod yX1_meanShrinkage, Cond.selects RX1 yX1_meanShrinkage yX1_meanShrinkage, Cond.code yX1_meanShrinkage cX1_meanShrinkage 4 (some .double), Cond.methodLink RX1 65 yX1_shrinkage, Cond.static yX1_shrinkage, Cond.code yX1_shrinkage cX1_shrinkage 2 (some .double), Cond.constantDouble RX1 39 (4598175219545276416), Cond.constantDouble RX1 63 (4599301119452119040)]
def wsX6_passHour : List Cond := .code yX6_passHour cX6_passHour 4 none :: ((wsX6_passHour_r1 ++ (wsX6_passHour_r2 ++ (wsX6_passHour_r3 ++ (wsX6_passHour_r4 ++ wsX6_passHour_r5)))) ++ wsX60 ++ wsX10 ++ wsX00 ++ wsX40 ++ wsX20 ++ wsX30)
def wsX6_run_r1 : List Cond := [Cond.classLink RX6 131 "java/lang/IllegalArgumentException", Cond.initialized "java/lang/IllegalArgumentException", Cond.fieldLink RX6 142 "LayerMoisture" "hoursPassed" "I", Cond.methodLink RX6 138 yX6_isRefused, Cond.instanceMethod yX6_isRefused, Cond.selects RX6 yX6_isRefused yX6_isRefused, Cond.initialized RX6, Cond.code yX6_isRefused cX6_isRefused 2 (some .boolean), Cond.fieldLink RX6 31 "LayerMoisture" "boards" "[LLayerMoisture$Board;", Cond.fieldLink RX6 201 "LayerMoisture$Board" "there" "Z", Cond.fieldLink RX6 41 "LayerMoisture" "state" "LLayerMoisture$Air;", Cond.fieldLink RX6 105 "LayerMoisture$Air" "speed" "D", Cond.methodLink RX6 212 yX1_refuses, Cond.instanceMethod yX1_refuses, Cond.selects RX1 yX1_refuses yX1_refuses, Cond.initialized RX1, Cond.code yX1_refuses cX1_refuses 3 (some .boolean), Cond.constantDouble RX1 37 (4620693217682128896), Cond.fieldLink RX1 23 "LayerMoisture$Board" "depth" "D", Cond.constantDouble RX1 39 (4598175219545276416), Cond.fieldLink RX1 15 "LayerMoisture$Board" "kind" "LLayerMoisture$Kind;", Cond.methodLink RX1 41 yX1_greatestWetness, Cond.instanceMethod yX1_greatestWetness, Cond.selects RX1 yX1_greatestWetness yX1_greatestWetness]
def wsX6_run_r2 : List Cond := [Cond.code yX1_greatestWetness cX1_greatestWetness 4 (some .double), Cond.fieldLink RX1 9 "LayerMoisture$Board" "wetness" "[D", Cond.methodLink RX1 45 yX2_speedAt, Cond.instanceMethod yX2_speedAt, Cond.selects RX2 yX2_speedAt yX2_speedAt, Cond.initialized RX2, Cond.code yX2_speedAt cX2_speedAt 3 (some .double), Cond.fieldLink RX2 7 "LayerMoisture$Kind" "a" "D", Cond.fieldLink RX2 13 "LayerMoisture$Kind" "b" "D", Cond.methodLink RX6 145 yX6_passHour, Cond.instanceMethod yX6_passHour, Cond.selects RX6 yX6_passHour yX6_passHour, Cond.code yX6_passHour cX6_passHour 4 none, Cond.fieldLink RX6 48 "LayerMoisture" "ledger" "LLayerMoisture$Ledger;", Cond.methodLink RX6 216 yX6_followPlan, Cond.instanceMethod yX6_followPlan, Cond.selects RX6 yX6_followPlan yX6_followPlan, Cond.code yX6_followPlan cX6_followPlan 1 none, Cond.fieldLink RX6 62 "LayerMoisture" "plan" "LLayerMoisture$Plan;", Cond.fieldLink RX6 186 "LayerMoisture$Plan" "done" "I", Cond.fieldLink RX6 232 "LayerMoisture$Plan" "steps" "I", Cond.fieldLink RX6 238 "LayerMoisture$Plan" "kelvins" "[I", Cond.fieldLink RX6 99 "LayerMoisture$Air" "kelvin" "D", Cond.fieldLink RX6 242 "LayerMoisture$Plan" "damps" "[I"]
def wsX6_run_r3 : List Cond := [Cond.constantDouble RX6 245 (4636737291354636288), Cond.fieldLink RX6 102 "LayerMoisture$Air" "damp" "D", Cond.methodLink RX6 235 yX6_isStepDue, Cond.instanceMethod yX6_isStepDue, Cond.selects RX6 yX6_isStepDue yX6_isStepDue, Cond.code yX6_isStepDue cX6_isStepDue 2 (some .boolean), Cond.fieldLink RX6 247 "LayerMoisture$Plan" "byHours" "[Z", Cond.fieldLink RX6 251 "LayerMoisture$Plan" "times" "[I", Cond.methodLink RX6 189 yX6_boardsThere, Cond.instanceMethod yX6_boardsThere, Cond.selects RX6 yX6_boardsThere yX6_boardsThere, Cond.code yX6_boardsThere cX6_boardsThere 3 (some .int), Cond.methodLink RX6 254 yX6_isAnyWetterThan, Cond.instanceMethod yX6_isAnyWetterThan, Cond.selects RX6 yX6_isAnyWetterThan yX6_isAnyWetterThan, Cond.code yX6_isAnyWetterThan cX6_isAnyWetterThan 4 (some .boolean), Cond.methodLink RX6 160 yX1_meanWetness, Cond.instanceMethod yX1_meanWetness, Cond.selects RX1 yX1_meanWetness yX1_meanWetness, Cond.code yX1_meanWetness cX1_meanWetness 4 (some .double), Cond.methodLink RX6 171 yX0_balanceNow, Cond.instanceMethod yX0_balanceNow, Cond.selects RX0 yX0_balanceNow yX0_balanceNow, Cond.initialized RX0]
def wsX6_run_r4 : List Cond := [Cond.code yX0_balanceNow cX0_balanceNow 1 (some .double), Cond.constantDouble RX0 26 (4600427019358961664), Cond.fieldLink RX0 17 "LayerMoisture$Air" "damp" "D", Cond.fieldLink RX0 9 "LayerMoisture$Air" "kelvin" "D", Cond.constantDouble RX0 28 (4643510282981736448), Cond.constantDouble RX0 30 (4643211215818981376), Cond.methodLink RX6 219 yX1_dry, Cond.instanceMethod yX1_dry, Cond.selects RX1 yX1_dry yX1_dry, Cond.code yX1_dry cX1_dry 15 (some .double), Cond.constantDouble RX1 59 (4634204016564240384), Cond.methodLink RX1 51 yX1_faceFlow, Cond.instanceMethod yX1_faceFlow, Cond.selects RX1 yX1_faceFlow yX1_faceFlow, Cond.code yX1_faceFlow cX1_faceFlow 7 (some .double), Cond.methodLink RX1 55 yX1_slopeFlow, Cond.instanceMethod yX1_slopeFlow, Cond.selects RX1 yX1_slopeFlow yX1_slopeFlow, Cond.code yX1_slopeFlow cX1_slopeFlow 5 (some .double), Cond.constantDouble RX1 61 (4611686018427387904), Cond.methodLink RX6 223 yX3_take, Cond.instanceMethod yX3_take, Cond.selects RX3 yX3_take yX3_take, Cond.initialized RX3]
def wsX6_run_r5 : List Cond := [Cond.code yX3_take cX3_take 5 none, Cond.fieldLink RX3 7 "LayerMoisture$Ledger" "rest" "D", Cond.fieldLink RX3 13 "LayerMoisture$Ledger" "gone" "J", Cond.methodLink RX6 226 yX0_takeUp, Cond.instanceMethod yX0_takeUp, Cond.selects RX0 yX0_takeUp yX0_takeUp, Cond.code yX0_takeUp cX0_takeUp 5 none, Cond.constantDouble RX0 32 (4679240012837945344), Cond.fieldLink RX0 23 "LayerMoisture$Air" "ventShare" "D", Cond.methodLink RX6 229 yX1_watchLoad, Cond.instanceMethod yX1_watchLoad, Cond.selects RX1 yX1_watchLoad yX1_watchLoad, Cond.code yX1_watchLoad cX1_watchLoad 2 none, Cond.fieldLink RX1 27 "LayerMoisture$Board" "limited" "Z", Cond.fieldLink RX1 30 "LayerMoisture$Board" "keptHour" "I", Cond.fieldLink RX1 34 "LayerMoisture$Board" "loadLimit" "D", Cond.methodLink RX1 71 yX1_greatestLoad, Cond.instanceMethod yX1_greatestLoad, Cond.selects RX1 yX1_greatestLoad yX1_greatestLoad, Cond.code yX1_greatestLoad cX1_greatestLoad 10 (some .double), Cond.methodLink RX1 68 yX1_meanShrinkage, Cond.instanceMethod yX1_meanShrinkage, Cond.selects RX1 yX1_meanShrinkage yX1_meanShrinkage, Cond.code yX1_meanShrinkage cX1_meanShrinkage 4 (some .double)]
def wsX6_run_r6 : List Cond := [Cond.methodLink RX1 65 yX1_shrinkage, Cond.static yX1_shrinkage, Cond.code yX1_shrinkage cX1_shrinkage 2 (some .double), Cond.constantDouble RX1 63 (4599301119452119040)]
def wsX6_run : List Cond := .code yX6_run cX6_run 3 (some .int) :: ((wsX6_run_r1 ++ (wsX6_run_r2 ++ (wsX6_run_r3 ++ (wsX6_run_r4 ++ (wsX6_run_r5 ++ wsX6_run_r6))))) ++ wsX60 ++ wsX10 ++ wsX00 ++ wsX20 ++ wsX40 ++ wsX30 ++ (vx_atS RX6 135 "java/lang/IllegalArgumentException" ["java/lang/RuntimeException", "java/lang/Exception"]).filter goodWord)
def wsX6_limit_r1 : List Cond := [Cond.classLink RX6 131 "java/lang/IllegalArgumentException", Cond.initialized "java/lang/IllegalArgumentException", Cond.methodLink RX6 66 yX6_slotOf, Cond.instanceMethod yX6_slotOf, Cond.selects RX6 yX6_slotOf yX6_slotOf, Cond.initialized RX6, Cond.code yX6_slotOf cX6_slotOf 2 (some (.object "LayerMoisture$Board")), Cond.fieldLink RX6 31 "LayerMoisture" "boards" "[LLayerMoisture$Board;", Cond.classLink RX6 177 RJx00060, Cond.instantiable RJx00060 6, Cond.initialized RJx00060, Cond.methodLink RX6 115 yX6_requireThere, Cond.static yX6_requireThere, Cond.code yX6_requireThere cX6_requireThere 1 none, Cond.classLink RX6 205 "java/lang/IllegalStateException", Cond.initialized "java/lang/IllegalStateException", Cond.fieldLink RX6 201 "LayerMoisture$Board" "there" "Z", Cond.methodLink RX6 150 yX1_setLimit, Cond.instanceMethod yX1_setLimit, Cond.selects RX1 yX1_setLimit yX1_setLimit, Cond.initialized RX1, Cond.code yX1_setLimit cX1_setLimit 3 none, Cond.fieldLink RX1 27 "LayerMoisture$Board" "limited" "Z", Cond.fieldLink RX1 34 "LayerMoisture$Board" "loadLimit" "D"]
def wsX6_limit_r2 : List Cond := [Cond.fieldLink RX1 30 "LayerMoisture$Board" "keptHour" "I"]
def wsX6_limit : List Cond := .code yX6_limit cX6_limit 5 none :: ((wsX6_limit_r1 ++ wsX6_limit_r2) ++ wsX60 ++ wsJx000600 ++ wsX10 ++ (vx_atS RX6 135 "java/lang/IllegalArgumentException" ["java/lang/RuntimeException", "java/lang/Exception"]).filter goodWord ++ (vx_atS RX6 209 "java/lang/IllegalStateException" ["java/lang/RuntimeException", "java/lang/Exception"]).filter goodWord)
def wsX6_boardThere : List Cond := .code yX6_boardThere cX6_boardThere 3 (some (.object "LayerMoisture$Board")) :: ([.methodLink RX6 66 yX6_slotOf, .instanceMethod yX6_slotOf, .selects RX6 yX6_slotOf yX6_slotOf, .initialized RX6, .code yX6_slotOf cX6_slotOf 2 (some (.object "LayerMoisture$Board")), .fieldLink RX6 31 "LayerMoisture" "boards" "[LLayerMoisture$Board;", .classLink RX6 177 RJx00060, .instantiable RJx00060 6, .initialized RJx00060, .methodLink RX6 115 yX6_requireThere, .static yX6_requireThere, .code yX6_requireThere cX6_requireThere 1 none, .classLink RX6 205 "java/lang/IllegalStateException", .initialized "java/lang/IllegalStateException", .fieldLink RX6 201 "LayerMoisture$Board" "there" "Z"] ++ wsX60 ++ wsJx000600 ++ wsX10 ++ (vx_atS RX6 209 "java/lang/IllegalStateException" ["java/lang/RuntimeException", "java/lang/Exception"]).filter goodWord)
def wsX6_check : List Cond := .code yX6_check cX6_check 2 (some .int) :: ([.fieldLink RX6 157 "LayerMoisture$Board" "keptHour" "I", .methodLink RX6 154 yX6_boardThere, .instanceMethod yX6_boardThere, .selects RX6 yX6_boardThere yX6_boardThere, .initialized RX6, .code yX6_boardThere cX6_boardThere 3 (some (.object "LayerMoisture$Board")), .methodLink RX6 66 yX6_slotOf, .instanceMethod yX6_slotOf, .selects RX6 yX6_slotOf yX6_slotOf, .code yX6_slotOf cX6_slotOf 2 (some (.object "LayerMoisture$Board")), .fieldLink RX6 31 "LayerMoisture" "boards" "[LLayerMoisture$Board;", .classLink RX6 177 RJx00060, .instantiable RJx00060 6, .initialized RJx00060, .methodLink RX6 115 yX6_requireThere, .static yX6_requireThere, .code yX6_requireThere cX6_requireThere 1 none, .classLink RX6 205 "java/lang/IllegalStateException", .initialized "java/lang/IllegalStateException", .fieldLink RX6 201 "LayerMoisture$Board" "there" "Z"] ++ wsX10 ++ wsX60 ++ wsJx000600 ++ (vx_atS RX6 209 "java/lang/IllegalStateException" ["java/lang/RuntimeException", "java/lang/Exception"]).filter goodWord)
def wsX6_wet : List Cond := .code yX6_wet cX6_wet 4 (some .double) :: ([.fieldLink RX6 119 "LayerMoisture$Board" "wetness" "[D", .methodLink RX6 66 yX6_slotOf, .instanceMethod yX6_slotOf, .selects RX6 yX6_slotOf yX6_slotOf, .initialized RX6, .code yX6_slotOf cX6_slotOf 2 (some (.object "LayerMoisture$Board")), .fieldLink RX6 31 "LayerMoisture" "boards" "[LLayerMoisture$Board;", .classLink RX6 177 RJx00060, .instantiable RJx00060 6, .initialized RJx00060, .methodLink RX6 111 yX6_requireLayer, .instanceMethod yX6_requireLayer, .selects RX6 yX6_requireLayer yX6_requireLayer, .code yX6_requireLayer cX6_requireLayer 2 none, .fieldLink RX6 18 "LayerMoisture" "layerCount" "I", .methodLink RX6 115 yX6_requireThere, .static yX6_requireThere, .code yX6_requireThere cX6_requireThere 1 none, .classLink RX6 205 "java/lang/IllegalStateException", .initialized "java/lang/IllegalStateException", .fieldLink RX6 201 "LayerMoisture$Board" "there" "Z"] ++ wsX10 ++ wsX60 ++ wsJx000600 ++ (vx_atS RX6 209 "java/lang/IllegalStateException" ["java/lang/RuntimeException", "java/lang/Exception"]).filter goodWord)
def wsX6_mean_r1 : List Cond := [Cond.methodLink RX6 154 yX6_boardThere, Cond.instanceMethod yX6_boardThere, Cond.selects RX6 yX6_boardThere yX6_boardThere, Cond.initialized RX6, Cond.code yX6_boardThere cX6_boardThere 3 (some (.object "LayerMoisture$Board")), Cond.methodLink RX6 66 yX6_slotOf, Cond.instanceMethod yX6_slotOf, Cond.selects RX6 yX6_slotOf yX6_slotOf, Cond.code yX6_slotOf cX6_slotOf 2 (some (.object "LayerMoisture$Board")), Cond.fieldLink RX6 31 "LayerMoisture" "boards" "[LLayerMoisture$Board;", Cond.classLink RX6 177 RJx00060, Cond.instantiable RJx00060 6, Cond.initialized RJx00060, Cond.methodLink RX6 115 yX6_requireThere, Cond.static yX6_requireThere, Cond.code yX6_requireThere cX6_requireThere 1 none, Cond.classLink RX6 205 "java/lang/IllegalStateException", Cond.initialized "java/lang/IllegalStateException", Cond.fieldLink RX6 201 "LayerMoisture$Board" "there" "Z", Cond.methodLink RX6 160 yX1_meanWetness, Cond.instanceMethod yX1_meanWetness, Cond.selects RX1 yX1_meanWetness yX1_meanWetness, Cond.initialized RX1, Cond.code yX1_meanWetness cX1_meanWetness 4 (some .double)]
def wsX6_mean_r2 : List Cond := [Cond.fieldLink RX1 9 "LayerMoisture$Board" "wetness" "[D"]
def wsX6_mean : List Cond := .code yX6_mean cX6_mean 2 (some .double) :: ((wsX6_mean_r1 ++ wsX6_mean_r2) ++ wsX60 ++ wsJx000600 ++ wsX10 ++ (vx_atS RX6 209 "java/lang/IllegalStateException" ["java/lang/RuntimeException", "java/lang/Exception"]).filter goodWord)
def wsX6_stress_r1 : List Cond := [Cond.fieldLink RX6 119 "LayerMoisture$Board" "wetness" "[D", Cond.methodLink RX6 66 yX6_slotOf, Cond.instanceMethod yX6_slotOf, Cond.selects RX6 yX6_slotOf yX6_slotOf, Cond.initialized RX6, Cond.code yX6_slotOf cX6_slotOf 2 (some (.object "LayerMoisture$Board")), Cond.fieldLink RX6 31 "LayerMoisture" "boards" "[LLayerMoisture$Board;", Cond.classLink RX6 177 RJx00060, Cond.instantiable RJx00060 6, Cond.initialized RJx00060, Cond.methodLink RX6 111 yX6_requireLayer, Cond.instanceMethod yX6_requireLayer, Cond.selects RX6 yX6_requireLayer yX6_requireLayer, Cond.code yX6_requireLayer cX6_requireLayer 2 none, Cond.fieldLink RX6 18 "LayerMoisture" "layerCount" "I", Cond.methodLink RX6 115 yX6_requireThere, Cond.static yX6_requireThere, Cond.code yX6_requireThere cX6_requireThere 1 none, Cond.classLink RX6 205 "java/lang/IllegalStateException", Cond.initialized "java/lang/IllegalStateException", Cond.fieldLink RX6 201 "LayerMoisture$Board" "there" "Z", Cond.methodLink RX6 164 yX1_shrinkage, Cond.static yX1_shrinkage, Cond.initialized RX1]
def wsX6_stress_r2 : List Cond := [Cond.code yX1_shrinkage cX1_shrinkage 2 (some .double), Cond.constantDouble RX1 39 (4598175219545276416), Cond.constantDouble RX1 63 (4599301119452119040), Cond.methodLink RX6 168 yX1_meanShrinkage, Cond.instanceMethod yX1_meanShrinkage, Cond.selects RX1 yX1_meanShrinkage yX1_meanShrinkage, Cond.code yX1_meanShrinkage cX1_meanShrinkage 4 (some .double), Cond.fieldLink RX1 9 "LayerMoisture$Board" "wetness" "[D", Cond.methodLink RX1 65 yX1_shrinkage]
def wsX6_stress : List Cond := .code yX6_stress cX6_stress 4 (some .double) :: ((wsX6_stress_r1 ++ wsX6_stress_r2) ++ wsX10 ++ wsX60 ++ wsJx000600 ++ (vx_atS RX6 209 "java/lang/IllegalStateException" ["java/lang/RuntimeException", "java/lang/Exception"]).filter goodWord)
def wsX6_balance : List Cond := .code yX6_balance cX6_balance 1 (some .double) :: ([.fieldLink RX6 41 "LayerMoisture" "state" "LLayerMoisture$Air;", .methodLink RX6 171 yX0_balanceNow, .instanceMethod yX0_balanceNow, .selects RX0 yX0_balanceNow yX0_balanceNow, .initialized RX0, .code yX0_balanceNow cX0_balanceNow 1 (some .double), .constantDouble RX0 26 (4600427019358961664), .fieldLink RX0 17 "LayerMoisture$Air" "damp" "D", .fieldLink RX0 9 "LayerMoisture$Air" "kelvin" "D", .constantDouble RX0 28 (4643510282981736448), .constantDouble RX0 30 (4643211215818981376)] ++ wsX60 ++ wsX00)
def wsX6_told : List Cond := .code yX6_told cX6_told 2 (some .double) :: ([.fieldLink RX6 41 "LayerMoisture" "state" "LLayerMoisture$Air;", .fieldLink RX6 99 "LayerMoisture$Air" "kelvin" "D", .fieldLink RX6 102 "LayerMoisture$Air" "damp" "D", .fieldLink RX6 105 "LayerMoisture$Air" "speed" "D", .fieldLink RX6 108 "LayerMoisture$Air" "ventShare" "D", .fieldLink RX6 48 "LayerMoisture" "ledger" "LLayerMoisture$Ledger;", .fieldLink RX6 174 "LayerMoisture$Ledger" "rest" "D", .classLink RX6 177 RJx00060, .instantiable RJx00060 6, .initialized RJx00060] ++ wsX60 ++ wsX00 ++ wsX30 ++ wsJx000600)
def wsX6_grams : List Cond := .code yX6_grams cX6_grams 1 (some .long) :: ([.fieldLink RX6 48 "LayerMoisture" "ledger" "LLayerMoisture$Ledger;", .fieldLink RX6 182 "LayerMoisture$Ledger" "gone" "J"] ++ wsX60 ++ wsX30)
def wsX6_count : List Cond := .code yX6_count cX6_count 2 (some .int) :: ([.fieldLink RX6 142 "LayerMoisture" "hoursPassed" "I", .fieldLink RX6 62 "LayerMoisture" "plan" "LLayerMoisture$Plan;", .fieldLink RX6 186 "LayerMoisture$Plan" "done" "I", .classLink RX6 177 RJx00060, .instantiable RJx00060 6, .initialized RJx00060, .methodLink RX6 189 yX6_boardsThere, .instanceMethod yX6_boardsThere, .selects RX6 yX6_boardsThere yX6_boardsThere, .initialized RX6, .code yX6_boardsThere cX6_boardsThere 3 (some .int), .fieldLink RX6 31 "LayerMoisture" "boards" "[LLayerMoisture$Board;", .fieldLink RX6 201 "LayerMoisture$Board" "there" "Z"] ++ wsX60 ++ wsX40 ++ wsJx000600 ++ wsX10)
def wsX7_init_r1 : List Cond := [Cond.methodLink RX7 1 objectInit, Cond.instanceMethod objectInit, Cond.code objectInit ⟨#[0xb1]⟩ 1 none, Cond.arrayClass .double, Cond.fieldLink RX7 7 "LayerMoistureModel" "rateA" "[D", Cond.fieldLink RX7 13 "LayerMoistureModel" "rateB" "[D", Cond.constantDouble RX7 16 (4643862126702624768), Cond.fieldLink RX7 18 "LayerMoistureModel" "kelvin" "D", Cond.constantDouble RX7 22 (4602678819172646912), Cond.fieldLink RX7 24 "LayerMoistureModel" "damp" "D", Cond.fieldLink RX7 27 "LayerMoistureModel" "speed" "D", Cond.arrayClass .boolean, Cond.fieldLink RX7 30 "LayerMoistureModel" "there" "[Z", Cond.fieldLink RX7 34 "LayerMoistureModel" "depths" "[D", Cond.arrayClass .int, Cond.fieldLink RX7 37 "LayerMoistureModel" "kinds" "[I", Cond.fieldLink RX7 41 "LayerMoistureModel" "wets" "[D", Cond.fieldLink RX7 44 "LayerMoistureModel" "next" "[D", Cond.fieldLink RX7 47 "LayerMoistureModel" "limited" "[Z", Cond.fieldLink RX7 50 "LayerMoistureModel" "limits" "[D", Cond.fieldLink RX7 53 "LayerMoistureModel" "kept" "[I", Cond.fieldLink RX7 56 "LayerMoistureModel" "text" "[I", Cond.fieldLink RX7 59 "LayerMoistureModel" "byWet" "[Z", Cond.fieldLink RX7 62 "LayerMoistureModel" "times" "[I"]
def wsX7_init_r2 : List Cond := [Cond.fieldLink RX7 65 "LayerMoistureModel" "kelvins" "[I", Cond.fieldLink RX7 68 "LayerMoistureModel" "damps" "[I", Cond.fieldLink RX7 71 "LayerMoistureModel" "layers" "I", Cond.fieldLink RX7 75 "LayerMoistureModel" "boards" "I"]
def wsX7_init : List Cond := .code yX7_init cX7_init 3 none :: ((wsX7_init_r1 ++ wsX7_init_r2) ++ wsX70)
def wsX7_thrown : List Cond := .code yX7_thrown cX7_thrown 1 (some .int) :: ([.fieldLink RX7 78 "LayerMoistureModel" "thrown" "I"] ++ wsX70)
def wsX7_noBoard : List Cond := .code yX7_noBoard cX7_noBoard 2 (some .boolean) :: ([.fieldLink RX7 75 "LayerMoistureModel" "boards" "I"] ++ wsX70)
def wsX7_noLayer : List Cond := .code yX7_noLayer cX7_noLayer 3 (some .boolean) :: ([.fieldLink RX7 71 "LayerMoistureModel" "layers" "I", .methodLink RX7 81 yX7_noBoard, .instanceMethod yX7_noBoard, .selects RX7 yX7_noBoard yX7_noBoard, .initialized RX7, .code yX7_noBoard cX7_noBoard 2 (some .boolean), .fieldLink RX7 75 "LayerMoistureModel" "boards" "I"] ++ wsX70)
def wsX7_isIn : List Cond := .code yX7_isIn cX7_isIn 6 (some .boolean) :: ([])
def wsX7_board : List Cond := .code yX7_board cX7_board 8 none :: ([.constantDouble RX7 85 (4645744490609377280), .constantDouble RX7 91 (4613937818241073152), .fieldLink RX7 78 "LayerMoistureModel" "thrown" "I", .fieldLink RX7 30 "LayerMoistureModel" "there" "[Z", .fieldLink RX7 34 "LayerMoistureModel" "depths" "[D", .fieldLink RX7 71 "LayerMoistureModel" "layers" "I", .fieldLink RX7 37 "LayerMoistureModel" "kinds" "[I", .fieldLink RX7 47 "LayerMoistureModel" "limited" "[Z", .fieldLink RX7 53 "LayerMoistureModel" "kept" "[I", .fieldLink RX7 41 "LayerMoistureModel" "wets" "[D", .methodLink RX7 81 yX7_noBoard, .instanceMethod yX7_noBoard, .selects RX7 yX7_noBoard yX7_noBoard, .initialized RX7, .code yX7_noBoard cX7_noBoard 2 (some .boolean), .fieldLink RX7 75 "LayerMoistureModel" "boards" "I", .methodLink RX7 87 yX7_isIn, .static yX7_isIn, .code yX7_isIn cX7_isIn 6 (some .boolean)] ++ wsX70)
def wsX7_rate : List Cond := .code yX7_rate cX7_rate 6 none :: ([.constantDouble RX7 93 (4620693217682128896), .fieldLink RX7 78 "LayerMoistureModel" "thrown" "I", .fieldLink RX7 7 "LayerMoistureModel" "rateA" "[D", .fieldLink RX7 13 "LayerMoistureModel" "rateB" "[D", .methodLink RX7 87 yX7_isIn, .static yX7_isIn, .initialized RX7, .code yX7_isIn cX7_isIn 6 (some .boolean)] ++ wsX70)
def wsX7_air : List Cond := .code yX7_air cX7_air 7 none :: ([.constantDouble RX7 95 (4643000109586448384), .constantDouble RX7 85 (4645744490609377280), .constantDouble RX7 97 (4625196817309499392), .fieldLink RX7 78 "LayerMoistureModel" "thrown" "I", .fieldLink RX7 18 "LayerMoistureModel" "kelvin" "D", .fieldLink RX7 24 "LayerMoistureModel" "damp" "D", .fieldLink RX7 27 "LayerMoistureModel" "speed" "D", .methodLink RX7 87 yX7_isIn, .static yX7_isIn, .initialized RX7, .code yX7_isIn cX7_isIn 6 (some .boolean)] ++ wsX70)
def wsX7_vent : List Cond := .code yX7_vent cX7_vent 3 none :: ([.fieldLink RX7 78 "LayerMoistureModel" "thrown" "I", .fieldLink RX7 99 "LayerMoistureModel" "vent" "D", .methodLink RX7 87 yX7_isIn, .static yX7_isIn, .initialized RX7, .code yX7_isIn cX7_isIn 6 (some .boolean)] ++ wsX70)
def wsX7_soak : List Cond := .code yX7_soak cX7_soak 5 none :: ([.constantDouble RX7 91 (4613937818241073152), .fieldLink RX7 30 "LayerMoistureModel" "there" "[Z", .fieldLink RX7 78 "LayerMoistureModel" "thrown" "I", .fieldLink RX7 41 "LayerMoistureModel" "wets" "[D", .methodLink RX7 102 yX7_noLayer, .instanceMethod yX7_noLayer, .selects RX7 yX7_noLayer yX7_noLayer, .initialized RX7, .code yX7_noLayer cX7_noLayer 3 (some .boolean), .fieldLink RX7 71 "LayerMoistureModel" "layers" "I", .methodLink RX7 81 yX7_noBoard, .instanceMethod yX7_noBoard, .selects RX7 yX7_noBoard yX7_noBoard, .code yX7_noBoard cX7_noBoard 2 (some .boolean), .fieldLink RX7 75 "LayerMoistureModel" "boards" "I", .methodLink RX7 87 yX7_isIn, .static yX7_isIn, .code yX7_isIn cX7_isIn 6 (some .boolean)] ++ wsX70)
def wsX7_unit : List Cond := .code yX7_unit cX7_unit 2 (some .boolean) :: ([.fieldLink RX7 78 "LayerMoistureModel" "thrown" "I", .fieldLink RX7 106 "LayerMoistureModel" "typed" "I", .fieldLink RX7 56 "LayerMoistureModel" "text" "[I"] ++ wsX70)
def wsX7_fail : List Cond := .code yX7_fail cX7_fail 2 (some .boolean) :: ([.fieldLink RX7 109 "LayerMoistureModel" "bad" "I"] ++ wsX70)
def wsX7_pass : List Cond := .code yX7_pass cX7_pass 2 (some .boolean) :: ([.fieldLink RX7 112 "LayerMoistureModel" "at" "I", .fieldLink RX7 106 "LayerMoistureModel" "typed" "I", .fieldLink RX7 56 "LayerMoistureModel" "text" "[I", .methodLink RX7 115 yX7_fail, .instanceMethod yX7_fail, .selects RX7 yX7_fail yX7_fail, .initialized RX7, .code yX7_fail cX7_fail 2 (some .boolean), .fieldLink RX7 109 "LayerMoistureModel" "bad" "I"] ++ wsX70)
def wsX7_isDigit : List Cond := .code yX7_isDigit cX7_isDigit 1 (some .boolean) :: ([.fieldLink RX7 112 "LayerMoistureModel" "at" "I", .fieldLink RX7 106 "LayerMoistureModel" "typed" "I", .fieldLink RX7 56 "LayerMoistureModel" "text" "[I"] ++ wsX70)
def wsX7_passNumber : List Cond := .code yX7_passNumber cX7_passNumber 4 (some .boolean) :: ([.fieldLink RX7 112 "LayerMoistureModel" "at" "I", .fieldLink RX7 118 "LayerMoistureModel" "number" "I", .fieldLink RX7 56 "LayerMoistureModel" "text" "[I", .methodLink RX7 121 yX7_isDigit, .instanceMethod yX7_isDigit, .selects RX7 yX7_isDigit yX7_isDigit, .initialized RX7, .code yX7_isDigit cX7_isDigit 1 (some .boolean), .fieldLink RX7 106 "LayerMoistureModel" "typed" "I", .methodLink RX7 115 yX7_fail, .instanceMethod yX7_fail, .selects RX7 yX7_fail yX7_fail, .code yX7_fail cX7_fail 2 (some .boolean), .fieldLink RX7 109 "LayerMoistureModel" "bad" "I"] ++ wsX70)
def wsX7_passStep_r1 : List Cond := [Cond.fieldLink RX7 112 "LayerMoistureModel" "at" "I", Cond.fieldLink RX7 106 "LayerMoistureModel" "typed" "I", Cond.fieldLink RX7 56 "LayerMoistureModel" "text" "[I", Cond.fieldLink RX7 59 "LayerMoistureModel" "byWet" "[Z", Cond.fieldLink RX7 125 "LayerMoistureModel" "steps" "I", Cond.fieldLink RX7 62 "LayerMoistureModel" "times" "[I", Cond.fieldLink RX7 118 "LayerMoistureModel" "number" "I", Cond.fieldLink RX7 65 "LayerMoistureModel" "kelvins" "[I", Cond.fieldLink RX7 68 "LayerMoistureModel" "damps" "[I", Cond.methodLink RX7 115 yX7_fail, Cond.instanceMethod yX7_fail, Cond.selects RX7 yX7_fail yX7_fail, Cond.initialized RX7, Cond.code yX7_fail cX7_fail 2 (some .boolean), Cond.fieldLink RX7 109 "LayerMoistureModel" "bad" "I", Cond.methodLink RX7 128 yX7_passNumber, Cond.instanceMethod yX7_passNumber, Cond.selects RX7 yX7_passNumber yX7_passNumber, Cond.code yX7_passNumber cX7_passNumber 4 (some .boolean), Cond.methodLink RX7 121 yX7_isDigit, Cond.instanceMethod yX7_isDigit, Cond.selects RX7 yX7_isDigit yX7_isDigit, Cond.code yX7_isDigit cX7_isDigit 1 (some .boolean), Cond.methodLink RX7 131 yX7_pass]
def wsX7_passStep_r2 : List Cond := [Cond.instanceMethod yX7_pass, Cond.selects RX7 yX7_pass yX7_pass, Cond.code yX7_pass cX7_pass 2 (some .boolean)]
def wsX7_passStep : List Cond := .code yX7_passStep cX7_passStep 2 (some .boolean) :: ((wsX7_passStep_r1 ++ wsX7_passStep_r2) ++ wsX70)
def wsX7_schedule_r1 : List Cond := [Cond.fieldLink RX7 78 "LayerMoistureModel" "thrown" "I", Cond.fieldLink RX7 112 "LayerMoistureModel" "at" "I", Cond.fieldLink RX7 125 "LayerMoistureModel" "steps" "I", Cond.fieldLink RX7 134 "LayerMoistureModel" "done" "I", Cond.fieldLink RX7 106 "LayerMoistureModel" "typed" "I", Cond.fieldLink RX7 56 "LayerMoistureModel" "text" "[I", Cond.fieldLink RX7 109 "LayerMoistureModel" "bad" "I", Cond.methodLink RX7 137 yX7_passStep, Cond.instanceMethod yX7_passStep, Cond.selects RX7 yX7_passStep yX7_passStep, Cond.initialized RX7, Cond.code yX7_passStep cX7_passStep 2 (some .boolean), Cond.fieldLink RX7 59 "LayerMoistureModel" "byWet" "[Z", Cond.fieldLink RX7 62 "LayerMoistureModel" "times" "[I", Cond.fieldLink RX7 118 "LayerMoistureModel" "number" "I", Cond.fieldLink RX7 65 "LayerMoistureModel" "kelvins" "[I", Cond.fieldLink RX7 68 "LayerMoistureModel" "damps" "[I", Cond.methodLink RX7 115 yX7_fail, Cond.instanceMethod yX7_fail, Cond.selects RX7 yX7_fail yX7_fail, Cond.code yX7_fail cX7_fail 2 (some .boolean), Cond.methodLink RX7 128 yX7_passNumber, Cond.instanceMethod yX7_passNumber, Cond.selects RX7 yX7_passNumber yX7_passNumber]
def wsX7_schedule_r2 : List Cond := [Cond.code yX7_passNumber cX7_passNumber 4 (some .boolean), Cond.methodLink RX7 121 yX7_isDigit, Cond.instanceMethod yX7_isDigit, Cond.selects RX7 yX7_isDigit yX7_isDigit, Cond.code yX7_isDigit cX7_isDigit 1 (some .boolean), Cond.methodLink RX7 131 yX7_pass, Cond.instanceMethod yX7_pass, Cond.selects RX7 yX7_pass yX7_pass, Cond.code yX7_pass cX7_pass 2 (some .boolean)]
def wsX7_schedule : List Cond := .code yX7_schedule cX7_schedule 2 (some .int) :: ((wsX7_schedule_r1 ++ wsX7_schedule_r2) ++ wsX70)
def wsX7_sumOf : List Cond := .code yX7_sumOf cX7_sumOf 5 (some .double) :: ([.fieldLink RX7 41 "LayerMoistureModel" "wets" "[D", .fieldLink RX7 71 "LayerMoistureModel" "layers" "I"] ++ wsX70)
def wsX7_meanOf : List Cond := .code yX7_meanOf cX7_meanOf 2 (some .double) :: ([.fieldLink RX7 71 "LayerMoistureModel" "layers" "I", .methodLink RX7 140 yX7_sumOf, .instanceMethod yX7_sumOf, .selects RX7 yX7_sumOf yX7_sumOf, .initialized RX7, .code yX7_sumOf cX7_sumOf 5 (some .double), .fieldLink RX7 41 "LayerMoistureModel" "wets" "[D"] ++ wsX70)
def wsX7_balanceNow : List Cond := .code yX7_balanceNow cX7_balanceNow 1 (some .double) :: ([.constantDouble RX7 144 (4600427019358961664), .fieldLink RX7 24 "LayerMoistureModel" "damp" "D", .fieldLink RX7 18 "LayerMoistureModel" "kelvin" "D", .constantDouble RX7 146 (4643510282981736448), .constantDouble RX7 148 (4643211215818981376)] ++ wsX70)
def wsX7_isRefused : List Cond := .code yX7_isRefused cX7_isRefused 6 (some .boolean) :: ([.fieldLink RX7 75 "LayerMoistureModel" "boards" "I", .fieldLink RX7 30 "LayerMoistureModel" "there" "[Z", .fieldLink RX7 71 "LayerMoistureModel" "layers" "I", .fieldLink RX7 41 "LayerMoistureModel" "wets" "[D", .fieldLink RX7 34 "LayerMoistureModel" "depths" "[D", .fieldLink RX7 27 "LayerMoistureModel" "speed" "D", .constantDouble RX7 93 (4620693217682128896), .constantDouble RX7 150 (4598175219545276416), .fieldLink RX7 7 "LayerMoistureModel" "rateA" "[D", .fieldLink RX7 37 "LayerMoistureModel" "kinds" "[I", .fieldLink RX7 13 "LayerMoistureModel" "rateB" "[D"] ++ wsX70)
def wsX7_hasCome : List Cond := .code yX7_hasCome cX7_hasCome 5 (some .boolean) :: ([.fieldLink RX7 59 "LayerMoistureModel" "byWet" "[Z", .fieldLink RX7 134 "LayerMoistureModel" "done" "I", .fieldLink RX7 152 "LayerMoistureModel" "hours" "I", .fieldLink RX7 62 "LayerMoistureModel" "times" "[I", .fieldLink RX7 75 "LayerMoistureModel" "boards" "I", .fieldLink RX7 30 "LayerMoistureModel" "there" "[Z", .constantDouble RX7 158 (4636737291354636288), .methodLink RX7 155 yX7_meanOf, .instanceMethod yX7_meanOf, .selects RX7 yX7_meanOf yX7_meanOf, .initialized RX7, .code yX7_meanOf cX7_meanOf 2 (some .double), .fieldLink RX7 71 "LayerMoistureModel" "layers" "I", .methodLink RX7 140 yX7_sumOf, .instanceMethod yX7_sumOf, .selects RX7 yX7_sumOf yX7_sumOf, .code yX7_sumOf cX7_sumOf 5 (some .double), .fieldLink RX7 41 "LayerMoistureModel" "wets" "[D"] ++ wsX70)
def wsX7_flow : List Cond := .code yX7_flow cX7_flow 6 (some .double) :: ([.fieldLink RX7 34 "LayerMoistureModel" "depths" "[D", .fieldLink RX7 7 "LayerMoistureModel" "rateA" "[D", .fieldLink RX7 37 "LayerMoistureModel" "kinds" "[I", .fieldLink RX7 13 "LayerMoistureModel" "rateB" "[D", .fieldLink RX7 41 "LayerMoistureModel" "wets" "[D", .constantDouble RX7 160 (4611686018427387904)] ++ wsX70)
def wsX7_hourOf_r1 : List Cond := [Cond.fieldLink RX7 71 "LayerMoistureModel" "layers" "I", Cond.fieldLink RX7 34 "LayerMoistureModel" "depths" "[D", Cond.fieldLink RX7 27 "LayerMoistureModel" "speed" "D", Cond.fieldLink RX7 41 "LayerMoistureModel" "wets" "[D", Cond.constantDouble RX7 93 (4620693217682128896), Cond.fieldLink RX7 44 "LayerMoistureModel" "next" "[D", Cond.constantDouble RX7 170 (4634204016564240384), Cond.fieldLink RX7 172 "LayerMoistureModel" "left" "D", Cond.fieldLink RX7 175 "LayerMoistureModel" "gone" "J", Cond.fieldLink RX7 24 "LayerMoistureModel" "damp" "D", Cond.constantDouble RX7 179 (4679240012837945344), Cond.fieldLink RX7 99 "LayerMoistureModel" "vent" "D", Cond.methodLink RX7 162 yX7_balanceNow, Cond.instanceMethod yX7_balanceNow, Cond.selects RX7 yX7_balanceNow yX7_balanceNow, Cond.initialized RX7, Cond.code yX7_balanceNow cX7_balanceNow 1 (some .double), Cond.constantDouble RX7 144 (4600427019358961664), Cond.fieldLink RX7 18 "LayerMoistureModel" "kelvin" "D", Cond.constantDouble RX7 146 (4643510282981736448), Cond.constantDouble RX7 148 (4643211215818981376), Cond.methodLink RX7 166 yX7_flow, Cond.instanceMethod yX7_flow, Cond.selects RX7 yX7_flow yX7_flow]
def wsX7_hourOf_r2 : List Cond := [Cond.code yX7_flow cX7_flow 6 (some .double), Cond.fieldLink RX7 7 "LayerMoistureModel" "rateA" "[D", Cond.fieldLink RX7 37 "LayerMoistureModel" "kinds" "[I", Cond.fieldLink RX7 13 "LayerMoistureModel" "rateB" "[D", Cond.constantDouble RX7 160 (4611686018427387904)]
def wsX7_hourOf : List Cond := .code yX7_hourOf cX7_hourOf 14 none :: ((wsX7_hourOf_r1 ++ wsX7_hourOf_r2) ++ wsX70)
def wsX7_share : List Cond := .code yX7_share cX7_share 5 (some .double) :: ([.fieldLink RX7 41 "LayerMoistureModel" "wets" "[D", .constantDouble RX7 150 (4598175219545276416), .constantDouble RX7 181 (4599301119452119040)] ++ wsX70)
def wsX7_stressOf : List Cond := .code yX7_stressOf cX7_stressOf 6 (some .double) :: ([.fieldLink RX7 71 "LayerMoistureModel" "layers" "I", .methodLink RX7 183 yX7_share, .instanceMethod yX7_share, .selects RX7 yX7_share yX7_share, .initialized RX7, .code yX7_share cX7_share 5 (some .double), .fieldLink RX7 41 "LayerMoistureModel" "wets" "[D", .constantDouble RX7 150 (4598175219545276416), .constantDouble RX7 181 (4599301119452119040)] ++ wsX70)
def wsX7_keep : List Cond := .code yX7_keep cX7_keep 7 none :: ([.fieldLink RX7 71 "LayerMoistureModel" "layers" "I", .fieldLink RX7 47 "LayerMoistureModel" "limited" "[Z", .fieldLink RX7 53 "LayerMoistureModel" "kept" "[I", .fieldLink RX7 50 "LayerMoistureModel" "limits" "[D", .fieldLink RX7 152 "LayerMoistureModel" "hours" "I", .methodLink RX7 186 yX7_stressOf, .instanceMethod yX7_stressOf, .selects RX7 yX7_stressOf yX7_stressOf, .initialized RX7, .code yX7_stressOf cX7_stressOf 6 (some .double), .methodLink RX7 183 yX7_share, .instanceMethod yX7_share, .selects RX7 yX7_share yX7_share, .code yX7_share cX7_share 5 (some .double), .fieldLink RX7 41 "LayerMoistureModel" "wets" "[D", .constantDouble RX7 150 (4598175219545276416), .constantDouble RX7 181 (4599301119452119040)] ++ wsX70)
def wsX7_hour_r1 : List Cond := [Cond.fieldLink RX7 134 "LayerMoistureModel" "done" "I", Cond.fieldLink RX7 125 "LayerMoistureModel" "steps" "I", Cond.fieldLink RX7 65 "LayerMoistureModel" "kelvins" "[I", Cond.fieldLink RX7 18 "LayerMoistureModel" "kelvin" "D", Cond.fieldLink RX7 68 "LayerMoistureModel" "damps" "[I", Cond.constantDouble RX7 158 (4636737291354636288), Cond.fieldLink RX7 24 "LayerMoistureModel" "damp" "D", Cond.fieldLink RX7 75 "LayerMoistureModel" "boards" "I", Cond.fieldLink RX7 30 "LayerMoistureModel" "there" "[Z", Cond.fieldLink RX7 152 "LayerMoistureModel" "hours" "I", Cond.methodLink RX7 189 yX7_hasCome, Cond.instanceMethod yX7_hasCome, Cond.selects RX7 yX7_hasCome yX7_hasCome, Cond.initialized RX7, Cond.code yX7_hasCome cX7_hasCome 5 (some .boolean), Cond.fieldLink RX7 59 "LayerMoistureModel" "byWet" "[Z", Cond.fieldLink RX7 62 "LayerMoistureModel" "times" "[I", Cond.methodLink RX7 155 yX7_meanOf, Cond.instanceMethod yX7_meanOf, Cond.selects RX7 yX7_meanOf yX7_meanOf, Cond.code yX7_meanOf cX7_meanOf 2 (some .double), Cond.fieldLink RX7 71 "LayerMoistureModel" "layers" "I", Cond.methodLink RX7 140 yX7_sumOf, Cond.instanceMethod yX7_sumOf]
def wsX7_hour_r2 : List Cond := [Cond.selects RX7 yX7_sumOf yX7_sumOf, Cond.code yX7_sumOf cX7_sumOf 5 (some .double), Cond.fieldLink RX7 41 "LayerMoistureModel" "wets" "[D", Cond.methodLink RX7 192 yX7_hourOf, Cond.instanceMethod yX7_hourOf, Cond.selects RX7 yX7_hourOf yX7_hourOf, Cond.code yX7_hourOf cX7_hourOf 14 none, Cond.fieldLink RX7 34 "LayerMoistureModel" "depths" "[D", Cond.fieldLink RX7 27 "LayerMoistureModel" "speed" "D", Cond.constantDouble RX7 93 (4620693217682128896), Cond.fieldLink RX7 44 "LayerMoistureModel" "next" "[D", Cond.constantDouble RX7 170 (4634204016564240384), Cond.fieldLink RX7 172 "LayerMoistureModel" "left" "D", Cond.fieldLink RX7 175 "LayerMoistureModel" "gone" "J", Cond.constantDouble RX7 179 (4679240012837945344), Cond.fieldLink RX7 99 "LayerMoistureModel" "vent" "D", Cond.methodLink RX7 162 yX7_balanceNow, Cond.instanceMethod yX7_balanceNow, Cond.selects RX7 yX7_balanceNow yX7_balanceNow, Cond.code yX7_balanceNow cX7_balanceNow 1 (some .double), Cond.constantDouble RX7 144 (4600427019358961664), Cond.constantDouble RX7 146 (4643510282981736448), Cond.constantDouble RX7 148 (4643211215818981376), Cond.methodLink RX7 166 yX7_flow]
def wsX7_hour_r3 : List Cond := [Cond.instanceMethod yX7_flow, Cond.selects RX7 yX7_flow yX7_flow, Cond.code yX7_flow cX7_flow 6 (some .double), Cond.fieldLink RX7 7 "LayerMoistureModel" "rateA" "[D", Cond.fieldLink RX7 37 "LayerMoistureModel" "kinds" "[I", Cond.fieldLink RX7 13 "LayerMoistureModel" "rateB" "[D", Cond.constantDouble RX7 160 (4611686018427387904), Cond.methodLink RX7 196 yX7_keep, Cond.instanceMethod yX7_keep, Cond.selects RX7 yX7_keep yX7_keep, Cond.code yX7_keep cX7_keep 7 none, Cond.fieldLink RX7 47 "LayerMoistureModel" "limited" "[Z", Cond.fieldLink RX7 53 "LayerMoistureModel" "kept" "[I", Cond.fieldLink RX7 50 "LayerMoistureModel" "limits" "[D", Cond.methodLink RX7 186 yX7_stressOf, Cond.instanceMethod yX7_stressOf, Cond.selects RX7 yX7_stressOf yX7_stressOf, Cond.code yX7_stressOf cX7_stressOf 6 (some .double), Cond.methodLink RX7 183 yX7_share, Cond.instanceMethod yX7_share, Cond.selects RX7 yX7_share yX7_share, Cond.code yX7_share cX7_share 5 (some .double), Cond.constantDouble RX7 150 (4598175219545276416), Cond.constantDouble RX7 181 (4599301119452119040)]
def wsX7_hour : List Cond := .code yX7_hour cX7_hour 2 none :: ((wsX7_hour_r1 ++ (wsX7_hour_r2 ++ wsX7_hour_r3)) ++ wsX70)
def wsX7_run_r1 : List Cond := [Cond.fieldLink RX7 78 "LayerMoistureModel" "thrown" "I", Cond.fieldLink RX7 152 "LayerMoistureModel" "hours" "I", Cond.methodLink RX7 199 yX7_isRefused, Cond.instanceMethod yX7_isRefused, Cond.selects RX7 yX7_isRefused yX7_isRefused, Cond.initialized RX7, Cond.code yX7_isRefused cX7_isRefused 6 (some .boolean), Cond.fieldLink RX7 75 "LayerMoistureModel" "boards" "I", Cond.fieldLink RX7 30 "LayerMoistureModel" "there" "[Z", Cond.fieldLink RX7 71 "LayerMoistureModel" "layers" "I", Cond.fieldLink RX7 41 "LayerMoistureModel" "wets" "[D", Cond.fieldLink RX7 34 "LayerMoistureModel" "depths" "[D", Cond.fieldLink RX7 27 "LayerMoistureModel" "speed" "D", Cond.constantDouble RX7 93 (4620693217682128896), Cond.constantDouble RX7 150 (4598175219545276416), Cond.fieldLink RX7 7 "LayerMoistureModel" "rateA" "[D", Cond.fieldLink RX7 37 "LayerMoistureModel" "kinds" "[I", Cond.fieldLink RX7 13 "LayerMoistureModel" "rateB" "[D", Cond.methodLink RX7 202 yX7_hour, Cond.instanceMethod yX7_hour, Cond.selects RX7 yX7_hour yX7_hour, Cond.code yX7_hour cX7_hour 2 none, Cond.fieldLink RX7 134 "LayerMoistureModel" "done" "I", Cond.fieldLink RX7 125 "LayerMoistureModel" "steps" "I"]
def wsX7_run_r2 : List Cond := [Cond.fieldLink RX7 65 "LayerMoistureModel" "kelvins" "[I", Cond.fieldLink RX7 18 "LayerMoistureModel" "kelvin" "D", Cond.fieldLink RX7 68 "LayerMoistureModel" "damps" "[I", Cond.constantDouble RX7 158 (4636737291354636288), Cond.fieldLink RX7 24 "LayerMoistureModel" "damp" "D", Cond.methodLink RX7 189 yX7_hasCome, Cond.instanceMethod yX7_hasCome, Cond.selects RX7 yX7_hasCome yX7_hasCome, Cond.code yX7_hasCome cX7_hasCome 5 (some .boolean), Cond.fieldLink RX7 59 "LayerMoistureModel" "byWet" "[Z", Cond.fieldLink RX7 62 "LayerMoistureModel" "times" "[I", Cond.methodLink RX7 155 yX7_meanOf, Cond.instanceMethod yX7_meanOf, Cond.selects RX7 yX7_meanOf yX7_meanOf, Cond.code yX7_meanOf cX7_meanOf 2 (some .double), Cond.methodLink RX7 140 yX7_sumOf, Cond.instanceMethod yX7_sumOf, Cond.selects RX7 yX7_sumOf yX7_sumOf, Cond.code yX7_sumOf cX7_sumOf 5 (some .double), Cond.methodLink RX7 192 yX7_hourOf, Cond.instanceMethod yX7_hourOf, Cond.selects RX7 yX7_hourOf yX7_hourOf, Cond.code yX7_hourOf cX7_hourOf 14 none, Cond.fieldLink RX7 44 "LayerMoistureModel" "next" "[D"]
def wsX7_run_r3 : List Cond := [Cond.constantDouble RX7 170 (4634204016564240384), Cond.fieldLink RX7 172 "LayerMoistureModel" "left" "D", Cond.fieldLink RX7 175 "LayerMoistureModel" "gone" "J", Cond.constantDouble RX7 179 (4679240012837945344), Cond.fieldLink RX7 99 "LayerMoistureModel" "vent" "D", Cond.methodLink RX7 162 yX7_balanceNow, Cond.instanceMethod yX7_balanceNow, Cond.selects RX7 yX7_balanceNow yX7_balanceNow, Cond.code yX7_balanceNow cX7_balanceNow 1 (some .double), Cond.constantDouble RX7 144 (4600427019358961664), Cond.constantDouble RX7 146 (4643510282981736448), Cond.constantDouble RX7 148 (4643211215818981376), Cond.methodLink RX7 166 yX7_flow, Cond.instanceMethod yX7_flow, Cond.selects RX7 yX7_flow yX7_flow, Cond.code yX7_flow cX7_flow 6 (some .double), Cond.constantDouble RX7 160 (4611686018427387904), Cond.methodLink RX7 196 yX7_keep, Cond.instanceMethod yX7_keep, Cond.selects RX7 yX7_keep yX7_keep, Cond.code yX7_keep cX7_keep 7 none, Cond.fieldLink RX7 47 "LayerMoistureModel" "limited" "[Z", Cond.fieldLink RX7 53 "LayerMoistureModel" "kept" "[I", Cond.fieldLink RX7 50 "LayerMoistureModel" "limits" "[D"]
def wsX7_run_r4 : List Cond := [Cond.methodLink RX7 186 yX7_stressOf, Cond.instanceMethod yX7_stressOf, Cond.selects RX7 yX7_stressOf yX7_stressOf, Cond.code yX7_stressOf cX7_stressOf 6 (some .double), Cond.methodLink RX7 183 yX7_share, Cond.instanceMethod yX7_share, Cond.selects RX7 yX7_share yX7_share, Cond.code yX7_share cX7_share 5 (some .double), Cond.constantDouble RX7 181 (4599301119452119040)]
def wsX7_run : List Cond := .code yX7_run cX7_run 3 (some .int) :: ((wsX7_run_r1 ++ (wsX7_run_r2 ++ (wsX7_run_r3 ++ wsX7_run_r4))) ++ wsX70)
def wsX7_limit : List Cond := .code yX7_limit cX7_limit 4 none :: ([.fieldLink RX7 30 "LayerMoistureModel" "there" "[Z", .fieldLink RX7 78 "LayerMoistureModel" "thrown" "I", .fieldLink RX7 47 "LayerMoistureModel" "limited" "[Z", .fieldLink RX7 50 "LayerMoistureModel" "limits" "[D", .fieldLink RX7 53 "LayerMoistureModel" "kept" "[I", .methodLink RX7 81 yX7_noBoard, .instanceMethod yX7_noBoard, .selects RX7 yX7_noBoard yX7_noBoard, .initialized RX7, .code yX7_noBoard cX7_noBoard 2 (some .boolean), .fieldLink RX7 75 "LayerMoistureModel" "boards" "I"] ++ wsX70)
def wsX7_isMissing : List Cond := .code yX7_isMissing cX7_isMissing 3 (some .boolean) :: ([.fieldLink RX7 30 "LayerMoistureModel" "there" "[Z", .fieldLink RX7 78 "LayerMoistureModel" "thrown" "I"] ++ wsX70)
def wsX7_check : List Cond := .code yX7_check cX7_check 2 (some .int) :: ([.fieldLink RX7 53 "LayerMoistureModel" "kept" "[I", .methodLink RX7 81 yX7_noBoard, .instanceMethod yX7_noBoard, .selects RX7 yX7_noBoard yX7_noBoard, .initialized RX7, .code yX7_noBoard cX7_noBoard 2 (some .boolean), .fieldLink RX7 75 "LayerMoistureModel" "boards" "I", .methodLink RX7 205 yX7_isMissing, .instanceMethod yX7_isMissing, .selects RX7 yX7_isMissing yX7_isMissing, .code yX7_isMissing cX7_isMissing 3 (some .boolean), .fieldLink RX7 30 "LayerMoistureModel" "there" "[Z", .fieldLink RX7 78 "LayerMoistureModel" "thrown" "I"] ++ wsX70)
def wsX7_wet : List Cond := .code yX7_wet cX7_wet 3 (some .double) :: ([.fieldLink RX7 41 "LayerMoistureModel" "wets" "[D", .methodLink RX7 102 yX7_noLayer, .instanceMethod yX7_noLayer, .selects RX7 yX7_noLayer yX7_noLayer, .initialized RX7, .code yX7_noLayer cX7_noLayer 3 (some .boolean), .fieldLink RX7 71 "LayerMoistureModel" "layers" "I", .methodLink RX7 81 yX7_noBoard, .instanceMethod yX7_noBoard, .selects RX7 yX7_noBoard yX7_noBoard, .code yX7_noBoard cX7_noBoard 2 (some .boolean), .fieldLink RX7 75 "LayerMoistureModel" "boards" "I", .methodLink RX7 205 yX7_isMissing, .instanceMethod yX7_isMissing, .selects RX7 yX7_isMissing yX7_isMissing, .code yX7_isMissing cX7_isMissing 3 (some .boolean), .fieldLink RX7 30 "LayerMoistureModel" "there" "[Z", .fieldLink RX7 78 "LayerMoistureModel" "thrown" "I"] ++ wsX70)
def wsX7_mean : List Cond := .code yX7_mean cX7_mean 2 (some .double) :: ([.methodLink RX7 81 yX7_noBoard, .instanceMethod yX7_noBoard, .selects RX7 yX7_noBoard yX7_noBoard, .initialized RX7, .code yX7_noBoard cX7_noBoard 2 (some .boolean), .fieldLink RX7 75 "LayerMoistureModel" "boards" "I", .methodLink RX7 205 yX7_isMissing, .instanceMethod yX7_isMissing, .selects RX7 yX7_isMissing yX7_isMissing, .code yX7_isMissing cX7_isMissing 3 (some .boolean), .fieldLink RX7 30 "LayerMoistureModel" "there" "[Z", .fieldLink RX7 78 "LayerMoistureModel" "thrown" "I", .methodLink RX7 155 yX7_meanOf, .instanceMethod yX7_meanOf, .selects RX7 yX7_meanOf yX7_meanOf, .code yX7_meanOf cX7_meanOf 2 (some .double), .fieldLink RX7 71 "LayerMoistureModel" "layers" "I", .methodLink RX7 140 yX7_sumOf, .instanceMethod yX7_sumOf, .selects RX7 yX7_sumOf yX7_sumOf, .code yX7_sumOf cX7_sumOf 5 (some .double), .fieldLink RX7 41 "LayerMoistureModel" "wets" "[D"] ++ wsX70)
def wsX7_stress_r1 : List Cond := [Cond.methodLink RX7 102 yX7_noLayer, Cond.instanceMethod yX7_noLayer, Cond.selects RX7 yX7_noLayer yX7_noLayer, Cond.initialized RX7, Cond.code yX7_noLayer cX7_noLayer 3 (some .boolean), Cond.fieldLink RX7 71 "LayerMoistureModel" "layers" "I", Cond.methodLink RX7 81 yX7_noBoard, Cond.instanceMethod yX7_noBoard, Cond.selects RX7 yX7_noBoard yX7_noBoard, Cond.code yX7_noBoard cX7_noBoard 2 (some .boolean), Cond.fieldLink RX7 75 "LayerMoistureModel" "boards" "I", Cond.methodLink RX7 205 yX7_isMissing, Cond.instanceMethod yX7_isMissing, Cond.selects RX7 yX7_isMissing yX7_isMissing, Cond.code yX7_isMissing cX7_isMissing 3 (some .boolean), Cond.fieldLink RX7 30 "LayerMoistureModel" "there" "[Z", Cond.fieldLink RX7 78 "LayerMoistureModel" "thrown" "I", Cond.methodLink RX7 186 yX7_stressOf, Cond.instanceMethod yX7_stressOf, Cond.selects RX7 yX7_stressOf yX7_stressOf, Cond.code yX7_stressOf cX7_stressOf 6 (some .double), Cond.methodLink RX7 183 yX7_share, Cond.instanceMethod yX7_share, Cond.selects RX7 yX7_share yX7_share]
def wsX7_stress_r2 : List Cond := [Cond.code yX7_share cX7_share 5 (some .double), Cond.fieldLink RX7 41 "LayerMoistureModel" "wets" "[D", Cond.constantDouble RX7 150 (4598175219545276416), Cond.constantDouble RX7 181 (4599301119452119040)]
def wsX7_stress : List Cond := .code yX7_stress cX7_stress 3 (some .double) :: ((wsX7_stress_r1 ++ wsX7_stress_r2) ++ wsX70)
def wsX7_balance : List Cond := .code yX7_balance cX7_balance 1 (some .double) :: ([.fieldLink RX7 78 "LayerMoistureModel" "thrown" "I", .methodLink RX7 162 yX7_balanceNow, .instanceMethod yX7_balanceNow, .selects RX7 yX7_balanceNow yX7_balanceNow, .initialized RX7, .code yX7_balanceNow cX7_balanceNow 1 (some .double), .constantDouble RX7 144 (4600427019358961664), .fieldLink RX7 24 "LayerMoistureModel" "damp" "D", .fieldLink RX7 18 "LayerMoistureModel" "kelvin" "D", .constantDouble RX7 146 (4643510282981736448), .constantDouble RX7 148 (4643211215818981376)] ++ wsX70)
def wsX7_told : List Cond := .code yX7_told cX7_told 2 (some .double) :: ([.fieldLink RX7 78 "LayerMoistureModel" "thrown" "I", .fieldLink RX7 18 "LayerMoistureModel" "kelvin" "D", .fieldLink RX7 24 "LayerMoistureModel" "damp" "D", .fieldLink RX7 27 "LayerMoistureModel" "speed" "D", .fieldLink RX7 99 "LayerMoistureModel" "vent" "D", .fieldLink RX7 172 "LayerMoistureModel" "left" "D"] ++ wsX70)
def wsX7_grams : List Cond := .code yX7_grams cX7_grams 1 (some .long) :: ([.fieldLink RX7 78 "LayerMoistureModel" "thrown" "I", .fieldLink RX7 175 "LayerMoistureModel" "gone" "J"] ++ wsX70)
def wsX7_count : List Cond := .code yX7_count cX7_count 4 (some .int) :: ([.fieldLink RX7 78 "LayerMoistureModel" "thrown" "I", .fieldLink RX7 152 "LayerMoistureModel" "hours" "I", .fieldLink RX7 134 "LayerMoistureModel" "done" "I", .fieldLink RX7 75 "LayerMoistureModel" "boards" "I", .fieldLink RX7 30 "LayerMoistureModel" "there" "[Z"] ++ wsX70)
def wsJx00060_init_a7421 : List Cond := .code yJx00060_init_a7421 cJx00060_init_a7421 2 none :: ([])
def wsJ9_max_7cf53 : List Cond := .code yJ9_max_7cf53 cJ9_max_7cf53 2 (some .int) :: ([])
def wsJ9_min_7cf53 : List Cond := .code yJ9_min_7cf53 cJ9_min_7cf53 2 (some .int) :: ([])
def wsL_cell : List Cond := .code yL_cell cL_cell 2 (some .int) :: ([])
def wsL_board_r1 : List Cond := [Cond.classLink RL 13 "java/lang/ArrayIndexOutOfBoundsException", Cond.classLink RL 15 "java/lang/IllegalArgumentException", Cond.methodLink RL 7 yX6_board, Cond.instanceMethod yX6_board, Cond.selects RX6 yX6_board yX6_board, Cond.initialized RX6, Cond.code yX6_board cX6_board 9 none, Cond.constantDouble RX6 74 (4645744490609377280), Cond.constantDouble RX6 80 (4613937818241073152), Cond.methodLink RX6 66 yX6_slotOf, Cond.instanceMethod yX6_slotOf, Cond.selects RX6 yX6_slotOf yX6_slotOf, Cond.code yX6_slotOf cX6_slotOf 2 (some (.object "LayerMoisture$Board")), Cond.fieldLink RX6 31 "LayerMoisture" "boards" "[LLayerMoisture$Board;", Cond.classLink RX6 177 RJx00060, Cond.instantiable RJx00060 6, Cond.initialized RJx00060, Cond.methodLink RX6 70 yX6_kindOf, Cond.instanceMethod yX6_kindOf, Cond.selects RX6 yX6_kindOf yX6_kindOf, Cond.code yX6_kindOf cX6_kindOf 2 (some (.object "LayerMoisture$Kind")), Cond.fieldLink RX6 24 "LayerMoisture" "kinds" "[LLayerMoisture$Kind;", Cond.methodLink RX6 76 yX6_requireWithin, Cond.static yX6_requireWithin]
def wsL_board_r2 : List Cond := [Cond.code yX6_requireWithin cX6_requireWithin 6 none, Cond.classLink RX6 131 "java/lang/IllegalArgumentException", Cond.initialized "java/lang/IllegalArgumentException", Cond.methodLink RX6 82 yX1_lay, Cond.instanceMethod yX1_lay, Cond.selects RX1 yX1_lay yX1_lay, Cond.initialized RX1, Cond.code yX1_lay cX1_lay 7 none, Cond.fieldLink RX1 19 "LayerMoisture$Board" "there" "Z", Cond.fieldLink RX1 9 "LayerMoisture$Board" "wetness" "[D", Cond.fieldLink RX1 23 "LayerMoisture$Board" "depth" "D", Cond.fieldLink RX1 15 "LayerMoisture$Board" "kind" "LLayerMoisture$Kind;", Cond.fieldLink RX1 27 "LayerMoisture$Board" "limited" "Z", Cond.fieldLink RX1 30 "LayerMoisture$Board" "keptHour" "I"]
def wsL_board : List Cond := .codeWith yL_board cL_board 8 (some .int) [(0, 10, 13, 13), (0, 10, 17, 15)] :: ((wsL_board_r1 ++ wsL_board_r2) ++ wsX60 ++ wsJx000600 ++ wsX10 ++ (vx_atS RX6 135 "java/lang/IllegalArgumentException" ["java/lang/RuntimeException", "java/lang/Exception"]).filter goodWord)
def wsL_rate : List Cond := .codeWith yL_rate cL_rate 7 (some .int) [(0, 8, 11, 13), (0, 8, 15, 15)] :: ([.classLink RL 13 "java/lang/ArrayIndexOutOfBoundsException", .classLink RL 15 "java/lang/IllegalArgumentException", .methodLink RL 17 yX6_rate, .instanceMethod yX6_rate, .selects RX6 yX6_rate yX6_rate, .initialized RX6, .code yX6_rate cX6_rate 7 none, .constantDouble RX6 86 (4620693217682128896), .fieldLink RX6 88 "LayerMoisture$Kind" "a" "D", .fieldLink RX6 92 "LayerMoisture$Kind" "b" "D", .methodLink RX6 70 yX6_kindOf, .instanceMethod yX6_kindOf, .selects RX6 yX6_kindOf yX6_kindOf, .code yX6_kindOf cX6_kindOf 2 (some (.object "LayerMoisture$Kind")), .fieldLink RX6 24 "LayerMoisture" "kinds" "[LLayerMoisture$Kind;", .classLink RX6 177 RJx00060, .instantiable RJx00060 6, .initialized RJx00060, .methodLink RX6 76 yX6_requireWithin, .static yX6_requireWithin, .code yX6_requireWithin cX6_requireWithin 6 none, .classLink RX6 131 "java/lang/IllegalArgumentException", .initialized "java/lang/IllegalArgumentException"] ++ wsX20 ++ wsX60 ++ wsJx000600 ++ (vx_atS RX6 135 "java/lang/IllegalArgumentException" ["java/lang/RuntimeException", "java/lang/Exception"]).filter goodWord)
def wsL_air : List Cond := .codeWith yL_air cL_air 8 (some .int) [(0, 8, 11, 15)] :: ([.classLink RL 15 "java/lang/IllegalArgumentException", .methodLink RL 21 yX6_air, .instanceMethod yX6_air, .selects RX6 yX6_air yX6_air, .initialized RX6, .code yX6_air cX6_air 7 none, .constantDouble RX6 95 (4643000109586448384), .constantDouble RX6 74 (4645744490609377280), .constantDouble RX6 97 (4625196817309499392), .fieldLink RX6 41 "LayerMoisture" "state" "LLayerMoisture$Air;", .fieldLink RX6 99 "LayerMoisture$Air" "kelvin" "D", .fieldLink RX6 102 "LayerMoisture$Air" "damp" "D", .fieldLink RX6 105 "LayerMoisture$Air" "speed" "D", .methodLink RX6 76 yX6_requireWithin, .static yX6_requireWithin, .code yX6_requireWithin cX6_requireWithin 6 none, .classLink RX6 131 "java/lang/IllegalArgumentException", .initialized "java/lang/IllegalArgumentException"] ++ wsX60 ++ wsX00 ++ (vx_atS RX6 135 "java/lang/IllegalArgumentException" ["java/lang/RuntimeException", "java/lang/Exception"]).filter goodWord)
def wsL_vent : List Cond := .codeWith yL_vent cL_vent 4 (some .int) [(0, 5, 8, 15)] :: ([.classLink RL 15 "java/lang/IllegalArgumentException", .methodLink RL 25 yX6_vent, .instanceMethod yX6_vent, .selects RX6 yX6_vent yX6_vent, .initialized RX6, .code yX6_vent cX6_vent 3 none, .fieldLink RX6 41 "LayerMoisture" "state" "LLayerMoisture$Air;", .fieldLink RX6 108 "LayerMoisture$Air" "ventShare" "D", .methodLink RX6 76 yX6_requireWithin, .static yX6_requireWithin, .code yX6_requireWithin cX6_requireWithin 6 none, .classLink RX6 131 "java/lang/IllegalArgumentException", .initialized "java/lang/IllegalArgumentException"] ++ wsX60 ++ wsX00 ++ (vx_atS RX6 135 "java/lang/IllegalArgumentException" ["java/lang/RuntimeException", "java/lang/Exception"]).filter goodWord)
def wsL_soak_r1 : List Cond := [Cond.classLink RL 13 "java/lang/ArrayIndexOutOfBoundsException", Cond.classLink RL 15 "java/lang/IllegalArgumentException", Cond.classLink RL 33 "java/lang/IllegalStateException", Cond.methodLink RL 29 yX6_soak, Cond.instanceMethod yX6_soak, Cond.selects RX6 yX6_soak yX6_soak, Cond.initialized RX6, Cond.code yX6_soak cX6_soak 6 none, Cond.constantDouble RX6 80 (4613937818241073152), Cond.fieldLink RX6 119 "LayerMoisture$Board" "wetness" "[D", Cond.methodLink RX6 66 yX6_slotOf, Cond.instanceMethod yX6_slotOf, Cond.selects RX6 yX6_slotOf yX6_slotOf, Cond.code yX6_slotOf cX6_slotOf 2 (some (.object "LayerMoisture$Board")), Cond.fieldLink RX6 31 "LayerMoisture" "boards" "[LLayerMoisture$Board;", Cond.classLink RX6 177 RJx00060, Cond.instantiable RJx00060 6, Cond.initialized RJx00060, Cond.methodLink RX6 111 yX6_requireLayer, Cond.instanceMethod yX6_requireLayer, Cond.selects RX6 yX6_requireLayer yX6_requireLayer, Cond.code yX6_requireLayer cX6_requireLayer 2 none, Cond.fieldLink RX6 18 "LayerMoisture" "layerCount" "I", Cond.methodLink RX6 76 yX6_requireWithin]
def wsL_soak_r2 : List Cond := [Cond.static yX6_requireWithin, Cond.code yX6_requireWithin cX6_requireWithin 6 none, Cond.classLink RX6 131 "java/lang/IllegalArgumentException", Cond.initialized "java/lang/IllegalArgumentException", Cond.methodLink RX6 115 yX6_requireThere, Cond.static yX6_requireThere, Cond.code yX6_requireThere cX6_requireThere 1 none, Cond.classLink RX6 205 "java/lang/IllegalStateException", Cond.initialized "java/lang/IllegalStateException", Cond.fieldLink RX6 201 "LayerMoisture$Board" "there" "Z"]
def wsL_soak : List Cond := .codeWith yL_soak cL_soak 6 (some .int) [(0, 7, 10, 13), (0, 7, 14, 15), (0, 7, 18, 33)] :: ((wsL_soak_r1 ++ wsL_soak_r2) ++ wsX10 ++ wsX60 ++ wsJx000600 ++ (vx_atS RX6 135 "java/lang/IllegalArgumentException" ["java/lang/RuntimeException", "java/lang/Exception"]).filter goodWord ++ (vx_atS RX6 209 "java/lang/IllegalStateException" ["java/lang/RuntimeException", "java/lang/Exception"]).filter goodWord)
def wsL_run_r1 : List Cond := [Cond.classLink RL 15 "java/lang/IllegalArgumentException", Cond.methodLink RL 35 yX6_run, Cond.instanceMethod yX6_run, Cond.selects RX6 yX6_run yX6_run, Cond.initialized RX6, Cond.code yX6_run cX6_run 3 (some .int), Cond.classLink RX6 131 "java/lang/IllegalArgumentException", Cond.initialized "java/lang/IllegalArgumentException", Cond.fieldLink RX6 142 "LayerMoisture" "hoursPassed" "I", Cond.methodLink RX6 138 yX6_isRefused, Cond.instanceMethod yX6_isRefused, Cond.selects RX6 yX6_isRefused yX6_isRefused, Cond.code yX6_isRefused cX6_isRefused 2 (some .boolean), Cond.fieldLink RX6 31 "LayerMoisture" "boards" "[LLayerMoisture$Board;", Cond.fieldLink RX6 201 "LayerMoisture$Board" "there" "Z", Cond.fieldLink RX6 41 "LayerMoisture" "state" "LLayerMoisture$Air;", Cond.fieldLink RX6 105 "LayerMoisture$Air" "speed" "D", Cond.methodLink RX6 212 yX1_refuses, Cond.instanceMethod yX1_refuses, Cond.selects RX1 yX1_refuses yX1_refuses, Cond.initialized RX1, Cond.code yX1_refuses cX1_refuses 3 (some .boolean), Cond.constantDouble RX1 37 (4620693217682128896), Cond.fieldLink RX1 23 "LayerMoisture$Board" "depth" "D"]
def wsL_run_r2 : List Cond := [Cond.constantDouble RX1 39 (4598175219545276416), Cond.fieldLink RX1 15 "LayerMoisture$Board" "kind" "LLayerMoisture$Kind;", Cond.methodLink RX1 41 yX1_greatestWetness, Cond.instanceMethod yX1_greatestWetness, Cond.selects RX1 yX1_greatestWetness yX1_greatestWetness, Cond.code yX1_greatestWetness cX1_greatestWetness 4 (some .double), Cond.fieldLink RX1 9 "LayerMoisture$Board" "wetness" "[D", Cond.methodLink RX1 45 yX2_speedAt, Cond.instanceMethod yX2_speedAt, Cond.selects RX2 yX2_speedAt yX2_speedAt, Cond.initialized RX2, Cond.code yX2_speedAt cX2_speedAt 3 (some .double), Cond.fieldLink RX2 7 "LayerMoisture$Kind" "a" "D", Cond.fieldLink RX2 13 "LayerMoisture$Kind" "b" "D", Cond.methodLink RX6 145 yX6_passHour, Cond.instanceMethod yX6_passHour, Cond.selects RX6 yX6_passHour yX6_passHour, Cond.code yX6_passHour cX6_passHour 4 none, Cond.fieldLink RX6 48 "LayerMoisture" "ledger" "LLayerMoisture$Ledger;", Cond.methodLink RX6 216 yX6_followPlan, Cond.instanceMethod yX6_followPlan, Cond.selects RX6 yX6_followPlan yX6_followPlan, Cond.code yX6_followPlan cX6_followPlan 1 none, Cond.fieldLink RX6 62 "LayerMoisture" "plan" "LLayerMoisture$Plan;"]
def wsL_run_r3 : List Cond := [Cond.fieldLink RX6 186 "LayerMoisture$Plan" "done" "I", Cond.fieldLink RX6 232 "LayerMoisture$Plan" "steps" "I", Cond.fieldLink RX6 238 "LayerMoisture$Plan" "kelvins" "[I", Cond.fieldLink RX6 99 "LayerMoisture$Air" "kelvin" "D", Cond.fieldLink RX6 242 "LayerMoisture$Plan" "damps" "[I", Cond.constantDouble RX6 245 (4636737291354636288), Cond.fieldLink RX6 102 "LayerMoisture$Air" "damp" "D", Cond.methodLink RX6 235 yX6_isStepDue, Cond.instanceMethod yX6_isStepDue, Cond.selects RX6 yX6_isStepDue yX6_isStepDue, Cond.code yX6_isStepDue cX6_isStepDue 2 (some .boolean), Cond.fieldLink RX6 247 "LayerMoisture$Plan" "byHours" "[Z", Cond.fieldLink RX6 251 "LayerMoisture$Plan" "times" "[I", Cond.methodLink RX6 189 yX6_boardsThere, Cond.instanceMethod yX6_boardsThere, Cond.selects RX6 yX6_boardsThere yX6_boardsThere, Cond.code yX6_boardsThere cX6_boardsThere 3 (some .int), Cond.methodLink RX6 254 yX6_isAnyWetterThan, Cond.instanceMethod yX6_isAnyWetterThan, Cond.selects RX6 yX6_isAnyWetterThan yX6_isAnyWetterThan, Cond.code yX6_isAnyWetterThan cX6_isAnyWetterThan 4 (some .boolean), Cond.methodLink RX6 160 yX1_meanWetness, Cond.instanceMethod yX1_meanWetness, Cond.selects RX1 yX1_meanWetness yX1_meanWetness]
def wsL_run_r4 : List Cond := [Cond.code yX1_meanWetness cX1_meanWetness 4 (some .double), Cond.methodLink RX6 171 yX0_balanceNow, Cond.instanceMethod yX0_balanceNow, Cond.selects RX0 yX0_balanceNow yX0_balanceNow, Cond.initialized RX0, Cond.code yX0_balanceNow cX0_balanceNow 1 (some .double), Cond.constantDouble RX0 26 (4600427019358961664), Cond.fieldLink RX0 17 "LayerMoisture$Air" "damp" "D", Cond.fieldLink RX0 9 "LayerMoisture$Air" "kelvin" "D", Cond.constantDouble RX0 28 (4643510282981736448), Cond.constantDouble RX0 30 (4643211215818981376), Cond.methodLink RX6 219 yX1_dry, Cond.instanceMethod yX1_dry, Cond.selects RX1 yX1_dry yX1_dry, Cond.code yX1_dry cX1_dry 15 (some .double), Cond.constantDouble RX1 59 (4634204016564240384), Cond.methodLink RX1 51 yX1_faceFlow, Cond.instanceMethod yX1_faceFlow, Cond.selects RX1 yX1_faceFlow yX1_faceFlow, Cond.code yX1_faceFlow cX1_faceFlow 7 (some .double), Cond.methodLink RX1 55 yX1_slopeFlow, Cond.instanceMethod yX1_slopeFlow, Cond.selects RX1 yX1_slopeFlow yX1_slopeFlow, Cond.code yX1_slopeFlow cX1_slopeFlow 5 (some .double)]
def wsL_run_r5 : List Cond := [Cond.constantDouble RX1 61 (4611686018427387904), Cond.methodLink RX6 223 yX3_take, Cond.instanceMethod yX3_take, Cond.selects RX3 yX3_take yX3_take, Cond.initialized RX3, Cond.code yX3_take cX3_take 5 none, Cond.fieldLink RX3 7 "LayerMoisture$Ledger" "rest" "D", Cond.fieldLink RX3 13 "LayerMoisture$Ledger" "gone" "J", Cond.methodLink RX6 226 yX0_takeUp, Cond.instanceMethod yX0_takeUp, Cond.selects RX0 yX0_takeUp yX0_takeUp, Cond.code yX0_takeUp cX0_takeUp 5 none, Cond.constantDouble RX0 32 (4679240012837945344), Cond.fieldLink RX0 23 "LayerMoisture$Air" "ventShare" "D", Cond.methodLink RX6 229 yX1_watchLoad, Cond.instanceMethod yX1_watchLoad, Cond.selects RX1 yX1_watchLoad yX1_watchLoad, Cond.code yX1_watchLoad cX1_watchLoad 2 none, Cond.fieldLink RX1 27 "LayerMoisture$Board" "limited" "Z", Cond.fieldLink RX1 30 "LayerMoisture$Board" "keptHour" "I", Cond.fieldLink RX1 34 "LayerMoisture$Board" "loadLimit" "D", Cond.methodLink RX1 71 yX1_greatestLoad, Cond.instanceMethod yX1_greatestLoad, Cond.selects RX1 yX1_greatestLoad yX1_greatestLoad]
def wsL_run_r6 : List Cond := [Cond.code yX1_greatestLoad cX1_greatestLoad 10 (some .double), Cond.methodLink RX1 68 yX1_meanShrinkage, Cond.instanceMethod yX1_meanShrinkage, Cond.selects RX1 yX1_meanShrinkage yX1_meanShrinkage, Cond.code yX1_meanShrinkage cX1_meanShrinkage 4 (some .double), Cond.methodLink RX1 65 yX1_shrinkage, Cond.static yX1_shrinkage, Cond.code yX1_shrinkage cX1_shrinkage 2 (some .double), Cond.constantDouble RX1 63 (4599301119452119040)]
def wsL_run : List Cond := .codeWith yL_run cL_run 4 (some .int) [(0, 9, 12, 15)] :: ((wsL_run_r1 ++ (wsL_run_r2 ++ (wsL_run_r3 ++ (wsL_run_r4 ++ (wsL_run_r5 ++ wsL_run_r6))))) ++ wsX60 ++ wsX10 ++ wsX00 ++ wsX20 ++ wsX40 ++ wsX30 ++ (vx_atS RX6 135 "java/lang/IllegalArgumentException" ["java/lang/RuntimeException", "java/lang/Exception"]).filter goodWord)
def wsL_limit_r1 : List Cond := [Cond.classLink RL 13 "java/lang/ArrayIndexOutOfBoundsException", Cond.classLink RL 15 "java/lang/IllegalArgumentException", Cond.classLink RL 33 "java/lang/IllegalStateException", Cond.methodLink RL 39 yX6_limit, Cond.instanceMethod yX6_limit, Cond.selects RX6 yX6_limit yX6_limit, Cond.initialized RX6, Cond.code yX6_limit cX6_limit 5 none, Cond.classLink RX6 131 "java/lang/IllegalArgumentException", Cond.initialized "java/lang/IllegalArgumentException", Cond.methodLink RX6 66 yX6_slotOf, Cond.instanceMethod yX6_slotOf, Cond.selects RX6 yX6_slotOf yX6_slotOf, Cond.code yX6_slotOf cX6_slotOf 2 (some (.object "LayerMoisture$Board")), Cond.fieldLink RX6 31 "LayerMoisture" "boards" "[LLayerMoisture$Board;", Cond.classLink RX6 177 RJx00060, Cond.instantiable RJx00060 6, Cond.initialized RJx00060, Cond.methodLink RX6 115 yX6_requireThere, Cond.static yX6_requireThere, Cond.code yX6_requireThere cX6_requireThere 1 none, Cond.classLink RX6 205 "java/lang/IllegalStateException", Cond.initialized "java/lang/IllegalStateException", Cond.fieldLink RX6 201 "LayerMoisture$Board" "there" "Z"]
def wsL_limit_r2 : List Cond := [Cond.methodLink RX6 150 yX1_setLimit, Cond.instanceMethod yX1_setLimit, Cond.selects RX1 yX1_setLimit yX1_setLimit, Cond.initialized RX1, Cond.code yX1_setLimit cX1_setLimit 3 none, Cond.fieldLink RX1 27 "LayerMoisture$Board" "limited" "Z", Cond.fieldLink RX1 34 "LayerMoisture$Board" "loadLimit" "D", Cond.fieldLink RX1 30 "LayerMoisture$Board" "keptHour" "I"]
def wsL_limit : List Cond := .codeWith yL_limit cL_limit 5 (some .int) [(0, 6, 9, 13), (0, 6, 13, 15), (0, 6, 17, 33)] :: ((wsL_limit_r1 ++ wsL_limit_r2) ++ wsX60 ++ wsJx000600 ++ wsX10 ++ (vx_atS RX6 135 "java/lang/IllegalArgumentException" ["java/lang/RuntimeException", "java/lang/Exception"]).filter goodWord ++ (vx_atS RX6 209 "java/lang/IllegalStateException" ["java/lang/RuntimeException", "java/lang/Exception"]).filter goodWord)
def wsL_check_r1 : List Cond := [Cond.classLink RL 13 "java/lang/ArrayIndexOutOfBoundsException", Cond.classLink RL 33 "java/lang/IllegalStateException", Cond.methodLink RL 43 yX6_check, Cond.instanceMethod yX6_check, Cond.selects RX6 yX6_check yX6_check, Cond.initialized RX6, Cond.code yX6_check cX6_check 2 (some .int), Cond.fieldLink RX6 157 "LayerMoisture$Board" "keptHour" "I", Cond.methodLink RX6 154 yX6_boardThere, Cond.instanceMethod yX6_boardThere, Cond.selects RX6 yX6_boardThere yX6_boardThere, Cond.code yX6_boardThere cX6_boardThere 3 (some (.object "LayerMoisture$Board")), Cond.methodLink RX6 66 yX6_slotOf, Cond.instanceMethod yX6_slotOf, Cond.selects RX6 yX6_slotOf yX6_slotOf, Cond.code yX6_slotOf cX6_slotOf 2 (some (.object "LayerMoisture$Board")), Cond.fieldLink RX6 31 "LayerMoisture" "boards" "[LLayerMoisture$Board;", Cond.classLink RX6 177 RJx00060, Cond.instantiable RJx00060 6, Cond.initialized RJx00060, Cond.methodLink RX6 115 yX6_requireThere, Cond.static yX6_requireThere, Cond.code yX6_requireThere cX6_requireThere 1 none, Cond.classLink RX6 205 "java/lang/IllegalStateException"]
def wsL_check_r2 : List Cond := [Cond.initialized "java/lang/IllegalStateException", Cond.fieldLink RX6 201 "LayerMoisture$Board" "there" "Z"]
def wsL_check : List Cond := .codeWith yL_check cL_check 4 (some .int) [(0, 9, 12, 13), (0, 9, 15, 33)] :: ((wsL_check_r1 ++ wsL_check_r2) ++ wsX10 ++ wsX60 ++ wsJx000600 ++ (vx_atS RX6 209 "java/lang/IllegalStateException" ["java/lang/RuntimeException", "java/lang/Exception"]).filter goodWord)
def wsL_wet_r1 : List Cond := [Cond.classLink RL 13 "java/lang/ArrayIndexOutOfBoundsException", Cond.classLink RL 33 "java/lang/IllegalStateException", Cond.methodLink RL 46 yX6_wet, Cond.instanceMethod yX6_wet, Cond.selects RX6 yX6_wet yX6_wet, Cond.initialized RX6, Cond.code yX6_wet cX6_wet 4 (some .double), Cond.fieldLink RX6 119 "LayerMoisture$Board" "wetness" "[D", Cond.methodLink RX6 66 yX6_slotOf, Cond.instanceMethod yX6_slotOf, Cond.selects RX6 yX6_slotOf yX6_slotOf, Cond.code yX6_slotOf cX6_slotOf 2 (some (.object "LayerMoisture$Board")), Cond.fieldLink RX6 31 "LayerMoisture" "boards" "[LLayerMoisture$Board;", Cond.classLink RX6 177 RJx00060, Cond.instantiable RJx00060 6, Cond.initialized RJx00060, Cond.methodLink RX6 111 yX6_requireLayer, Cond.instanceMethod yX6_requireLayer, Cond.selects RX6 yX6_requireLayer yX6_requireLayer, Cond.code yX6_requireLayer cX6_requireLayer 2 none, Cond.fieldLink RX6 18 "LayerMoisture" "layerCount" "I", Cond.methodLink RX6 115 yX6_requireThere, Cond.static yX6_requireThere, Cond.code yX6_requireThere cX6_requireThere 1 none]
def wsL_wet_r2 : List Cond := [Cond.classLink RX6 205 "java/lang/IllegalStateException", Cond.initialized "java/lang/IllegalStateException", Cond.fieldLink RX6 201 "LayerMoisture$Board" "there" "Z"]
def wsL_wet : List Cond := .codeWith yL_wet cL_wet 5 (some .int) [(0, 9, 12, 13), (0, 9, 16, 33)] :: ((wsL_wet_r1 ++ wsL_wet_r2) ++ wsX10 ++ wsX60 ++ wsJx000600 ++ (vx_atS RX6 209 "java/lang/IllegalStateException" ["java/lang/RuntimeException", "java/lang/Exception"]).filter goodWord)
def wsL_mean_r1 : List Cond := [Cond.classLink RL 13 "java/lang/ArrayIndexOutOfBoundsException", Cond.classLink RL 33 "java/lang/IllegalStateException", Cond.methodLink RL 50 yX6_mean, Cond.instanceMethod yX6_mean, Cond.selects RX6 yX6_mean yX6_mean, Cond.initialized RX6, Cond.code yX6_mean cX6_mean 2 (some .double), Cond.methodLink RX6 154 yX6_boardThere, Cond.instanceMethod yX6_boardThere, Cond.selects RX6 yX6_boardThere yX6_boardThere, Cond.code yX6_boardThere cX6_boardThere 3 (some (.object "LayerMoisture$Board")), Cond.methodLink RX6 66 yX6_slotOf, Cond.instanceMethod yX6_slotOf, Cond.selects RX6 yX6_slotOf yX6_slotOf, Cond.code yX6_slotOf cX6_slotOf 2 (some (.object "LayerMoisture$Board")), Cond.fieldLink RX6 31 "LayerMoisture" "boards" "[LLayerMoisture$Board;", Cond.classLink RX6 177 RJx00060, Cond.instantiable RJx00060 6, Cond.initialized RJx00060, Cond.methodLink RX6 115 yX6_requireThere, Cond.static yX6_requireThere, Cond.code yX6_requireThere cX6_requireThere 1 none, Cond.classLink RX6 205 "java/lang/IllegalStateException", Cond.initialized "java/lang/IllegalStateException"]
def wsL_mean_r2 : List Cond := [Cond.fieldLink RX6 201 "LayerMoisture$Board" "there" "Z", Cond.methodLink RX6 160 yX1_meanWetness, Cond.instanceMethod yX1_meanWetness, Cond.selects RX1 yX1_meanWetness yX1_meanWetness, Cond.initialized RX1, Cond.code yX1_meanWetness cX1_meanWetness 4 (some .double), Cond.fieldLink RX1 9 "LayerMoisture$Board" "wetness" "[D"]
def wsL_mean : List Cond := .codeWith yL_mean cL_mean 4 (some .int) [(0, 8, 11, 13), (0, 8, 14, 33)] :: ((wsL_mean_r1 ++ wsL_mean_r2) ++ wsX60 ++ wsJx000600 ++ wsX10 ++ (vx_atS RX6 209 "java/lang/IllegalStateException" ["java/lang/RuntimeException", "java/lang/Exception"]).filter goodWord)
def wsL_stress_r1 : List Cond := [Cond.classLink RL 13 "java/lang/ArrayIndexOutOfBoundsException", Cond.classLink RL 33 "java/lang/IllegalStateException", Cond.methodLink RL 54 yX6_stress, Cond.instanceMethod yX6_stress, Cond.selects RX6 yX6_stress yX6_stress, Cond.initialized RX6, Cond.code yX6_stress cX6_stress 4 (some .double), Cond.fieldLink RX6 119 "LayerMoisture$Board" "wetness" "[D", Cond.methodLink RX6 66 yX6_slotOf, Cond.instanceMethod yX6_slotOf, Cond.selects RX6 yX6_slotOf yX6_slotOf, Cond.code yX6_slotOf cX6_slotOf 2 (some (.object "LayerMoisture$Board")), Cond.fieldLink RX6 31 "LayerMoisture" "boards" "[LLayerMoisture$Board;", Cond.classLink RX6 177 RJx00060, Cond.instantiable RJx00060 6, Cond.initialized RJx00060, Cond.methodLink RX6 111 yX6_requireLayer, Cond.instanceMethod yX6_requireLayer, Cond.selects RX6 yX6_requireLayer yX6_requireLayer, Cond.code yX6_requireLayer cX6_requireLayer 2 none, Cond.fieldLink RX6 18 "LayerMoisture" "layerCount" "I", Cond.methodLink RX6 115 yX6_requireThere, Cond.static yX6_requireThere, Cond.code yX6_requireThere cX6_requireThere 1 none]
def wsL_stress_r2 : List Cond := [Cond.classLink RX6 205 "java/lang/IllegalStateException", Cond.initialized "java/lang/IllegalStateException", Cond.fieldLink RX6 201 "LayerMoisture$Board" "there" "Z", Cond.methodLink RX6 164 yX1_shrinkage, Cond.static yX1_shrinkage, Cond.initialized RX1, Cond.code yX1_shrinkage cX1_shrinkage 2 (some .double), Cond.constantDouble RX1 39 (4598175219545276416), Cond.constantDouble RX1 63 (4599301119452119040), Cond.methodLink RX6 168 yX1_meanShrinkage, Cond.instanceMethod yX1_meanShrinkage, Cond.selects RX1 yX1_meanShrinkage yX1_meanShrinkage, Cond.code yX1_meanShrinkage cX1_meanShrinkage 4 (some .double), Cond.fieldLink RX1 9 "LayerMoisture$Board" "wetness" "[D", Cond.methodLink RX1 65 yX1_shrinkage]
def wsL_stress : List Cond := .codeWith yL_stress cL_stress 5 (some .int) [(0, 9, 12, 13), (0, 9, 16, 33)] :: ((wsL_stress_r1 ++ wsL_stress_r2) ++ wsX10 ++ wsX60 ++ wsJx000600 ++ (vx_atS RX6 209 "java/lang/IllegalStateException" ["java/lang/RuntimeException", "java/lang/Exception"]).filter goodWord)
def wsL_told : List Cond := .codeWith yL_told cL_told 4 (some .int) [(0, 8, 11, 13)] :: ([.methodLink RL 57 yX6_told, .instanceMethod yX6_told, .selects RX6 yX6_told yX6_told, .initialized RX6, .code yX6_told cX6_told 2 (some .double), .fieldLink RX6 41 "LayerMoisture" "state" "LLayerMoisture$Air;", .fieldLink RX6 99 "LayerMoisture$Air" "kelvin" "D", .fieldLink RX6 102 "LayerMoisture$Air" "damp" "D", .fieldLink RX6 105 "LayerMoisture$Air" "speed" "D", .fieldLink RX6 108 "LayerMoisture$Air" "ventShare" "D", .fieldLink RX6 48 "LayerMoisture" "ledger" "LLayerMoisture$Ledger;", .fieldLink RX6 174 "LayerMoisture$Ledger" "rest" "D", .classLink RX6 177 RJx00060, .instantiable RJx00060 6, .initialized RJx00060] ++ wsX60 ++ wsX00 ++ wsX30 ++ wsJx000600)
def wsL_count : List Cond := .codeWith yL_count cL_count 4 (some .int) [(0, 9, 12, 13)] :: ([.methodLink RL 60 yX6_count, .instanceMethod yX6_count, .selects RX6 yX6_count yX6_count, .initialized RX6, .code yX6_count cX6_count 2 (some .int), .fieldLink RX6 142 "LayerMoisture" "hoursPassed" "I", .fieldLink RX6 62 "LayerMoisture" "plan" "LLayerMoisture$Plan;", .fieldLink RX6 186 "LayerMoisture$Plan" "done" "I", .classLink RX6 177 RJx00060, .instantiable RJx00060 6, .initialized RJx00060, .methodLink RX6 189 yX6_boardsThere, .instanceMethod yX6_boardsThere, .selects RX6 yX6_boardsThere yX6_boardsThere, .code yX6_boardsThere cX6_boardsThere 3 (some .int), .fieldLink RX6 31 "LayerMoisture" "boards" "[LLayerMoisture$Board;", .fieldLink RX6 201 "LayerMoisture$Board" "there" "Z"] ++ wsX60 ++ wsX40 ++ wsJx000600 ++ wsX10)
def wsL_law0_r1 : List Cond := [Cond.classLink RL 8 RX6, Cond.instantiable RX6 8, Cond.initialized RX6, Cond.classLink RL 72 RX7, Cond.instantiable RX7 31, Cond.initialized RX7, Cond.arrayClass .long, Cond.arrayClass .double, Cond.constantDouble RL 75 (4593671619917905920), Cond.methodLink RL 63 yL_cell, Cond.static yL_cell, Cond.initialized RL, Cond.code yL_cell cL_cell 2 (some .int), Cond.methodLink RL 69 yX6_init, Cond.instanceMethod yX6_init, Cond.code yX6_init cX6_init 4 none, Cond.methodLink RX6 1 objectInit, Cond.instanceMethod objectInit, Cond.code objectInit ⟨#[0xb1]⟩ 1 none, Cond.methodLink RX6 9 Lib.Math.min.name, Cond.static Lib.Math.min.name, Cond.initialized "java/lang/Math", Cond.code Lib.Math.min.name Lib.Math.min.code 2 (some .int), Cond.methodLink RX6 15 Lib.Math.max.name]
def wsL_law0_r2 : List Cond := [Cond.static Lib.Math.max.name, Cond.code Lib.Math.max.name Lib.Math.max.code 2 (some .int), Cond.fieldLink RX6 18 "LayerMoisture" "layerCount" "I", Cond.classLink RX6 22 RX2, Cond.fieldLink RX6 24 "LayerMoisture" "kinds" "[LLayerMoisture$Kind;", Cond.instantiable RX2 2, Cond.initialized RX2, Cond.classLink RX6 29 RX1, Cond.fieldLink RX6 31 "LayerMoisture" "boards" "[LLayerMoisture$Board;", Cond.instantiable RX1 7, Cond.initialized RX1, Cond.classLink RX6 38 RX0, Cond.instantiable RX0 4, Cond.initialized RX0, Cond.fieldLink RX6 41 "LayerMoisture" "state" "LLayerMoisture$Air;", Cond.classLink RX6 45 RX3, Cond.instantiable RX3 2, Cond.initialized RX3, Cond.fieldLink RX6 48 "LayerMoisture" "ledger" "LLayerMoisture$Ledger;", Cond.classLink RX6 52 RX5, Cond.instantiable RX5 3, Cond.initialized RX5, Cond.fieldLink RX6 55 "LayerMoisture" "text" "LLayerMoisture$Text;", Cond.classLink RX6 59 RX4]
def wsL_law0_r3 : List Cond := [Cond.instantiable RX4 6, Cond.initialized RX4, Cond.fieldLink RX6 62 "LayerMoisture" "plan" "LLayerMoisture$Plan;", Cond.instanceMethod yX2_init, Cond.code yX2_init cX2_init 1 none, Cond.methodLink RX2 1 objectInit, Cond.methodLink RX6 35 yX1_init, Cond.instanceMethod yX1_init, Cond.code yX1_init cX1_init 3 none, Cond.methodLink RX1 3 objectInit, Cond.fieldLink RX1 9 "LayerMoisture$Board" "wetness" "[D", Cond.fieldLink RX1 15 "LayerMoisture$Board" "kind" "LLayerMoisture$Kind;", Cond.instanceMethod yX0_init, Cond.code yX0_init cX0_init 1 none, Cond.methodLink RX0 1 objectInit, Cond.constantDouble RX0 7 (4643862126702624768), Cond.fieldLink RX0 9 "LayerMoisture$Air" "kelvin" "D", Cond.constantDouble RX0 15 (4602678819172646912), Cond.fieldLink RX0 17 "LayerMoisture$Air" "damp" "D", Cond.fieldLink RX0 20 "LayerMoisture$Air" "speed" "D", Cond.fieldLink RX0 23 "LayerMoisture$Air" "ventShare" "D", Cond.instanceMethod yX3_init, Cond.code yX3_init cX3_init 1 none, Cond.methodLink RX3 1 objectInit]
def wsL_law0_r4 : List Cond := [Cond.instanceMethod yX5_init, Cond.code yX5_init cX5_init 1 none, Cond.methodLink RX5 3 objectInit, Cond.arrayClass .char, Cond.fieldLink RX5 11 "LayerMoisture$Text" "units" "[C", Cond.instanceMethod yX4_init, Cond.code yX4_init cX4_init 1 none, Cond.methodLink RX4 3 objectInit, Cond.arrayClass .boolean, Cond.fieldLink RX4 11 "LayerMoisture$Plan" "byHours" "[Z", Cond.arrayClass .int, Cond.fieldLink RX4 15 "LayerMoisture$Plan" "times" "[I", Cond.fieldLink RX4 19 "LayerMoisture$Plan" "kelvins" "[I", Cond.fieldLink RX4 22 "LayerMoisture$Plan" "damps" "[I", Cond.methodLink RL 74 yX7_init, Cond.instanceMethod yX7_init, Cond.code yX7_init cX7_init 3 none, Cond.methodLink RX7 1 objectInit, Cond.fieldLink RX7 7 "LayerMoistureModel" "rateA" "[D", Cond.fieldLink RX7 13 "LayerMoistureModel" "rateB" "[D", Cond.constantDouble RX7 16 (4643862126702624768), Cond.fieldLink RX7 18 "LayerMoistureModel" "kelvin" "D", Cond.constantDouble RX7 22 (4602678819172646912), Cond.fieldLink RX7 24 "LayerMoistureModel" "damp" "D"]
def wsL_law0_r5 : List Cond := [Cond.fieldLink RX7 27 "LayerMoistureModel" "speed" "D", Cond.fieldLink RX7 30 "LayerMoistureModel" "there" "[Z", Cond.fieldLink RX7 34 "LayerMoistureModel" "depths" "[D", Cond.fieldLink RX7 37 "LayerMoistureModel" "kinds" "[I", Cond.fieldLink RX7 41 "LayerMoistureModel" "wets" "[D", Cond.fieldLink RX7 44 "LayerMoistureModel" "next" "[D", Cond.fieldLink RX7 47 "LayerMoistureModel" "limited" "[Z", Cond.fieldLink RX7 50 "LayerMoistureModel" "limits" "[D", Cond.fieldLink RX7 53 "LayerMoistureModel" "kept" "[I", Cond.fieldLink RX7 56 "LayerMoistureModel" "text" "[I", Cond.fieldLink RX7 59 "LayerMoistureModel" "byWet" "[Z", Cond.fieldLink RX7 62 "LayerMoistureModel" "times" "[I", Cond.fieldLink RX7 65 "LayerMoistureModel" "kelvins" "[I", Cond.fieldLink RX7 68 "LayerMoistureModel" "damps" "[I", Cond.fieldLink RX7 71 "LayerMoistureModel" "layers" "I", Cond.fieldLink RX7 75 "LayerMoistureModel" "boards" "I", Cond.methodLink RL 77 yL_board, Cond.static yL_board, Cond.codeWith yL_board cL_board 8 (some .int) [(0, 10, 13, 13), (0, 10, 17, 15)], Cond.classLink RL 13 "java/lang/ArrayIndexOutOfBoundsException", Cond.classLink RL 15 "java/lang/IllegalArgumentException", Cond.methodLink RL 7 yX6_board, Cond.instanceMethod yX6_board, Cond.selects RX6 yX6_board yX6_board]
def wsL_law0_r6 : List Cond := [Cond.code yX6_board cX6_board 9 none, Cond.constantDouble RX6 74 (4645744490609377280), Cond.constantDouble RX6 80 (4613937818241073152), Cond.methodLink RX6 66 yX6_slotOf, Cond.instanceMethod yX6_slotOf, Cond.selects RX6 yX6_slotOf yX6_slotOf, Cond.code yX6_slotOf cX6_slotOf 2 (some (.object "LayerMoisture$Board")), Cond.classLink RX6 177 RJx00060, Cond.instantiable RJx00060 6, Cond.initialized RJx00060, Cond.methodLink RX6 70 yX6_kindOf, Cond.instanceMethod yX6_kindOf, Cond.selects RX6 yX6_kindOf yX6_kindOf, Cond.code yX6_kindOf cX6_kindOf 2 (some (.object "LayerMoisture$Kind")), Cond.methodLink RX6 76 yX6_requireWithin, Cond.static yX6_requireWithin, Cond.code yX6_requireWithin cX6_requireWithin 6 none, Cond.classLink RX6 131 "java/lang/IllegalArgumentException", Cond.initialized "java/lang/IllegalArgumentException", Cond.methodLink RX6 82 yX1_lay, Cond.instanceMethod yX1_lay, Cond.selects RX1 yX1_lay yX1_lay, Cond.code yX1_lay cX1_lay 7 none, Cond.fieldLink RX1 19 "LayerMoisture$Board" "there" "Z"]
def wsL_law0_r7 : List Cond := [Cond.fieldLink RX1 23 "LayerMoisture$Board" "depth" "D", Cond.fieldLink RX1 27 "LayerMoisture$Board" "limited" "Z", Cond.fieldLink RX1 30 "LayerMoisture$Board" "keptHour" "I", Cond.methodLink RL 80 yX7_board, Cond.instanceMethod yX7_board, Cond.selects RX7 yX7_board yX7_board, Cond.code yX7_board cX7_board 8 none, Cond.constantDouble RX7 85 (4645744490609377280), Cond.constantDouble RX7 91 (4613937818241073152), Cond.fieldLink RX7 78 "LayerMoistureModel" "thrown" "I", Cond.methodLink RX7 81 yX7_noBoard, Cond.instanceMethod yX7_noBoard, Cond.selects RX7 yX7_noBoard yX7_noBoard, Cond.code yX7_noBoard cX7_noBoard 2 (some .boolean), Cond.methodLink RX7 87 yX7_isIn, Cond.static yX7_isIn, Cond.code yX7_isIn cX7_isIn 6 (some .boolean), Cond.methodLink RL 81 yX7_thrown, Cond.instanceMethod yX7_thrown, Cond.selects RX7 yX7_thrown yX7_thrown, Cond.code yX7_thrown cX7_thrown 1 (some .int), Cond.methodLink RL 85 yL_rate, Cond.static yL_rate, Cond.codeWith yL_rate cL_rate 7 (some .int) [(0, 8, 11, 13), (0, 8, 15, 15)]]
def wsL_law0_r8 : List Cond := [Cond.methodLink RL 17 yX6_rate, Cond.instanceMethod yX6_rate, Cond.selects RX6 yX6_rate yX6_rate, Cond.code yX6_rate cX6_rate 7 none, Cond.constantDouble RX6 86 (4620693217682128896), Cond.fieldLink RX6 88 "LayerMoisture$Kind" "a" "D", Cond.fieldLink RX6 92 "LayerMoisture$Kind" "b" "D", Cond.methodLink RL 88 yX7_rate, Cond.instanceMethod yX7_rate, Cond.selects RX7 yX7_rate yX7_rate, Cond.code yX7_rate cX7_rate 6 none, Cond.constantDouble RX7 93 (4620693217682128896), Cond.methodLink RL 89 yL_air, Cond.static yL_air, Cond.codeWith yL_air cL_air 8 (some .int) [(0, 8, 11, 15)], Cond.methodLink RL 21 yX6_air, Cond.instanceMethod yX6_air, Cond.selects RX6 yX6_air yX6_air, Cond.code yX6_air cX6_air 7 none, Cond.constantDouble RX6 95 (4643000109586448384), Cond.constantDouble RX6 97 (4625196817309499392), Cond.fieldLink RX6 99 "LayerMoisture$Air" "kelvin" "D", Cond.fieldLink RX6 102 "LayerMoisture$Air" "damp" "D", Cond.fieldLink RX6 105 "LayerMoisture$Air" "speed" "D"]
def wsL_law0_r9 : List Cond := [Cond.methodLink RL 92 yX7_air, Cond.instanceMethod yX7_air, Cond.selects RX7 yX7_air yX7_air, Cond.code yX7_air cX7_air 7 none, Cond.constantDouble RX7 95 (4643000109586448384), Cond.constantDouble RX7 97 (4625196817309499392), Cond.methodLink RL 93 yL_vent, Cond.static yL_vent, Cond.codeWith yL_vent cL_vent 4 (some .int) [(0, 5, 8, 15)], Cond.methodLink RL 25 yX6_vent, Cond.instanceMethod yX6_vent, Cond.selects RX6 yX6_vent yX6_vent, Cond.code yX6_vent cX6_vent 3 none, Cond.fieldLink RX6 108 "LayerMoisture$Air" "ventShare" "D", Cond.methodLink RL 96 yX7_vent, Cond.instanceMethod yX7_vent, Cond.selects RX7 yX7_vent yX7_vent, Cond.code yX7_vent cX7_vent 3 none, Cond.fieldLink RX7 99 "LayerMoistureModel" "vent" "D", Cond.methodLink RL 97 yL_soak, Cond.static yL_soak, Cond.codeWith yL_soak cL_soak 6 (some .int) [(0, 7, 10, 13), (0, 7, 14, 15), (0, 7, 18, 33)], Cond.classLink RL 33 "java/lang/IllegalStateException", Cond.methodLink RL 29 yX6_soak]
def wsL_law0_r10 : List Cond := [Cond.instanceMethod yX6_soak, Cond.selects RX6 yX6_soak yX6_soak, Cond.code yX6_soak cX6_soak 6 none, Cond.fieldLink RX6 119 "LayerMoisture$Board" "wetness" "[D", Cond.methodLink RX6 111 yX6_requireLayer, Cond.instanceMethod yX6_requireLayer, Cond.selects RX6 yX6_requireLayer yX6_requireLayer, Cond.code yX6_requireLayer cX6_requireLayer 2 none, Cond.methodLink RX6 115 yX6_requireThere, Cond.static yX6_requireThere, Cond.code yX6_requireThere cX6_requireThere 1 none, Cond.classLink RX6 205 "java/lang/IllegalStateException", Cond.initialized "java/lang/IllegalStateException", Cond.fieldLink RX6 201 "LayerMoisture$Board" "there" "Z", Cond.methodLink RL 100 yX7_soak, Cond.instanceMethod yX7_soak, Cond.selects RX7 yX7_soak yX7_soak, Cond.code yX7_soak cX7_soak 5 none, Cond.methodLink RX7 102 yX7_noLayer, Cond.instanceMethod yX7_noLayer, Cond.selects RX7 yX7_noLayer yX7_noLayer, Cond.code yX7_noLayer cX7_noLayer 3 (some .boolean), Cond.methodLink RL 101 yX6_unit, Cond.instanceMethod yX6_unit]
def wsL_law0_r11 : List Cond := [Cond.selects RX6 yX6_unit yX6_unit, Cond.code yX6_unit cX6_unit 2 (some .boolean), Cond.methodLink RX6 123 yX5_append, Cond.instanceMethod yX5_append, Cond.selects RX5 yX5_append yX5_append, Cond.code yX5_append cX5_append 2 (some .boolean), Cond.fieldLink RX5 15 "LayerMoisture$Text" "length" "I", Cond.methodLink RL 105 yX7_unit, Cond.instanceMethod yX7_unit, Cond.selects RX7 yX7_unit yX7_unit, Cond.code yX7_unit cX7_unit 2 (some .boolean), Cond.fieldLink RX7 106 "LayerMoistureModel" "typed" "I", Cond.methodLink RL 106 yX6_schedule, Cond.instanceMethod yX6_schedule, Cond.selects RX6 yX6_schedule yX6_schedule, Cond.code yX6_schedule cX6_schedule 1 (some .int), Cond.methodLink RX6 127 yX4_readFrom, Cond.instanceMethod yX4_readFrom, Cond.selects RX4 yX4_readFrom yX4_readFrom, Cond.code yX4_readFrom cX4_readFrom 4 (some .int), Cond.fieldLink RX4 29 "LayerMoisture$Text" "place" "I", Cond.fieldLink RX4 35 "LayerMoisture$Plan" "steps" "I", Cond.fieldLink RX4 38 "LayerMoisture$Plan" "done" "I", Cond.methodLink RX4 25 yX4_readSteps]
def wsL_law0_r12 : List Cond := [Cond.instanceMethod yX4_readSteps, Cond.selects RX4 yX4_readSteps yX4_readSteps, Cond.code yX4_readSteps cX4_readSteps 3 (some .int), Cond.methodLink RX4 44 yX5_pass, Cond.instanceMethod yX5_pass, Cond.selects RX5 yX5_pass yX5_pass, Cond.code yX5_pass cX5_pass 2 (some .boolean), Cond.fieldLink RX5 19 "LayerMoisture$Text" "place" "I", Cond.methodLink RX5 26 yX5_next, Cond.instanceMethod yX5_next, Cond.selects RX5 yX5_next yX5_next, Cond.code yX5_next cX5_next 1 (some .char), Cond.methodLink RX5 22 yX5_isAtEnd, Cond.instanceMethod yX5_isAtEnd, Cond.selects RX5 yX5_isAtEnd yX5_isAtEnd, Cond.code yX5_isAtEnd cX5_isAtEnd 1 (some .boolean), Cond.methodLink RX4 48 yX4_readStep, Cond.instanceMethod yX4_readStep, Cond.selects RX4 yX4_readStep yX4_readStep, Cond.code yX4_readStep cX4_readStep 3 (some .boolean), Cond.methodLink RX4 56 yX5_next, Cond.methodLink RX4 60 yX5_readNumber, Cond.instanceMethod yX5_readNumber, Cond.selects RX5 yX5_readNumber yX5_readNumber]
def wsL_law0_r13 : List Cond := [Cond.code yX5_readNumber cX5_readNumber 6 (some .int), Cond.methodLink RX5 30 yX5_isAtDigit, Cond.instanceMethod yX5_isAtDigit, Cond.selects RX5 yX5_isAtDigit yX5_isAtDigit, Cond.code yX5_isAtDigit cX5_isAtDigit 1 (some .boolean), Cond.methodLink RX4 52 yX5_isAtEnd, Cond.methodLink RX4 41 yX5_empty, Cond.instanceMethod yX5_empty, Cond.selects RX5 yX5_empty yX5_empty, Cond.code yX5_empty cX5_empty 1 none, Cond.methodLink RL 109 yX7_schedule, Cond.instanceMethod yX7_schedule, Cond.selects RX7 yX7_schedule yX7_schedule, Cond.code yX7_schedule cX7_schedule 2 (some .int), Cond.fieldLink RX7 112 "LayerMoistureModel" "at" "I", Cond.fieldLink RX7 125 "LayerMoistureModel" "steps" "I", Cond.fieldLink RX7 134 "LayerMoistureModel" "done" "I", Cond.fieldLink RX7 109 "LayerMoistureModel" "bad" "I", Cond.methodLink RX7 137 yX7_passStep, Cond.instanceMethod yX7_passStep, Cond.selects RX7 yX7_passStep yX7_passStep, Cond.code yX7_passStep cX7_passStep 2 (some .boolean), Cond.fieldLink RX7 118 "LayerMoistureModel" "number" "I", Cond.methodLink RX7 115 yX7_fail]
def wsL_law0_r14 : List Cond := [Cond.instanceMethod yX7_fail, Cond.selects RX7 yX7_fail yX7_fail, Cond.code yX7_fail cX7_fail 2 (some .boolean), Cond.methodLink RX7 128 yX7_passNumber, Cond.instanceMethod yX7_passNumber, Cond.selects RX7 yX7_passNumber yX7_passNumber, Cond.code yX7_passNumber cX7_passNumber 4 (some .boolean), Cond.methodLink RX7 121 yX7_isDigit, Cond.instanceMethod yX7_isDigit, Cond.selects RX7 yX7_isDigit yX7_isDigit, Cond.code yX7_isDigit cX7_isDigit 1 (some .boolean), Cond.methodLink RX7 131 yX7_pass, Cond.instanceMethod yX7_pass, Cond.selects RX7 yX7_pass yX7_pass, Cond.code yX7_pass cX7_pass 2 (some .boolean), Cond.methodLink RL 110 yL_run, Cond.static yL_run, Cond.codeWith yL_run cL_run 4 (some .int) [(0, 9, 12, 15)], Cond.methodLink RL 35 yX6_run, Cond.instanceMethod yX6_run, Cond.selects RX6 yX6_run yX6_run, Cond.code yX6_run cX6_run 3 (some .int), Cond.fieldLink RX6 142 "LayerMoisture" "hoursPassed" "I", Cond.methodLink RX6 138 yX6_isRefused]
def wsL_law0_r15 : List Cond := [Cond.instanceMethod yX6_isRefused, Cond.selects RX6 yX6_isRefused yX6_isRefused, Cond.code yX6_isRefused cX6_isRefused 2 (some .boolean), Cond.methodLink RX6 212 yX1_refuses, Cond.instanceMethod yX1_refuses, Cond.selects RX1 yX1_refuses yX1_refuses, Cond.code yX1_refuses cX1_refuses 3 (some .boolean), Cond.constantDouble RX1 37 (4620693217682128896), Cond.constantDouble RX1 39 (4598175219545276416), Cond.methodLink RX1 41 yX1_greatestWetness, Cond.instanceMethod yX1_greatestWetness, Cond.selects RX1 yX1_greatestWetness yX1_greatestWetness, Cond.code yX1_greatestWetness cX1_greatestWetness 4 (some .double), Cond.methodLink RX1 45 yX2_speedAt, Cond.instanceMethod yX2_speedAt, Cond.selects RX2 yX2_speedAt yX2_speedAt, Cond.code yX2_speedAt cX2_speedAt 3 (some .double), Cond.fieldLink RX2 7 "LayerMoisture$Kind" "a" "D", Cond.fieldLink RX2 13 "LayerMoisture$Kind" "b" "D", Cond.methodLink RX6 145 yX6_passHour, Cond.instanceMethod yX6_passHour, Cond.selects RX6 yX6_passHour yX6_passHour, Cond.code yX6_passHour cX6_passHour 4 none, Cond.methodLink RX6 216 yX6_followPlan]
def wsL_law0_r16 : List Cond := [Cond.instanceMethod yX6_followPlan, Cond.selects RX6 yX6_followPlan yX6_followPlan, Cond.code yX6_followPlan cX6_followPlan 1 none, Cond.fieldLink RX6 186 "LayerMoisture$Plan" "done" "I", Cond.fieldLink RX6 232 "LayerMoisture$Plan" "steps" "I", Cond.fieldLink RX6 238 "LayerMoisture$Plan" "kelvins" "[I", Cond.fieldLink RX6 242 "LayerMoisture$Plan" "damps" "[I", Cond.constantDouble RX6 245 (4636737291354636288), Cond.methodLink RX6 235 yX6_isStepDue, Cond.instanceMethod yX6_isStepDue, Cond.selects RX6 yX6_isStepDue yX6_isStepDue, Cond.code yX6_isStepDue cX6_isStepDue 2 (some .boolean), Cond.fieldLink RX6 247 "LayerMoisture$Plan" "byHours" "[Z", Cond.fieldLink RX6 251 "LayerMoisture$Plan" "times" "[I", Cond.methodLink RX6 189 yX6_boardsThere, Cond.instanceMethod yX6_boardsThere, Cond.selects RX6 yX6_boardsThere yX6_boardsThere, Cond.code yX6_boardsThere cX6_boardsThere 3 (some .int), Cond.methodLink RX6 254 yX6_isAnyWetterThan, Cond.instanceMethod yX6_isAnyWetterThan, Cond.selects RX6 yX6_isAnyWetterThan yX6_isAnyWetterThan, Cond.code yX6_isAnyWetterThan cX6_isAnyWetterThan 4 (some .boolean), Cond.methodLink RX6 160 yX1_meanWetness, Cond.instanceMethod yX1_meanWetness]
def wsL_law0_r17 : List Cond := [Cond.selects RX1 yX1_meanWetness yX1_meanWetness, Cond.code yX1_meanWetness cX1_meanWetness 4 (some .double), Cond.methodLink RX6 171 yX0_balanceNow, Cond.instanceMethod yX0_balanceNow, Cond.selects RX0 yX0_balanceNow yX0_balanceNow, Cond.code yX0_balanceNow cX0_balanceNow 1 (some .double), Cond.constantDouble RX0 26 (4600427019358961664), Cond.constantDouble RX0 28 (4643510282981736448), Cond.constantDouble RX0 30 (4643211215818981376), Cond.methodLink RX6 219 yX1_dry, Cond.instanceMethod yX1_dry, Cond.selects RX1 yX1_dry yX1_dry, Cond.code yX1_dry cX1_dry 15 (some .double), Cond.constantDouble RX1 59 (4634204016564240384), Cond.methodLink RX1 51 yX1_faceFlow, Cond.instanceMethod yX1_faceFlow, Cond.selects RX1 yX1_faceFlow yX1_faceFlow, Cond.code yX1_faceFlow cX1_faceFlow 7 (some .double), Cond.methodLink RX1 55 yX1_slopeFlow, Cond.instanceMethod yX1_slopeFlow, Cond.selects RX1 yX1_slopeFlow yX1_slopeFlow, Cond.code yX1_slopeFlow cX1_slopeFlow 5 (some .double), Cond.constantDouble RX1 61 (4611686018427387904), Cond.methodLink RX6 223 yX3_take]
def wsL_law0_r18 : List Cond := [Cond.instanceMethod yX3_take, Cond.selects RX3 yX3_take yX3_take, Cond.code yX3_take cX3_take 5 none, Cond.fieldLink RX3 7 "LayerMoisture$Ledger" "rest" "D", Cond.fieldLink RX3 13 "LayerMoisture$Ledger" "gone" "J", Cond.methodLink RX6 226 yX0_takeUp, Cond.instanceMethod yX0_takeUp, Cond.selects RX0 yX0_takeUp yX0_takeUp, Cond.code yX0_takeUp cX0_takeUp 5 none, Cond.constantDouble RX0 32 (4679240012837945344), Cond.methodLink RX6 229 yX1_watchLoad, Cond.instanceMethod yX1_watchLoad, Cond.selects RX1 yX1_watchLoad yX1_watchLoad, Cond.code yX1_watchLoad cX1_watchLoad 2 none, Cond.fieldLink RX1 34 "LayerMoisture$Board" "loadLimit" "D", Cond.methodLink RX1 71 yX1_greatestLoad, Cond.instanceMethod yX1_greatestLoad, Cond.selects RX1 yX1_greatestLoad yX1_greatestLoad, Cond.code yX1_greatestLoad cX1_greatestLoad 10 (some .double), Cond.methodLink RX1 68 yX1_meanShrinkage, Cond.instanceMethod yX1_meanShrinkage, Cond.selects RX1 yX1_meanShrinkage yX1_meanShrinkage, Cond.code yX1_meanShrinkage cX1_meanShrinkage 4 (some .double), Cond.methodLink RX1 65 yX1_shrinkage]
def wsL_law0_r19 : List Cond := [Cond.static yX1_shrinkage, Cond.code yX1_shrinkage cX1_shrinkage 2 (some .double), Cond.constantDouble RX1 63 (4599301119452119040), Cond.methodLink RL 113 yX7_run, Cond.instanceMethod yX7_run, Cond.selects RX7 yX7_run yX7_run, Cond.code yX7_run cX7_run 3 (some .int), Cond.fieldLink RX7 152 "LayerMoistureModel" "hours" "I", Cond.methodLink RX7 199 yX7_isRefused, Cond.instanceMethod yX7_isRefused, Cond.selects RX7 yX7_isRefused yX7_isRefused, Cond.code yX7_isRefused cX7_isRefused 6 (some .boolean), Cond.constantDouble RX7 150 (4598175219545276416), Cond.methodLink RX7 202 yX7_hour, Cond.instanceMethod yX7_hour, Cond.selects RX7 yX7_hour yX7_hour, Cond.code yX7_hour cX7_hour 2 none, Cond.constantDouble RX7 158 (4636737291354636288), Cond.methodLink RX7 189 yX7_hasCome, Cond.instanceMethod yX7_hasCome, Cond.selects RX7 yX7_hasCome yX7_hasCome, Cond.code yX7_hasCome cX7_hasCome 5 (some .boolean), Cond.methodLink RX7 155 yX7_meanOf, Cond.instanceMethod yX7_meanOf]
def wsL_law0_r20 : List Cond := [Cond.selects RX7 yX7_meanOf yX7_meanOf, Cond.code yX7_meanOf cX7_meanOf 2 (some .double), Cond.methodLink RX7 140 yX7_sumOf, Cond.instanceMethod yX7_sumOf, Cond.selects RX7 yX7_sumOf yX7_sumOf, Cond.code yX7_sumOf cX7_sumOf 5 (some .double), Cond.methodLink RX7 192 yX7_hourOf, Cond.instanceMethod yX7_hourOf, Cond.selects RX7 yX7_hourOf yX7_hourOf, Cond.code yX7_hourOf cX7_hourOf 14 none, Cond.constantDouble RX7 170 (4634204016564240384), Cond.fieldLink RX7 172 "LayerMoistureModel" "left" "D", Cond.fieldLink RX7 175 "LayerMoistureModel" "gone" "J", Cond.constantDouble RX7 179 (4679240012837945344), Cond.methodLink RX7 162 yX7_balanceNow, Cond.instanceMethod yX7_balanceNow, Cond.selects RX7 yX7_balanceNow yX7_balanceNow, Cond.code yX7_balanceNow cX7_balanceNow 1 (some .double), Cond.constantDouble RX7 144 (4600427019358961664), Cond.constantDouble RX7 146 (4643510282981736448), Cond.constantDouble RX7 148 (4643211215818981376), Cond.methodLink RX7 166 yX7_flow, Cond.instanceMethod yX7_flow, Cond.selects RX7 yX7_flow yX7_flow]
def wsL_law0_r21 : List Cond := [Cond.code yX7_flow cX7_flow 6 (some .double), Cond.constantDouble RX7 160 (4611686018427387904), Cond.methodLink RX7 196 yX7_keep, Cond.instanceMethod yX7_keep, Cond.selects RX7 yX7_keep yX7_keep, Cond.code yX7_keep cX7_keep 7 none, Cond.methodLink RX7 186 yX7_stressOf, Cond.instanceMethod yX7_stressOf, Cond.selects RX7 yX7_stressOf yX7_stressOf, Cond.code yX7_stressOf cX7_stressOf 6 (some .double), Cond.methodLink RX7 183 yX7_share, Cond.instanceMethod yX7_share, Cond.selects RX7 yX7_share yX7_share, Cond.code yX7_share cX7_share 5 (some .double), Cond.constantDouble RX7 181 (4599301119452119040), Cond.methodLink RL 114 yL_limit, Cond.static yL_limit, Cond.codeWith yL_limit cL_limit 5 (some .int) [(0, 6, 9, 13), (0, 6, 13, 15), (0, 6, 17, 33)], Cond.methodLink RL 39 yX6_limit, Cond.instanceMethod yX6_limit, Cond.selects RX6 yX6_limit yX6_limit, Cond.code yX6_limit cX6_limit 5 none, Cond.methodLink RX6 150 yX1_setLimit, Cond.instanceMethod yX1_setLimit]
def wsL_law0_r22 : List Cond := [Cond.selects RX1 yX1_setLimit yX1_setLimit, Cond.code yX1_setLimit cX1_setLimit 3 none, Cond.methodLink RL 117 yX7_limit, Cond.instanceMethod yX7_limit, Cond.selects RX7 yX7_limit yX7_limit, Cond.code yX7_limit cX7_limit 4 none, Cond.methodLink RL 118 yL_check, Cond.static yL_check, Cond.codeWith yL_check cL_check 4 (some .int) [(0, 9, 12, 13), (0, 9, 15, 33)], Cond.methodLink RL 43 yX6_check, Cond.instanceMethod yX6_check, Cond.selects RX6 yX6_check yX6_check, Cond.code yX6_check cX6_check 2 (some .int), Cond.fieldLink RX6 157 "LayerMoisture$Board" "keptHour" "I", Cond.methodLink RX6 154 yX6_boardThere, Cond.instanceMethod yX6_boardThere, Cond.selects RX6 yX6_boardThere yX6_boardThere, Cond.code yX6_boardThere cX6_boardThere 3 (some (.object "LayerMoisture$Board")), Cond.methodLink RL 120 yX7_check, Cond.instanceMethod yX7_check, Cond.selects RX7 yX7_check yX7_check, Cond.code yX7_check cX7_check 2 (some .int), Cond.methodLink RX7 205 yX7_isMissing, Cond.instanceMethod yX7_isMissing]
def wsL_law0_r23 : List Cond := [Cond.selects RX7 yX7_isMissing yX7_isMissing, Cond.code yX7_isMissing cX7_isMissing 3 (some .boolean), Cond.methodLink RL 121 yL_wet, Cond.static yL_wet, Cond.codeWith yL_wet cL_wet 5 (some .int) [(0, 9, 12, 13), (0, 9, 16, 33)], Cond.methodLink RL 46 yX6_wet, Cond.instanceMethod yX6_wet, Cond.selects RX6 yX6_wet yX6_wet, Cond.code yX6_wet cX6_wet 4 (some .double), Cond.methodLink RL 124 yX7_wet, Cond.instanceMethod yX7_wet, Cond.selects RX7 yX7_wet yX7_wet, Cond.code yX7_wet cX7_wet 3 (some .double), Cond.methodLink RL 125 yL_mean, Cond.static yL_mean, Cond.codeWith yL_mean cL_mean 4 (some .int) [(0, 8, 11, 13), (0, 8, 14, 33)], Cond.methodLink RL 50 yX6_mean, Cond.instanceMethod yX6_mean, Cond.selects RX6 yX6_mean yX6_mean, Cond.code yX6_mean cX6_mean 2 (some .double), Cond.methodLink RL 128 yX7_mean, Cond.instanceMethod yX7_mean, Cond.selects RX7 yX7_mean yX7_mean, Cond.code yX7_mean cX7_mean 2 (some .double)]
def wsL_law0_r24 : List Cond := [Cond.methodLink RL 129 yL_stress, Cond.static yL_stress, Cond.codeWith yL_stress cL_stress 5 (some .int) [(0, 9, 12, 13), (0, 9, 16, 33)], Cond.methodLink RL 54 yX6_stress, Cond.instanceMethod yX6_stress, Cond.selects RX6 yX6_stress yX6_stress, Cond.code yX6_stress cX6_stress 4 (some .double), Cond.methodLink RX6 164 yX1_shrinkage, Cond.methodLink RX6 168 yX1_meanShrinkage, Cond.methodLink RL 131 yX7_stress, Cond.instanceMethod yX7_stress, Cond.selects RX7 yX7_stress yX7_stress, Cond.code yX7_stress cX7_stress 3 (some .double), Cond.methodLink RL 132 yX6_balance, Cond.instanceMethod yX6_balance, Cond.selects RX6 yX6_balance yX6_balance, Cond.code yX6_balance cX6_balance 1 (some .double), Cond.methodLink RL 136 yX7_balance, Cond.instanceMethod yX7_balance, Cond.selects RX7 yX7_balance yX7_balance, Cond.code yX7_balance cX7_balance 1 (some .double), Cond.methodLink RL 137 yL_told, Cond.static yL_told, Cond.codeWith yL_told cL_told 4 (some .int) [(0, 8, 11, 13)]]
def wsL_law0_r25 : List Cond := [Cond.methodLink RL 57 yX6_told, Cond.instanceMethod yX6_told, Cond.selects RX6 yX6_told yX6_told, Cond.code yX6_told cX6_told 2 (some .double), Cond.fieldLink RX6 174 "LayerMoisture$Ledger" "rest" "D", Cond.methodLink RL 139 yX7_told, Cond.instanceMethod yX7_told, Cond.selects RX7 yX7_told yX7_told, Cond.code yX7_told cX7_told 2 (some .double), Cond.methodLink RL 140 yX6_grams, Cond.instanceMethod yX6_grams, Cond.selects RX6 yX6_grams yX6_grams, Cond.code yX6_grams cX6_grams 1 (some .long), Cond.fieldLink RX6 182 "LayerMoisture$Ledger" "gone" "J", Cond.methodLink RL 144 yX7_grams, Cond.instanceMethod yX7_grams, Cond.selects RX7 yX7_grams yX7_grams, Cond.code yX7_grams cX7_grams 1 (some .long), Cond.methodLink RL 145 yL_count, Cond.static yL_count, Cond.codeWith yL_count cL_count 4 (some .int) [(0, 9, 12, 13)], Cond.methodLink RL 60 yX6_count, Cond.instanceMethod yX6_count, Cond.selects RX6 yX6_count yX6_count]
def wsL_law0_r26 : List Cond := [Cond.code yX6_count cX6_count 2 (some .int), Cond.methodLink RL 147 yX7_count, Cond.instanceMethod yX7_count, Cond.selects RX7 yX7_count yX7_count, Cond.code yX7_count cX7_count 4 (some .int)]
def wsL_law0 : List Cond := (wsL_law0_r1 ++ (wsL_law0_r2 ++ (wsL_law0_r3 ++ (wsL_law0_r4 ++ (wsL_law0_r5 ++ (wsL_law0_r6 ++ (wsL_law0_r7 ++ (wsL_law0_r8 ++ (wsL_law0_r9 ++ (wsL_law0_r10 ++ (wsL_law0_r11 ++ (wsL_law0_r12 ++ (wsL_law0_r13 ++ (wsL_law0_r14 ++ (wsL_law0_r15 ++ (wsL_law0_r16 ++ (wsL_law0_r17 ++ (wsL_law0_r18 ++ (wsL_law0_r19 ++ (wsL_law0_r20 ++ (wsL_law0_r21 ++ (wsL_law0_r22 ++ (wsL_law0_r23 ++ (wsL_law0_r24 ++ (wsL_law0_r25 ++ wsL_law0_r26))))))))))))))))))))))))) ++ wsX60 ++ wsX70 ++ wsX20 ++ wsX10 ++ wsX00 ++ wsX30 ++ wsX50 ++ wsX40 ++ wsJx000600 ++ ([] : List Cond)
def wsL_law : List Cond := wsL_law0 ++ (vx_atS RX6 135 "java/lang/IllegalArgumentException" ["java/lang/RuntimeException", "java/lang/Exception"]).filter goodWord ++ (vx_atS RX6 209 "java/lang/IllegalStateException" ["java/lang/RuntimeException", "java/lang/Exception"]).filter goodWord
set_option maxRecDepth 20000 in
theorem ggX1_refuses_X1_greatestWetness : GoodIn wsX1_refuses wsX1_greatestWetness := goodIn_r _ [9, 10, 18, 19, 20, 21, 22, 23, 24] (by decide +kernel) (by decide +kernel)
set_option maxRecDepth 20000 in
theorem gX1_refuses_X1_greatestWetness : GoodIn wsX1_refuses (wsV RX1 41 RX1 yX1_greatestWetness wsX1_greatestWetness) := goodIn_app (goodIn_of _ (by decide +kernel)) ggX1_refuses_X1_greatestWetness
set_option maxRecDepth 20000 in
theorem ggX1_refuses_X2_speedAt : GoodIn wsX1_refuses wsX2_speedAt := goodIn_r _ [15, 16, 17, 25, 26] (by decide +kernel) (by decide +kernel)
set_option maxRecDepth 20000 in
theorem gX1_refuses_X2_speedAt : GoodIn wsX1_refuses (wsV RX1 45 RX2 yX2_speedAt wsX2_speedAt) := goodIn_app (goodIn_of _ (by decide +kernel)) ggX1_refuses_X2_speedAt
set_option maxRecDepth 20000 in
theorem ggX1_dry_X1_faceFlow : GoodIn wsX1_dry wsX1_faceFlow := goodIn_r _ [8, 9, 2, 23, 24, 25, 26, 27, 28, 29] (by decide +kernel) (by decide +kernel)
set_option maxRecDepth 20000 in
theorem gX1_dry_X1_faceFlow : GoodIn wsX1_dry (wsV RX1 51 RX1 yX1_faceFlow wsX1_faceFlow) := goodIn_app (goodIn_of _ (by decide +kernel)) ggX1_dry_X1_faceFlow
set_option maxRecDepth 20000 in
theorem ggX1_dry_X1_slopeFlow : GoodIn wsX1_dry wsX1_slopeFlow := goodIn_r _ [13, 14, 15, 2, 16, 17, 18, 19, 20, 21, 22, 23, 24, 25, 26, 27, 28, 29, 30, 31] (by decide +kernel) (by decide +kernel)
set_option maxRecDepth 20000 in
theorem gX1_dry_X1_slopeFlow : GoodIn wsX1_dry (wsV RX1 55 RX1 yX1_slopeFlow wsX1_slopeFlow) := goodIn_app (goodIn_of _ (by decide +kernel)) ggX1_dry_X1_slopeFlow
set_option maxRecDepth 20000 in
theorem ggX1_slopeFlow_X2_speedAt : GoodIn wsX1_slopeFlow wsX2_speedAt := goodIn_r _ [8, 9, 10, 18, 19] (by decide +kernel) (by decide +kernel)
set_option maxRecDepth 20000 in
theorem gX1_slopeFlow_X2_speedAt : GoodIn wsX1_slopeFlow (wsV RX1 45 RX2 yX2_speedAt wsX2_speedAt) := goodIn_app (goodIn_of _ (by decide +kernel)) ggX1_slopeFlow_X2_speedAt
set_option maxRecDepth 20000 in
theorem ggX1_meanShrinkage_X1_shrinkage : GoodIn wsX1_meanShrinkage wsX1_shrinkage := goodIn_r _ [5, 6, 7] (by decide +kernel) (by decide +kernel)
set_option maxRecDepth 20000 in
theorem gX1_meanShrinkage_X1_shrinkage : GoodIn wsX1_meanShrinkage (va_wsS RX1 65 yX1_shrinkage wsX1_shrinkage) := goodIn_app (goodIn_of _ (by decide +kernel)) ggX1_meanShrinkage_X1_shrinkage
set_option maxRecDepth 20000 in
theorem ggX1_greatestLoad_X1_meanShrinkage : GoodIn wsX1_greatestLoad wsX1_meanShrinkage := goodIn_r _ [6, 1, 7, 8, 5, 9, 10, 11, 12, 13, 14, 15, 16, 17, 18] (by decide +kernel) (by decide +kernel)
set_option maxRecDepth 20000 in
theorem gX1_greatestLoad_X1_meanShrinkage : GoodIn wsX1_greatestLoad (wsV RX1 68 RX1 yX1_meanShrinkage wsX1_meanShrinkage) := goodIn_app (goodIn_of _ (by decide +kernel)) ggX1_greatestLoad_X1_meanShrinkage
set_option maxRecDepth 20000 in
theorem ggX1_greatestLoad_X1_shrinkage : GoodIn wsX1_greatestLoad wsX1_shrinkage := goodIn_r _ [9, 10, 11] (by decide +kernel) (by decide +kernel)
set_option maxRecDepth 20000 in
theorem gX1_greatestLoad_X1_shrinkage : GoodIn wsX1_greatestLoad (va_wsS RX1 65 yX1_shrinkage wsX1_shrinkage) := goodIn_app (goodIn_of _ (by decide +kernel)) ggX1_greatestLoad_X1_shrinkage
set_option maxRecDepth 20000 in
theorem ggX1_watchLoad_X1_greatestLoad : GoodIn wsX1_watchLoad wsX1_greatestLoad := goodIn_r _ [8, 9, 10, 11, 12, 7, 13, 14, 15, 16, 17, 18, 19, 20, 21, 22, 23, 24, 25] (by decide +kernel) (by decide +kernel)
set_option maxRecDepth 20000 in
theorem gX1_watchLoad_X1_greatestLoad : GoodIn wsX1_watchLoad (wsV RX1 71 RX1 yX1_greatestLoad wsX1_greatestLoad) := goodIn_app (goodIn_of _ (by decide +kernel)) ggX1_watchLoad_X1_greatestLoad
set_option maxRecDepth 20000 in
theorem ggX4_readFrom_X4_readSteps : GoodIn wsX4_readFrom wsX4_readSteps := goodIn_r _ [8, 9, 10, 11, 12, 13, 14, 15, 16, 17, 18, 19, 20, 21, 22, 23, 24, 25, 26, 27, 7, 28, 29, 30, 31, 32, 33, 34, 35, 36, 37, 38, 39, 40, 41, 42, 47, 48, 49, 50, 51, 52, 53, 54, 55] (by decide +kernel) (by decide +kernel)
set_option maxRecDepth 20000 in
theorem gX4_readFrom_X4_readSteps : GoodIn wsX4_readFrom (wsV RX4 25 RX4 yX4_readSteps wsX4_readSteps) := goodIn_app (goodIn_of _ (by decide +kernel)) ggX4_readFrom_X4_readSteps
set_option maxRecDepth 20000 in
theorem ggX4_readFrom_X5_empty : GoodIn wsX4_readFrom wsX5_empty := goodIn_r _ [46, 24, 14, 47, 48, 49] (by decide +kernel) (by decide +kernel)
set_option maxRecDepth 20000 in
theorem gX4_readFrom_X5_empty : GoodIn wsX4_readFrom (wsV RX4 41 RX5 yX5_empty wsX5_empty) := goodIn_app (goodIn_of _ (by decide +kernel)) ggX4_readFrom_X5_empty
set_option maxRecDepth 20000 in
theorem ggX4_readSteps_X5_pass : GoodIn wsX4_readSteps wsX5_pass := goodIn_r _ [5, 6, 7, 8, 9, 4, 10, 11, 12, 13, 14, 15, 16, 36, 37, 38] (by decide +kernel) (by decide +kernel)
set_option maxRecDepth 20000 in
theorem gX4_readSteps_X5_pass : GoodIn wsX4_readSteps (wsV RX4 44 RX5 yX5_pass wsX5_pass) := goodIn_app (goodIn_of _ (by decide +kernel)) ggX4_readSteps_X5_pass
set_option maxRecDepth 20000 in
theorem ggX4_readSteps_X4_readStep : GoodIn wsX4_readSteps wsX4_readStep := goodIn_r _ [21, 22, 23, 24, 25, 26, 8, 9, 4, 10, 11, 6, 12, 13, 14, 15, 16, 1, 2, 3, 5, 7, 27, 28, 29, 30, 31, 32, 33, 34, 39, 40, 41, 42, 43, 44, 36, 37, 38] (by decide +kernel) (by decide +kernel)
set_option maxRecDepth 20000 in
theorem gX4_readSteps_X4_readStep : GoodIn wsX4_readSteps (wsV RX4 48 RX4 yX4_readStep wsX4_readStep) := goodIn_app (goodIn_of _ (by decide +kernel)) ggX4_readSteps_X4_readStep
set_option maxRecDepth 20000 in
theorem ggX4_readSteps_X5_isAtEnd : GoodIn wsX4_readSteps wsX5_isAtEnd := goodIn_r _ [15, 6, 16, 36, 37, 38] (by decide +kernel) (by decide +kernel)
set_option maxRecDepth 20000 in
theorem gX4_readSteps_X5_isAtEnd : GoodIn wsX4_readSteps (wsV RX4 52 RX5 yX5_isAtEnd wsX5_isAtEnd) := goodIn_app (goodIn_of _ (by decide +kernel)) ggX4_readSteps_X5_isAtEnd
set_option maxRecDepth 20000 in
theorem ggX4_readStep_X5_next : GoodIn wsX4_readStep wsX5_next := goodIn_r _ [9, 10, 11, 12, 13, 14, 8, 15, 16, 36, 37, 38] (by decide +kernel) (by decide +kernel)
set_option maxRecDepth 20000 in
theorem gX4_readStep_X5_next : GoodIn wsX4_readStep (wsV RX4 56 RX5 yX5_next wsX5_next) := goodIn_app (goodIn_of _ (by decide +kernel)) ggX4_readStep_X5_next
set_option maxRecDepth 20000 in
theorem ggX4_readStep_X5_pass : GoodIn wsX4_readStep wsX5_pass := goodIn_r _ [20, 11, 21, 6, 7, 8, 9, 10, 12, 13, 14, 15, 16, 36, 37, 38] (by decide +kernel) (by decide +kernel)
set_option maxRecDepth 20000 in
theorem gX4_readStep_X5_pass : GoodIn wsX4_readStep (wsV RX4 44 RX5 yX5_pass wsX5_pass) := goodIn_app (goodIn_of _ (by decide +kernel)) ggX4_readStep_X5_pass
set_option maxRecDepth 20000 in
theorem ggX4_readStep_X5_readNumber : GoodIn wsX4_readStep wsX5_readNumber := goodIn_r _ [25, 11, 26, 27, 28, 8, 29, 21, 6, 7, 9, 10, 12, 13, 14, 15, 16, 36, 37, 38] (by decide +kernel) (by decide +kernel)
set_option maxRecDepth 20000 in
theorem gX4_readStep_X5_readNumber : GoodIn wsX4_readStep (wsV RX4 60 RX5 yX5_readNumber wsX5_readNumber) := goodIn_app (goodIn_of _ (by decide +kernel)) ggX4_readStep_X5_readNumber
set_option maxRecDepth 20000 in
theorem ggX5_next_X5_isAtEnd : GoodIn wsX5_next wsX5_isAtEnd := goodIn_r _ [7, 2, 8, 9, 10, 11] (by decide +kernel) (by decide +kernel)
set_option maxRecDepth 20000 in
theorem gX5_next_X5_isAtEnd : GoodIn wsX5_next (wsV RX5 22 RX5 yX5_isAtEnd wsX5_isAtEnd) := goodIn_app (goodIn_of _ (by decide +kernel)) ggX5_next_X5_isAtEnd
set_option maxRecDepth 20000 in
theorem ggX5_isAtDigit_X5_next : GoodIn wsX5_isAtDigit wsX5_next := goodIn_r _ [5, 6, 7, 8, 9, 10, 4, 11, 12, 13, 14, 15] (by decide +kernel) (by decide +kernel)
set_option maxRecDepth 20000 in
theorem gX5_isAtDigit_X5_next : GoodIn wsX5_isAtDigit (wsV RX5 26 RX5 yX5_next wsX5_next) := goodIn_app (goodIn_of _ (by decide +kernel)) ggX5_isAtDigit_X5_next
set_option maxRecDepth 20000 in
theorem ggX5_pass_X5_next : GoodIn wsX5_pass wsX5_next := goodIn_r _ [6, 7, 1, 8, 9, 10, 5, 11, 12, 13, 14, 15] (by decide +kernel) (by decide +kernel)
set_option maxRecDepth 20000 in
theorem gX5_pass_X5_next : GoodIn wsX5_pass (wsV RX5 26 RX5 yX5_next wsX5_next) := goodIn_app (goodIn_of _ (by decide +kernel)) ggX5_pass_X5_next
set_option maxRecDepth 20000 in
theorem ggX5_readNumber_X5_isAtDigit : GoodIn wsX5_readNumber wsX5_isAtDigit := goodIn_r _ [6, 7, 8, 9, 5, 10, 11, 1, 12, 13, 14, 15, 16, 17, 18, 19] (by decide +kernel) (by decide +kernel)
set_option maxRecDepth 20000 in
theorem gX5_readNumber_X5_isAtDigit : GoodIn wsX5_readNumber (wsV RX5 30 RX5 yX5_isAtDigit wsX5_isAtDigit) := goodIn_app (goodIn_of _ (by decide +kernel)) ggX5_readNumber_X5_isAtDigit
set_option maxRecDepth 20000 in
theorem ggX5_readNumber_X5_next : GoodIn wsX5_readNumber wsX5_next := goodIn_r _ [10, 11, 1, 12, 13, 14, 5, 15, 16, 17, 18, 19] (by decide +kernel) (by decide +kernel)
set_option maxRecDepth 20000 in
theorem gX5_readNumber_X5_next : GoodIn wsX5_readNumber (wsV RX5 26 RX5 yX5_next wsX5_next) := goodIn_app (goodIn_of _ (by decide +kernel)) ggX5_readNumber_X5_next
set_option maxRecDepth 20000 in
theorem ggX6_init_X2_init : GoodIn wsX6_init wsX2_init := goodIn_r _ [37, 38, 2, 3] (by decide +kernel) (by decide +kernel)
set_option maxRecDepth 20000 in
theorem gX6_init_X2_init_n28 : GoodIn wsX6_init (wsX2_init) := ggX6_init_X2_init
set_option maxRecDepth 20000 in
theorem ggX6_init_X1_init : GoodIn wsX6_init wsX1_init := goodIn_r _ [41, 42, 2, 3, 43, 44, 45, 82, 83, 84, 85, 86, 87, 88] (by decide +kernel) (by decide +kernel)
set_option maxRecDepth 20000 in
theorem gX6_init_X1_init : GoodIn wsX6_init (wsX1_init) := ggX6_init_X1_init
set_option maxRecDepth 20000 in
theorem ggX6_init_X0_init : GoodIn wsX6_init wsX0_init := goodIn_r _ [47, 48, 2, 3, 49, 50, 51, 52, 53, 54, 89, 90, 91, 92] (by decide +kernel) (by decide +kernel)
set_option maxRecDepth 20000 in
theorem gX6_init_X0_init_n40 : GoodIn wsX6_init (wsX0_init) := ggX6_init_X0_init
set_option maxRecDepth 20000 in
theorem ggX6_init_X3_init : GoodIn wsX6_init wsX3_init := goodIn_r _ [56, 57, 2, 3] (by decide +kernel) (by decide +kernel)
set_option maxRecDepth 20000 in
theorem gX6_init_X3_init_n47 : GoodIn wsX6_init (wsX3_init) := ggX6_init_X3_init
set_option maxRecDepth 20000 in
theorem ggX6_init_X5_init : GoodIn wsX6_init wsX5_init := goodIn_r _ [59, 60, 2, 3, 61, 62, 95, 96, 97] (by decide +kernel) (by decide +kernel)
set_option maxRecDepth 20000 in
theorem gX6_init_X5_init_n54 : GoodIn wsX6_init (wsX5_init) := ggX6_init_X5_init
set_option maxRecDepth 20000 in
theorem ggX6_init_X4_init : GoodIn wsX6_init wsX4_init := goodIn_r _ [64, 65, 2, 3, 66, 67, 68, 69, 70, 71, 98, 99, 100, 101, 102, 103] (by decide +kernel) (by decide +kernel)
set_option maxRecDepth 20000 in
theorem gX6_init_X4_init_n61 : GoodIn wsX6_init (wsX4_init) := ggX6_init_X4_init
set_option maxRecDepth 20000 in
theorem ggX6_board_X6_slotOf : GoodIn wsX6_board wsX6_slotOf := goodIn_r _ [7, 8, 9, 10, 11, 33, 34, 35, 36, 37, 38, 39, 40, 41, 42, 43, 44, 45, 46] (by decide +kernel) (by decide +kernel)
set_option maxRecDepth 20000 in
theorem gX6_board_X6_slotOf : GoodIn wsX6_board (wsV RX6 66 RX6 yX6_slotOf wsX6_slotOf) := goodIn_app (goodIn_of _ (by decide +kernel)) ggX6_board_X6_slotOf
set_option maxRecDepth 20000 in
theorem ggX6_board_X6_kindOf : GoodIn wsX6_board wsX6_kindOf := goodIn_r _ [15, 16, 9, 10, 11, 33, 34, 35, 36, 37, 38, 39, 40, 41, 42, 43, 44, 45, 46] (by decide +kernel) (by decide +kernel)
set_option maxRecDepth 20000 in
theorem gX6_board_X6_kindOf : GoodIn wsX6_board (wsV RX6 70 RX6 yX6_kindOf wsX6_kindOf) := goodIn_app (goodIn_of _ (by decide +kernel)) ggX6_board_X6_kindOf
set_option maxRecDepth 20000 in
theorem ggX6_board_X6_requireWithin : GoodIn wsX6_board wsX6_requireWithin := goodIn_ca (goodIn_r _ [19, 20, 21] (by decide +kernel) (by decide +kernel)) (goodIn_sub (fun _ h => List.mem_cons_of_mem _ (List.mem_append_right _ h)) (by decide +kernel))
set_option maxRecDepth 20000 in
theorem gX6_board_X6_requireWithin : GoodIn wsX6_board (va_wsS RX6 76 yX6_requireWithin wsX6_requireWithin) := goodIn_app (goodIn_of _ (by decide +kernel)) ggX6_board_X6_requireWithin
set_option maxRecDepth 20000 in
theorem ggX6_board_X1_lay : GoodIn wsX6_board wsX1_lay := goodIn_r _ [26, 27, 28, 29, 30, 31, 32, 47, 48, 49, 50, 51, 52, 53] (by decide +kernel) (by decide +kernel)
set_option maxRecDepth 20000 in
theorem gX6_board_X1_lay : GoodIn wsX6_board (wsV RX6 82 RX1 yX1_lay wsX1_lay) := goodIn_app (goodIn_of _ (by decide +kernel)) ggX6_board_X1_lay
set_option maxRecDepth 20000 in
theorem ggX6_rate_X6_kindOf : GoodIn wsX6_rate wsX6_kindOf := goodIn_r _ [8, 9, 10, 11, 12, 20, 21, 22, 23, 24, 25, 26, 27, 28, 29, 30, 31, 32, 33] (by decide +kernel) (by decide +kernel)
set_option maxRecDepth 20000 in
theorem gX6_rate_X6_kindOf : GoodIn wsX6_rate (wsV RX6 70 RX6 yX6_kindOf wsX6_kindOf) := goodIn_app (goodIn_of _ (by decide +kernel)) ggX6_rate_X6_kindOf
set_option maxRecDepth 20000 in
theorem ggX6_rate_X6_requireWithin : GoodIn wsX6_rate wsX6_requireWithin := goodIn_ca (goodIn_r _ [15, 16, 17] (by decide +kernel) (by decide +kernel)) (goodIn_sub (fun _ h => List.mem_cons_of_mem _ (List.mem_append_right _ h)) (by decide +kernel))
set_option maxRecDepth 20000 in
theorem gX6_rate_X6_requireWithin : GoodIn wsX6_rate (va_wsS RX6 76 yX6_requireWithin wsX6_requireWithin) := goodIn_app (goodIn_of _ (by decide +kernel)) ggX6_rate_X6_requireWithin
set_option maxRecDepth 20000 in
theorem ggX6_air_X6_requireWithin : GoodIn wsX6_air wsX6_requireWithin := goodIn_ca (goodIn_r _ [11, 12, 13] (by decide +kernel) (by decide +kernel)) (goodIn_sub (fun _ h => List.mem_cons_of_mem _ (List.mem_append_right _ h)) (by decide +kernel))
set_option maxRecDepth 20000 in
theorem gX6_air_X6_requireWithin : GoodIn wsX6_air (va_wsS RX6 76 yX6_requireWithin wsX6_requireWithin) := goodIn_app (goodIn_of _ (by decide +kernel)) ggX6_air_X6_requireWithin
set_option maxRecDepth 20000 in
theorem ggX6_vent_X6_requireWithin : GoodIn wsX6_vent wsX6_requireWithin := goodIn_ca (goodIn_r _ [6, 7, 8] (by decide +kernel) (by decide +kernel)) (goodIn_sub (fun _ h => List.mem_cons_of_mem _ (List.mem_append_right _ h)) (by decide +kernel))
set_option maxRecDepth 20000 in
theorem gX6_vent_X6_requireWithin : GoodIn wsX6_vent (va_wsS RX6 76 yX6_requireWithin wsX6_requireWithin) := goodIn_app (goodIn_of _ (by decide +kernel)) ggX6_vent_X6_requireWithin
set_option maxRecDepth 20000 in
theorem ggX6_soak_X6_slotOf : GoodIn wsX6_soak wsX6_slotOf := goodIn_r _ [7, 8, 9, 10, 11, 35, 36, 37, 38, 39, 40, 41, 42, 43, 44, 45, 46, 47, 48] (by decide +kernel) (by decide +kernel)
set_option maxRecDepth 20000 in
theorem gX6_soak_X6_slotOf : GoodIn wsX6_soak (wsV RX6 66 RX6 yX6_slotOf wsX6_slotOf) := goodIn_app (goodIn_of _ (by decide +kernel)) ggX6_soak_X6_slotOf
set_option maxRecDepth 20000 in
theorem ggX6_soak_X6_requireLayer : GoodIn wsX6_soak wsX6_requireLayer := goodIn_r _ [15, 16, 9, 10, 11, 35, 36, 37, 38, 39, 40, 41, 42, 43, 44, 45, 46, 47, 48] (by decide +kernel) (by decide +kernel)
set_option maxRecDepth 20000 in
theorem gX6_soak_X6_requireLayer : GoodIn wsX6_soak (wsV RX6 111 RX6 yX6_requireLayer wsX6_requireLayer) := goodIn_app (goodIn_of _ (by decide +kernel)) ggX6_soak_X6_requireLayer
set_option maxRecDepth 20000 in
theorem ggX6_soak_X6_requireWithin : GoodIn wsX6_soak wsX6_requireWithin := goodIn_ca (goodIn_r _ [19, 20, 21] (by decide +kernel) (by decide +kernel)) (goodIn_sub (fun _ h => List.mem_cons_of_mem _ (List.mem_append_left _ (List.mem_append_right _ h))) (by decide +kernel))
set_option maxRecDepth 20000 in
theorem gX6_soak_X6_requireWithin : GoodIn wsX6_soak (va_wsS RX6 76 yX6_requireWithin wsX6_requireWithin) := goodIn_app (goodIn_of _ (by decide +kernel)) ggX6_soak_X6_requireWithin
set_option maxRecDepth 20000 in
theorem ggX6_soak_X6_requireThere : GoodIn wsX6_soak wsX6_requireThere := goodIn_ca (goodIn_r _ [24, 25, 26, 27, 28, 29, 30, 31, 32, 33, 34] (by decide +kernel) (by decide +kernel)) (goodIn_sub (fun _ h => List.mem_cons_of_mem _ (List.mem_append_right _ h)) (by decide +kernel))
set_option maxRecDepth 20000 in
theorem gX6_soak_X6_requireThere : GoodIn wsX6_soak (va_wsS RX6 115 yX6_requireThere wsX6_requireThere) := goodIn_app (goodIn_of _ (by decide +kernel)) ggX6_soak_X6_requireThere
set_option maxRecDepth 20000 in
theorem ggX6_unit_X5_append : GoodIn wsX6_unit wsX5_append := goodIn_r _ [6, 7, 8, 17, 18, 19] (by decide +kernel) (by decide +kernel)
set_option maxRecDepth 20000 in
theorem gX6_unit_X5_append : GoodIn wsX6_unit (wsV RX6 123 RX5 yX5_append wsX5_append) := goodIn_app (goodIn_of _ (by decide +kernel)) ggX6_unit_X5_append
set_option maxRecDepth 20000 in
theorem ggX6_schedule_X4_readFrom : GoodIn wsX6_schedule wsX4_readFrom := goodIn_r _ [7, 8, 9, 10, 11, 12, 13, 6, 14, 15, 16, 17, 18, 19, 20, 21, 22, 23, 24, 25, 26, 27, 28, 29, 30, 31, 32, 33, 34, 35, 36, 37, 38, 39, 40, 41, 42, 43, 44, 45, 46, 47, 48, 49, 50, 51, 52, 61, 62, 63, 64, 65, 66, 67, 68, 69] (by decide +kernel) (by decide +kernel)
set_option maxRecDepth 20000 in
theorem gX6_schedule_X4_readFrom : GoodIn wsX6_schedule (wsV RX6 127 RX4 yX4_readFrom wsX4_readFrom) := goodIn_app (goodIn_of _ (by decide +kernel)) ggX6_schedule_X4_readFrom
set_option maxRecDepth 20000 in
theorem ggX6_run_X6_isRefused : GoodIn wsX6_run wsX6_isRefused := goodIn_r _ [8, 9, 10, 11, 12, 13, 14, 15, 16, 17, 18, 19, 20, 21, 22, 23, 24, 25, 26, 27, 28, 29, 30, 31, 32, 33, 125, 126, 127, 128, 129, 130, 131, 132, 133, 134, 135, 136, 137, 138, 139, 140, 141, 142, 143, 144, 145] (by decide +kernel) (by decide +kernel)
set_option maxRecDepth 20000 in
theorem gX6_run_X6_isRefused : GoodIn wsX6_run (wsV RX6 138 RX6 yX6_isRefused wsX6_isRefused) := goodIn_app (goodIn_of _ (by decide +kernel)) ggX6_run_X6_isRefused
set_option maxRecDepth 20000 in
theorem ggX6_run_X6_passHour : GoodIn wsX6_run wsX6_passHour := goodIn_r _ [37, 9, 10, 11, 12, 38, 3, 39, 40, 41, 7, 42, 43, 44, 45, 46, 47, 48, 49, 50, 51, 52, 53, 54, 55, 56, 57, 58, 59, 60, 61, 62, 63, 64, 65, 66, 67, 16, 68, 26, 69, 70, 71, 72, 73, 74, 75, 76, 77, 78, 79, 80, 81, 82, 19, 83, 84, 85, 86, 87, 18, 88, 89, 90, 91, 21, 92, 27, 28, 29, 30, 31, 32, 33, 93, 94, 95, 96, 97, 98, 99, 100, 101, 102, 103, 104, 105, 106, 107, 108, 109, 110, 111, 112, 113, 114, 115, 116, 117, 118, 119, 120, 121, 122, 123, 20, 124, 125, 126, 127, 128, 129, 130, 131, 132, 133, 134, 135, 136, 137, 138, 139, 140, 141, 142, 143, 146, 147, 148, 149, 150, 151, 144, 145, 152, 153] (by decide +kernel) (by decide +kernel)
set_option maxRecDepth 20000 in
theorem gX6_run_X6_passHour : GoodIn wsX6_run (wsV RX6 145 RX6 yX6_passHour wsX6_passHour) := goodIn_app (goodIn_of _ (by decide +kernel)) ggX6_run_X6_passHour
set_option maxRecDepth 20000 in
theorem ggX6_limit_X6_slotOf : GoodIn wsX6_limit wsX6_slotOf := goodIn_r _ [7, 8, 9, 10, 11, 26, 27, 28, 29, 30, 31, 32, 33, 34, 35, 36, 37, 38, 39] (by decide +kernel) (by decide +kernel)
set_option maxRecDepth 20000 in
theorem gX6_limit_X6_slotOf : GoodIn wsX6_limit (wsV RX6 66 RX6 yX6_slotOf wsX6_slotOf) := goodIn_app (goodIn_of _ (by decide +kernel)) ggX6_limit_X6_slotOf
set_option maxRecDepth 20000 in
theorem ggX6_limit_X6_requireThere : GoodIn wsX6_limit wsX6_requireThere := goodIn_ca (goodIn_r _ [14, 15, 16, 17, 40, 41, 42, 43, 44, 45, 46] (by decide +kernel) (by decide +kernel)) (goodIn_sub (fun _ h => List.mem_cons_of_mem _ (List.mem_append_right _ h)) (by decide +kernel))
set_option maxRecDepth 20000 in
theorem gX6_limit_X6_requireThere : GoodIn wsX6_limit (va_wsS RX6 115 yX6_requireThere wsX6_requireThere) := goodIn_app (goodIn_of _ (by decide +kernel)) ggX6_limit_X6_requireThere
set_option maxRecDepth 20000 in
theorem ggX6_limit_X1_setLimit : GoodIn wsX6_limit wsX1_setLimit := goodIn_r _ [22, 23, 24, 25, 40, 41, 42, 43, 44, 45, 46] (by decide +kernel) (by decide +kernel)
set_option maxRecDepth 20000 in
theorem gX6_limit_X1_setLimit : GoodIn wsX6_limit (wsV RX6 150 RX1 yX1_setLimit wsX1_setLimit) := goodIn_app (goodIn_of _ (by decide +kernel)) ggX6_limit_X1_setLimit
set_option maxRecDepth 20000 in
theorem ggX6_check_X6_boardThere : GoodIn wsX6_check wsX6_boardThere := goodIn_ca (goodIn_r _ [6, 7, 8, 9, 5, 10, 11, 12, 13, 14, 15, 16, 17, 18, 19, 20, 28, 29, 30, 31, 32, 33, 34, 35, 36, 37, 38, 39, 40, 41, 21, 22, 23, 24, 25, 26, 27] (by decide +kernel) (by decide +kernel)) (goodIn_sub (fun _ h => List.mem_cons_of_mem _ (List.mem_append_right _ h)) (by decide +kernel))
set_option maxRecDepth 20000 in
theorem gX6_check_X6_boardThere : GoodIn wsX6_check (wsV RX6 154 RX6 yX6_boardThere wsX6_boardThere) := goodIn_app (goodIn_of _ (by decide +kernel)) ggX6_check_X6_boardThere
set_option maxRecDepth 20000 in
theorem ggX6_wet_X6_slotOf : GoodIn wsX6_wet wsX6_slotOf := goodIn_r _ [6, 7, 8, 9, 10, 29, 30, 31, 32, 33, 34, 35, 36, 37, 38, 39, 40, 41, 42] (by decide +kernel) (by decide +kernel)
set_option maxRecDepth 20000 in
theorem gX6_wet_X6_slotOf : GoodIn wsX6_wet (wsV RX6 66 RX6 yX6_slotOf wsX6_slotOf) := goodIn_app (goodIn_of _ (by decide +kernel)) ggX6_wet_X6_slotOf
set_option maxRecDepth 20000 in
theorem ggX6_wet_X6_requireLayer : GoodIn wsX6_wet wsX6_requireLayer := goodIn_r _ [14, 15, 8, 9, 10, 29, 30, 31, 32, 33, 34, 35, 36, 37, 38, 39, 40, 41, 42] (by decide +kernel) (by decide +kernel)
set_option maxRecDepth 20000 in
theorem gX6_wet_X6_requireLayer : GoodIn wsX6_wet (wsV RX6 111 RX6 yX6_requireLayer wsX6_requireLayer) := goodIn_app (goodIn_of _ (by decide +kernel)) ggX6_wet_X6_requireLayer
set_option maxRecDepth 20000 in
theorem ggX6_wet_X6_requireThere : GoodIn wsX6_wet wsX6_requireThere := goodIn_ca (goodIn_r _ [18, 19, 20, 21, 22, 23, 24, 25, 26, 27, 28] (by decide +kernel) (by decide +kernel)) (goodIn_sub (fun _ h => List.mem_cons_of_mem _ (List.mem_append_right _ h)) (by decide +kernel))
set_option maxRecDepth 20000 in
theorem gX6_wet_X6_requireThere : GoodIn wsX6_wet (va_wsS RX6 115 yX6_requireThere wsX6_requireThere) := goodIn_app (goodIn_of _ (by decide +kernel)) ggX6_wet_X6_requireThere
set_option maxRecDepth 20000 in
theorem ggX6_mean_X6_boardThere : GoodIn wsX6_mean wsX6_boardThere := goodIn_ca (goodIn_r _ [5, 6, 7, 8, 4, 9, 10, 11, 12, 13, 14, 15, 16, 17, 18, 19, 26, 27, 28, 29, 30, 31, 32, 33, 34, 35, 36, 37, 38, 39, 40, 41, 42, 43, 44, 45, 46] (by decide +kernel) (by decide +kernel)) (goodIn_sub (fun _ h => List.mem_cons_of_mem _ (List.mem_append_right _ h)) (by decide +kernel))
set_option maxRecDepth 20000 in
theorem gX6_mean_X6_boardThere : GoodIn wsX6_mean (wsV RX6 154 RX6 yX6_boardThere wsX6_boardThere) := goodIn_app (goodIn_of _ (by decide +kernel)) ggX6_mean_X6_boardThere
set_option maxRecDepth 20000 in
theorem ggX6_mean_X1_meanWetness : GoodIn wsX6_mean wsX1_meanWetness := goodIn_r _ [24, 25, 40, 41, 42, 43, 44, 45, 46] (by decide +kernel) (by decide +kernel)
set_option maxRecDepth 20000 in
theorem gX6_mean_X1_meanWetness : GoodIn wsX6_mean (wsV RX6 160 RX1 yX1_meanWetness wsX1_meanWetness) := goodIn_app (goodIn_of _ (by decide +kernel)) ggX6_mean_X1_meanWetness
set_option maxRecDepth 20000 in
theorem ggX6_stress_X6_slotOf : GoodIn wsX6_stress wsX6_slotOf := goodIn_r _ [6, 7, 8, 9, 10, 41, 42, 43, 44, 45, 46, 47, 48, 49, 50, 51, 52, 53, 54] (by decide +kernel) (by decide +kernel)
set_option maxRecDepth 20000 in
theorem gX6_stress_X6_slotOf : GoodIn wsX6_stress (wsV RX6 66 RX6 yX6_slotOf wsX6_slotOf) := goodIn_app (goodIn_of _ (by decide +kernel)) ggX6_stress_X6_slotOf
set_option maxRecDepth 20000 in
theorem ggX6_stress_X6_requireLayer : GoodIn wsX6_stress wsX6_requireLayer := goodIn_r _ [14, 15, 8, 9, 10, 41, 42, 43, 44, 45, 46, 47, 48, 49, 50, 51, 52, 53, 54] (by decide +kernel) (by decide +kernel)
set_option maxRecDepth 20000 in
theorem gX6_stress_X6_requireLayer : GoodIn wsX6_stress (wsV RX6 111 RX6 yX6_requireLayer wsX6_requireLayer) := goodIn_app (goodIn_of _ (by decide +kernel)) ggX6_stress_X6_requireLayer
set_option maxRecDepth 20000 in
theorem ggX6_stress_X6_requireThere : GoodIn wsX6_stress wsX6_requireThere := goodIn_ca (goodIn_r _ [18, 19, 20, 21, 34, 35, 36, 37, 38, 39, 40] (by decide +kernel) (by decide +kernel)) (goodIn_sub (fun _ h => List.mem_cons_of_mem _ (List.mem_append_right _ h)) (by decide +kernel))
set_option maxRecDepth 20000 in
theorem gX6_stress_X6_requireThere : GoodIn wsX6_stress (va_wsS RX6 115 yX6_requireThere wsX6_requireThere) := goodIn_app (goodIn_of _ (by decide +kernel)) ggX6_stress_X6_requireThere
set_option maxRecDepth 20000 in
theorem ggX6_stress_X1_shrinkage : GoodIn wsX6_stress wsX1_shrinkage := goodIn_r _ [25, 26, 27] (by decide +kernel) (by decide +kernel)
set_option maxRecDepth 20000 in
theorem gX6_stress_X1_shrinkage : GoodIn wsX6_stress (va_wsS RX6 164 yX1_shrinkage wsX1_shrinkage) := goodIn_app (goodIn_of _ (by decide +kernel)) ggX6_stress_X1_shrinkage
set_option maxRecDepth 20000 in
theorem ggX6_stress_X1_meanShrinkage : GoodIn wsX6_stress wsX1_meanShrinkage := goodIn_r _ [31, 32, 33, 23, 24, 25, 26, 27, 34, 35, 36, 37, 38, 39, 40] (by decide +kernel) (by decide +kernel)
set_option maxRecDepth 20000 in
theorem gX6_stress_X1_meanShrinkage : GoodIn wsX6_stress (wsV RX6 168 RX1 yX1_meanShrinkage wsX1_meanShrinkage) := goodIn_app (goodIn_of _ (by decide +kernel)) ggX6_stress_X1_meanShrinkage
set_option maxRecDepth 20000 in
theorem ggX6_balance_X0_balanceNow : GoodIn wsX6_balance wsX0_balanceNow := goodIn_r _ [6, 7, 8, 9, 10, 11, 20, 21, 22, 23] (by decide +kernel) (by decide +kernel)
set_option maxRecDepth 20000 in
theorem gX6_balance_X0_balanceNow : GoodIn wsX6_balance (wsV RX6 171 RX0 yX0_balanceNow wsX0_balanceNow) := goodIn_app (goodIn_of _ (by decide +kernel)) ggX6_balance_X0_balanceNow
set_option maxRecDepth 20000 in
theorem ggX6_count_X6_boardsThere : GoodIn wsX6_count wsX6_boardsThere := goodIn_r _ [11, 12, 13, 14, 15, 16, 17, 18, 19, 20, 21, 34, 35, 36, 37, 38, 39, 40] (by decide +kernel) (by decide +kernel)
set_option maxRecDepth 20000 in
theorem gX6_count_X6_boardsThere : GoodIn wsX6_count (wsV RX6 189 RX6 yX6_boardsThere wsX6_boardsThere) := goodIn_app (goodIn_of _ (by decide +kernel)) ggX6_count_X6_boardsThere
set_option maxRecDepth 20000 in
theorem ggX6_boardThere_X6_slotOf : GoodIn wsX6_boardThere wsX6_slotOf := goodIn_r _ [5, 6, 7, 8, 9, 16, 17, 18, 19, 20, 21, 22, 23, 24, 25, 26, 27, 28, 29] (by decide +kernel) (by decide +kernel)
set_option maxRecDepth 20000 in
theorem gX6_boardThere_X6_slotOf : GoodIn wsX6_boardThere (wsV RX6 66 RX6 yX6_slotOf wsX6_slotOf) := goodIn_app (goodIn_of _ (by decide +kernel)) ggX6_boardThere_X6_slotOf
set_option maxRecDepth 20000 in
theorem ggX6_boardThere_X6_requireThere : GoodIn wsX6_boardThere wsX6_requireThere := goodIn_ca (goodIn_r _ [12, 13, 14, 15, 30, 31, 32, 33, 34, 35, 36] (by decide +kernel) (by decide +kernel)) (goodIn_sub (fun _ h => List.mem_cons_of_mem _ (List.mem_append_right _ h)) (by decide +kernel))
set_option maxRecDepth 20000 in
theorem gX6_boardThere_X6_requireThere : GoodIn wsX6_boardThere (va_wsS RX6 115 yX6_requireThere wsX6_requireThere) := goodIn_app (goodIn_of _ (by decide +kernel)) ggX6_boardThere_X6_requireThere
set_option maxRecDepth 20000 in
theorem ggX6_isRefused_X1_refuses : GoodIn wsX6_isRefused wsX1_refuses := goodIn_r _ [9, 10, 11, 12, 13, 14, 15, 16, 8, 17, 18, 19, 20, 21, 22, 23, 24, 25, 34, 35, 36, 37, 38, 39, 40, 45, 46] (by decide +kernel) (by decide +kernel)
set_option maxRecDepth 20000 in
theorem gX6_isRefused_X1_refuses : GoodIn wsX6_isRefused (wsV RX6 212 RX1 yX1_refuses wsX1_refuses) := goodIn_app (goodIn_of _ (by decide +kernel)) ggX6_isRefused_X1_refuses
set_option maxRecDepth 20000 in
theorem ggX6_passHour_X6_followPlan : GoodIn wsX6_passHour wsX6_followPlan := goodIn_r _ [11, 12, 13, 14, 3, 15, 16, 17, 18, 19, 20, 21, 22, 10, 23, 24, 6, 25, 26, 27, 28, 29, 1, 2, 30, 31, 32, 33, 34, 35, 36, 37, 38, 39, 107, 108, 109, 110, 111, 112, 113, 114, 126, 127, 128, 129, 130, 131, 122, 123, 124, 125, 115, 116, 117, 118, 119, 120, 121] (by decide +kernel) (by decide +kernel)
set_option maxRecDepth 20000 in
theorem gX6_passHour_X6_followPlan : GoodIn wsX6_passHour (wsV RX6 216 RX6 yX6_followPlan wsX6_followPlan) := goodIn_app (goodIn_of _ (by decide +kernel)) ggX6_passHour_X6_followPlan
set_option maxRecDepth 20000 in
theorem ggX6_passHour_X0_balanceNow : GoodIn wsX6_passHour wsX0_balanceNow := goodIn_r _ [44, 45, 46, 47, 48, 49, 122, 123, 124, 125] (by decide +kernel) (by decide +kernel)
set_option maxRecDepth 20000 in
theorem gX6_passHour_X0_balanceNow : GoodIn wsX6_passHour (wsV RX6 171 RX0 yX0_balanceNow wsX0_balanceNow) := goodIn_app (goodIn_of _ (by decide +kernel)) ggX6_passHour_X0_balanceNow
set_option maxRecDepth 20000 in
theorem ggX6_passHour_X1_dry : GoodIn wsX6_passHour wsX1_dry := goodIn_r _ [53, 39, 54, 55, 56, 57, 58, 37, 59, 60, 61, 62, 63, 64, 65, 66, 67, 68, 69, 70, 71, 72, 73, 115, 116, 117, 118, 119, 120, 121, 132, 133] (by decide +kernel) (by decide +kernel)
set_option maxRecDepth 20000 in
theorem gX6_passHour_X1_dry : GoodIn wsX6_passHour (wsV RX6 219 RX1 yX1_dry wsX1_dry) := goodIn_app (goodIn_of _ (by decide +kernel)) ggX6_passHour_X1_dry
set_option maxRecDepth 20000 in
theorem ggX6_passHour_X3_take : GoodIn wsX6_passHour wsX3_take := goodIn_r _ [78, 79, 80, 134, 135] (by decide +kernel) (by decide +kernel)
set_option maxRecDepth 20000 in
theorem gX6_passHour_X3_take : GoodIn wsX6_passHour (wsV RX6 223 RX3 yX3_take wsX3_take) := goodIn_app (goodIn_of _ (by decide +kernel)) ggX6_passHour_X3_take
set_option maxRecDepth 20000 in
theorem ggX6_passHour_X0_takeUp : GoodIn wsX6_passHour wsX0_takeUp := goodIn_r _ [84, 46, 85, 86, 122, 123, 124, 125] (by decide +kernel) (by decide +kernel)
set_option maxRecDepth 20000 in
theorem gX6_passHour_X0_takeUp : GoodIn wsX6_passHour (wsV RX6 226 RX0 yX0_takeUp wsX0_takeUp) := goodIn_app (goodIn_of _ (by decide +kernel)) ggX6_passHour_X0_takeUp
set_option maxRecDepth 20000 in
theorem ggX6_passHour_X1_watchLoad : GoodIn wsX6_passHour wsX1_watchLoad := goodIn_r _ [90, 91, 92, 93, 94, 95, 96, 37, 97, 39, 98, 99, 100, 101, 102, 103, 104, 105, 106, 115, 116, 117, 118, 119, 120, 121] (by decide +kernel) (by decide +kernel)
set_option maxRecDepth 20000 in
theorem gX6_passHour_X1_watchLoad : GoodIn wsX6_passHour (wsV RX6 229 RX1 yX1_watchLoad wsX1_watchLoad) := goodIn_app (goodIn_of _ (by decide +kernel)) ggX6_passHour_X1_watchLoad
set_option maxRecDepth 20000 in
theorem ggX6_followPlan_X6_isStepDue : GoodIn wsX6_followPlan wsX6_isStepDue := goodIn_r _ [14, 1, 15, 16, 17, 8, 18, 19, 20, 13, 21, 22, 23, 24, 25, 26, 27, 28, 29, 30, 31, 32, 33, 34, 35, 36, 37, 38, 39, 40, 41, 42, 43, 44, 45, 46, 47, 52, 53, 54, 55, 56, 57, 58] (by decide +kernel) (by decide +kernel)
set_option maxRecDepth 20000 in
theorem gX6_followPlan_X6_isStepDue : GoodIn wsX6_followPlan (wsV RX6 235 RX6 yX6_isStepDue wsX6_isStepDue) := goodIn_app (goodIn_of _ (by decide +kernel)) ggX6_followPlan_X6_isStepDue
set_option maxRecDepth 20000 in
theorem ggX6_isStepDue_X6_boardsThere : GoodIn wsX6_isStepDue wsX6_boardsThere := goodIn_r _ [10, 11, 12, 23, 24, 25, 26, 27, 28, 29, 30, 37, 38, 39, 40, 41, 42, 43] (by decide +kernel) (by decide +kernel)
set_option maxRecDepth 20000 in
theorem gX6_isStepDue_X6_boardsThere : GoodIn wsX6_isStepDue (wsV RX6 189 RX6 yX6_boardsThere wsX6_boardsThere) := goodIn_app (goodIn_of _ (by decide +kernel)) ggX6_isStepDue_X6_boardsThere
set_option maxRecDepth 20000 in
theorem ggX6_isStepDue_X6_isAnyWetterThan : GoodIn wsX6_isStepDue wsX6_isAnyWetterThan := goodIn_r _ [16, 11, 12, 17, 18, 19, 20, 21, 22, 23, 24, 25, 26, 27, 28, 29, 30, 37, 38, 39, 40, 41, 42, 43] (by decide +kernel) (by decide +kernel)
set_option maxRecDepth 20000 in
theorem gX6_isStepDue_X6_isAnyWetterThan : GoodIn wsX6_isStepDue (wsV RX6 254 RX6 yX6_isAnyWetterThan wsX6_isAnyWetterThan) := goodIn_app (goodIn_of _ (by decide +kernel)) ggX6_isStepDue_X6_isAnyWetterThan
set_option maxRecDepth 20000 in
theorem ggX6_isAnyWetterThan_X1_meanWetness : GoodIn wsX6_isAnyWetterThan wsX1_meanWetness := goodIn_r _ [7, 8, 17, 18, 19, 20, 21, 22, 23] (by decide +kernel) (by decide +kernel)
set_option maxRecDepth 20000 in
theorem gX6_isAnyWetterThan_X1_meanWetness : GoodIn wsX6_isAnyWetterThan (wsV RX6 160 RX1 yX1_meanWetness wsX1_meanWetness) := goodIn_app (goodIn_of _ (by decide +kernel)) ggX6_isAnyWetterThan_X1_meanWetness
set_option maxRecDepth 20000 in
theorem ggX7_noLayer_X7_noBoard : GoodIn wsX7_noLayer wsX7_noBoard := goodIn_r _ [6, 7, 8, 9, 10, 11, 12, 13, 14, 15, 16, 17, 18, 19, 20, 21, 22, 23, 24, 25, 26, 27, 28, 29, 30, 31, 32, 33, 34, 35, 36, 37, 38] (by decide +kernel) (by decide +kernel)
set_option maxRecDepth 20000 in
theorem gX7_noLayer_X7_noBoard : GoodIn wsX7_noLayer (wsV RX7 81 RX7 yX7_noBoard wsX7_noBoard) := goodIn_app (goodIn_of _ (by decide +kernel)) ggX7_noLayer_X7_noBoard
set_option maxRecDepth 20000 in
theorem ggX7_board_X7_noBoard : GoodIn wsX7_board wsX7_noBoard := goodIn_r _ [15, 16, 20, 21, 22, 23, 24, 25, 26, 27, 28, 29, 30, 31, 32, 33, 34, 35, 36, 37, 38, 39, 40, 41, 42, 43, 44, 45, 46, 47, 48, 49, 50] (by decide +kernel) (by decide +kernel)
set_option maxRecDepth 20000 in
theorem gX7_board_X7_noBoard : GoodIn wsX7_board (wsV RX7 81 RX7 yX7_noBoard wsX7_noBoard) := goodIn_app (goodIn_of _ (by decide +kernel)) ggX7_board_X7_noBoard
set_option maxRecDepth 20000 in
theorem ggX7_board_X7_isIn : GoodIn wsX7_board wsX7_isIn := goodIn_r _ [19] (by decide +kernel) (by decide +kernel)
set_option maxRecDepth 20000 in
theorem gX7_board_X7_isIn : GoodIn wsX7_board (va_wsS RX7 87 yX7_isIn wsX7_isIn) := goodIn_app (goodIn_of _ (by decide +kernel)) ggX7_board_X7_isIn
set_option maxRecDepth 20000 in
theorem ggX7_rate_X7_isIn : GoodIn wsX7_rate wsX7_isIn := goodIn_r _ [8] (by decide +kernel) (by decide +kernel)
set_option maxRecDepth 20000 in
theorem gX7_rate_X7_isIn : GoodIn wsX7_rate (va_wsS RX7 87 yX7_isIn wsX7_isIn) := goodIn_app (goodIn_of _ (by decide +kernel)) ggX7_rate_X7_isIn
set_option maxRecDepth 20000 in
theorem ggX7_air_X7_isIn : GoodIn wsX7_air wsX7_isIn := goodIn_r _ [11] (by decide +kernel) (by decide +kernel)
set_option maxRecDepth 20000 in
theorem gX7_air_X7_isIn : GoodIn wsX7_air (va_wsS RX7 87 yX7_isIn wsX7_isIn) := goodIn_app (goodIn_of _ (by decide +kernel)) ggX7_air_X7_isIn
set_option maxRecDepth 20000 in
theorem ggX7_vent_X7_isIn : GoodIn wsX7_vent wsX7_isIn := goodIn_r _ [6] (by decide +kernel) (by decide +kernel)
set_option maxRecDepth 20000 in
theorem gX7_vent_X7_isIn : GoodIn wsX7_vent (va_wsS RX7 87 yX7_isIn wsX7_isIn) := goodIn_app (goodIn_of _ (by decide +kernel)) ggX7_vent_X7_isIn
set_option maxRecDepth 20000 in
theorem ggX7_soak_X7_noLayer : GoodIn wsX7_soak wsX7_noLayer := goodIn_r _ [9, 10, 11, 12, 13, 8, 14, 15, 19, 20, 21, 22, 23, 24, 25, 26, 27, 28, 29, 30, 31, 32, 33, 34, 35, 36, 37, 38, 39, 40, 41, 42, 43, 44, 45, 46, 47, 48, 49] (by decide +kernel) (by decide +kernel)
set_option maxRecDepth 20000 in
theorem gX7_soak_X7_noLayer : GoodIn wsX7_soak (wsV RX7 102 RX7 yX7_noLayer wsX7_noLayer) := goodIn_app (goodIn_of _ (by decide +kernel)) ggX7_soak_X7_noLayer
set_option maxRecDepth 20000 in
theorem ggX7_soak_X7_isIn : GoodIn wsX7_soak wsX7_isIn := goodIn_r _ [18] (by decide +kernel) (by decide +kernel)
set_option maxRecDepth 20000 in
theorem gX7_soak_X7_isIn : GoodIn wsX7_soak (va_wsS RX7 87 yX7_isIn wsX7_isIn) := goodIn_app (goodIn_of _ (by decide +kernel)) ggX7_soak_X7_isIn
set_option maxRecDepth 20000 in
theorem ggX7_pass_X7_fail : GoodIn wsX7_pass wsX7_fail := goodIn_r _ [8, 9, 10, 11, 12, 13, 14, 15, 16, 17, 18, 19, 20, 21, 22, 23, 24, 25, 26, 27, 28, 29, 30, 31, 32, 33, 34, 35, 36, 37, 38, 39, 40] (by decide +kernel) (by decide +kernel)
set_option maxRecDepth 20000 in
theorem gX7_pass_X7_fail : GoodIn wsX7_pass (wsV RX7 115 RX7 yX7_fail wsX7_fail) := goodIn_app (goodIn_of _ (by decide +kernel)) ggX7_pass_X7_fail
set_option maxRecDepth 20000 in
theorem ggX7_passNumber_X7_isDigit : GoodIn wsX7_passNumber wsX7_isDigit := goodIn_r _ [8, 1, 9, 3, 15, 16, 17, 18, 19, 20, 21, 22, 23, 24, 25, 26, 27, 28, 29, 30, 31, 32, 33, 34, 35, 36, 37, 38, 39, 40, 41, 42, 43, 44, 45] (by decide +kernel) (by decide +kernel)
set_option maxRecDepth 20000 in
theorem gX7_passNumber_X7_isDigit : GoodIn wsX7_passNumber (wsV RX7 121 RX7 yX7_isDigit wsX7_isDigit) := goodIn_app (goodIn_of _ (by decide +kernel)) ggX7_passNumber_X7_isDigit
set_option maxRecDepth 20000 in
theorem ggX7_passNumber_X7_fail : GoodIn wsX7_passNumber wsX7_fail := goodIn_r _ [13, 14, 15, 16, 17, 18, 19, 20, 21, 22, 23, 24, 25, 26, 27, 28, 29, 30, 31, 32, 33, 34, 35, 36, 37, 38, 39, 40, 41, 42, 43, 44, 45] (by decide +kernel) (by decide +kernel)
set_option maxRecDepth 20000 in
theorem gX7_passNumber_X7_fail : GoodIn wsX7_passNumber (wsV RX7 115 RX7 yX7_fail wsX7_fail) := goodIn_app (goodIn_of _ (by decide +kernel)) ggX7_passNumber_X7_fail
set_option maxRecDepth 20000 in
theorem ggX7_passStep_X7_fail : GoodIn wsX7_passStep wsX7_fail := goodIn_r _ [14, 15, 28, 29, 30, 31, 32, 33, 34, 35, 36, 37, 38, 39, 40, 41, 42, 43, 44, 45, 46, 47, 48, 49, 50, 51, 52, 53, 54, 55, 56, 57, 58] (by decide +kernel) (by decide +kernel)
set_option maxRecDepth 20000 in
theorem gX7_passStep_X7_fail : GoodIn wsX7_passStep (wsV RX7 115 RX7 yX7_fail wsX7_fail) := goodIn_app (goodIn_of _ (by decide +kernel)) ggX7_passStep_X7_fail
set_option maxRecDepth 20000 in
theorem ggX7_passStep_X7_passNumber : GoodIn wsX7_passStep wsX7_passNumber := goodIn_r _ [19, 1, 7, 3, 20, 21, 22, 13, 23, 2, 10, 11, 12, 14, 15, 28, 29, 30, 31, 32, 33, 34, 35, 36, 37, 38, 39, 40, 41, 42, 43, 44, 45, 46, 47, 48, 49, 50, 51, 52, 53, 54, 55, 56, 57, 58] (by decide +kernel) (by decide +kernel)
set_option maxRecDepth 20000 in
theorem gX7_passStep_X7_passNumber : GoodIn wsX7_passStep (wsV RX7 128 RX7 yX7_passNumber wsX7_passNumber) := goodIn_app (goodIn_of _ (by decide +kernel)) ggX7_passStep_X7_passNumber
set_option maxRecDepth 20000 in
theorem ggX7_passStep_X7_pass : GoodIn wsX7_passStep wsX7_pass := goodIn_r _ [27, 1, 2, 3, 10, 11, 12, 13, 14, 15, 28, 29, 30, 31, 32, 33, 34, 35, 36, 37, 38, 39, 40, 41, 42, 43, 44, 45, 46, 47, 48, 49, 50, 51, 52, 53, 54, 55, 56, 57, 58] (by decide +kernel) (by decide +kernel)
set_option maxRecDepth 20000 in
theorem gX7_passStep_X7_pass : GoodIn wsX7_passStep (wsV RX7 131 RX7 yX7_pass wsX7_pass) := goodIn_app (goodIn_of _ (by decide +kernel)) ggX7_passStep_X7_pass
set_option maxRecDepth 20000 in
theorem ggX7_schedule_X7_passStep : GoodIn wsX7_schedule wsX7_passStep := goodIn_r _ [12, 2, 5, 6, 13, 3, 14, 15, 16, 17, 18, 19, 20, 11, 21, 7, 22, 23, 24, 25, 26, 27, 28, 29, 30, 31, 32, 33, 34, 35, 36, 37, 38, 39, 40, 41, 42, 43, 44, 45, 46, 47, 48, 49, 50, 51, 52, 53, 54, 55, 56, 57, 58, 59, 60, 61, 62, 63, 64] (by decide +kernel) (by decide +kernel)
set_option maxRecDepth 20000 in
theorem gX7_schedule_X7_passStep : GoodIn wsX7_schedule (wsV RX7 137 RX7 yX7_passStep wsX7_passStep) := goodIn_app (goodIn_of _ (by decide +kernel)) ggX7_schedule_X7_passStep
set_option maxRecDepth 20000 in
theorem ggX7_schedule_X7_fail : GoodIn wsX7_schedule wsX7_fail := goodIn_r _ [21, 7, 34, 35, 36, 37, 38, 39, 40, 41, 42, 43, 44, 45, 46, 47, 48, 49, 50, 51, 52, 53, 54, 55, 56, 57, 58, 59, 60, 61, 62, 63, 64] (by decide +kernel) (by decide +kernel)
set_option maxRecDepth 20000 in
theorem gX7_schedule_X7_fail : GoodIn wsX7_schedule (wsV RX7 115 RX7 yX7_fail wsX7_fail) := goodIn_app (goodIn_of _ (by decide +kernel)) ggX7_schedule_X7_fail
set_option maxRecDepth 20000 in
theorem ggX7_meanOf_X7_sumOf : GoodIn wsX7_meanOf wsX7_sumOf := goodIn_r _ [6, 7, 1, 8, 9, 10, 11, 12, 13, 14, 15, 16, 17, 18, 19, 20, 21, 22, 23, 24, 25, 26, 27, 28, 29, 30, 31, 32, 33, 34, 35, 36, 37, 38] (by decide +kernel) (by decide +kernel)
set_option maxRecDepth 20000 in
theorem gX7_meanOf_X7_sumOf : GoodIn wsX7_meanOf (wsV RX7 140 RX7 yX7_sumOf wsX7_sumOf) := goodIn_app (goodIn_of _ (by decide +kernel)) ggX7_meanOf_X7_sumOf
set_option maxRecDepth 20000 in
theorem ggX7_hasCome_X7_meanOf : GoodIn wsX7_hasCome wsX7_meanOf := goodIn_r _ [12, 13, 14, 15, 16, 11, 17, 18, 19, 20, 21, 22, 23, 24, 25, 26, 27, 28, 29, 30, 31, 32, 33, 34, 35, 36, 37, 38, 39, 40, 41, 42, 43, 44, 45, 46, 47, 48, 49] (by decide +kernel) (by decide +kernel)
set_option maxRecDepth 20000 in
theorem gX7_hasCome_X7_meanOf : GoodIn wsX7_hasCome (wsV RX7 155 RX7 yX7_meanOf wsX7_meanOf) := goodIn_app (goodIn_of _ (by decide +kernel)) ggX7_hasCome_X7_meanOf
set_option maxRecDepth 20000 in
theorem ggX7_hourOf_X7_balanceNow : GoodIn wsX7_hourOf wsX7_balanceNow := goodIn_r _ [17, 18, 10, 19, 20, 21, 30, 31, 32, 33, 34, 35, 36, 37, 38, 39, 40, 41, 42, 43, 44, 45, 46, 47, 48, 49, 50, 51, 52, 53, 54, 55, 56, 57, 58, 59, 60] (by decide +kernel) (by decide +kernel)
set_option maxRecDepth 20000 in
theorem gX7_hourOf_X7_balanceNow : GoodIn wsX7_hourOf (wsV RX7 162 RX7 yX7_balanceNow wsX7_balanceNow) := goodIn_app (goodIn_of _ (by decide +kernel)) ggX7_hourOf_X7_balanceNow
set_option maxRecDepth 20000 in
theorem ggX7_hourOf_X7_flow : GoodIn wsX7_hourOf wsX7_flow := goodIn_r _ [25, 2, 26, 27, 28, 4, 29, 30, 31, 32, 33, 34, 35, 36, 37, 38, 39, 40, 41, 42, 43, 44, 45, 46, 47, 48, 49, 50, 51, 52, 53, 54, 55, 56, 57, 58, 59, 60] (by decide +kernel) (by decide +kernel)
set_option maxRecDepth 20000 in
theorem gX7_hourOf_X7_flow : GoodIn wsX7_hourOf (wsV RX7 166 RX7 yX7_flow wsX7_flow) := goodIn_app (goodIn_of _ (by decide +kernel)) ggX7_hourOf_X7_flow
set_option maxRecDepth 20000 in
theorem ggX7_stressOf_X7_share : GoodIn wsX7_stressOf wsX7_share := goodIn_r _ [6, 7, 8, 9, 10, 11, 12, 13, 14, 15, 16, 17, 18, 19, 20, 21, 22, 23, 24, 25, 26, 27, 28, 29, 30, 31, 32, 33, 34, 35, 36, 37, 38, 39, 40] (by decide +kernel) (by decide +kernel)
set_option maxRecDepth 20000 in
theorem gX7_stressOf_X7_share : GoodIn wsX7_stressOf (wsV RX7 183 RX7 yX7_share wsX7_share) := goodIn_app (goodIn_of _ (by decide +kernel)) ggX7_stressOf_X7_share
set_option maxRecDepth 20000 in
theorem ggX7_keep_X7_stressOf : GoodIn wsX7_keep wsX7_stressOf := goodIn_r _ [10, 1, 11, 12, 13, 9, 14, 15, 16, 17, 18, 19, 20, 21, 22, 23, 24, 25, 26, 27, 28, 29, 30, 31, 32, 33, 34, 35, 36, 37, 38, 39, 40, 41, 42, 43, 44, 45, 46, 47, 48] (by decide +kernel) (by decide +kernel)
set_option maxRecDepth 20000 in
theorem gX7_keep_X7_stressOf : GoodIn wsX7_keep (wsV RX7 186 RX7 yX7_stressOf wsX7_stressOf) := goodIn_app (goodIn_of _ (by decide +kernel)) ggX7_keep_X7_stressOf
set_option maxRecDepth 20000 in
theorem ggX7_hour_X7_hasCome : GoodIn wsX7_hour wsX7_hasCome := goodIn_r _ [15, 16, 1, 10, 17, 8, 9, 6, 18, 19, 20, 14, 21, 22, 23, 24, 25, 26, 27, 73, 74, 75, 76, 77, 78, 79, 80, 81, 82, 83, 84, 85, 86, 87, 88, 89, 90, 91, 92, 93, 94, 95, 96, 97, 98, 99, 100, 101, 102, 103] (by decide +kernel) (by decide +kernel)
set_option maxRecDepth 20000 in
theorem gX7_hour_X7_hasCome : GoodIn wsX7_hour (wsV RX7 189 RX7 yX7_hasCome wsX7_hasCome) := goodIn_app (goodIn_of _ (by decide +kernel)) ggX7_hour_X7_hasCome
set_option maxRecDepth 20000 in
theorem ggX7_hour_X7_hourOf : GoodIn wsX7_hour wsX7_hourOf := goodIn_r _ [31, 22, 32, 33, 27, 34, 35, 36, 37, 38, 7, 39, 40, 41, 42, 43, 14, 44, 45, 4, 46, 47, 48, 49, 50, 51, 52, 53, 54, 55, 73, 74, 75, 76, 77, 78, 79, 80, 81, 82, 83, 84, 85, 86, 87, 88, 89, 90, 91, 92, 93, 94, 95, 96, 97, 98, 99, 100, 101, 102, 103] (by decide +kernel) (by decide +kernel)
set_option maxRecDepth 20000 in
theorem gX7_hour_X7_hourOf : GoodIn wsX7_hour (wsV RX7 192 RX7 yX7_hourOf wsX7_hourOf) := goodIn_app (goodIn_of _ (by decide +kernel)) ggX7_hour_X7_hourOf
set_option maxRecDepth 20000 in
theorem ggX7_hour_X7_keep : GoodIn wsX7_hour wsX7_keep := goodIn_r _ [59, 22, 60, 61, 62, 10, 63, 64, 65, 14, 66, 67, 68, 69, 70, 27, 71, 72, 73, 74, 75, 76, 77, 78, 79, 80, 81, 82, 83, 84, 85, 86, 87, 88, 89, 90, 91, 92, 93, 94, 95, 96, 97, 98, 99, 100, 101, 102, 103] (by decide +kernel) (by decide +kernel)
set_option maxRecDepth 20000 in
theorem gX7_hour_X7_keep : GoodIn wsX7_hour (wsV RX7 196 RX7 yX7_keep wsX7_keep) := goodIn_app (goodIn_of _ (by decide +kernel)) ggX7_hour_X7_keep
set_option maxRecDepth 20000 in
theorem ggX7_run_X7_isRefused : GoodIn wsX7_run wsX7_isRefused := goodIn_r _ [7, 8, 9, 10, 11, 12, 13, 14, 15, 16, 17, 18, 82, 83, 84, 85, 86, 87, 88, 89, 90, 91, 92, 93, 94, 95, 96, 97, 98, 99, 100, 101, 102, 103, 104, 105, 106, 107, 108, 109, 110, 111, 112] (by decide +kernel) (by decide +kernel)
set_option maxRecDepth 20000 in
theorem gX7_run_X7_isRefused : GoodIn wsX7_run (wsV RX7 199 RX7 yX7_isRefused wsX7_isRefused) := goodIn_app (goodIn_of _ (by decide +kernel)) ggX7_run_X7_isRefused
set_option maxRecDepth 20000 in
theorem ggX7_run_X7_hour : GoodIn wsX7_run wsX7_hour := goodIn_r _ [22, 23, 24, 25, 26, 27, 28, 29, 8, 9, 2, 30, 31, 32, 6, 33, 34, 35, 36, 37, 38, 39, 10, 40, 41, 42, 43, 11, 44, 45, 46, 47, 12, 13, 14, 48, 49, 50, 51, 52, 53, 54, 55, 56, 57, 58, 59, 60, 61, 62, 63, 64, 16, 17, 18, 65, 66, 67, 68, 69, 70, 71, 72, 73, 74, 75, 76, 77, 78, 79, 80, 15, 81, 82, 83, 84, 85, 86, 87, 88, 89, 90, 91, 92, 93, 94, 95, 96, 97, 98, 99, 100, 101, 102, 103, 104, 105, 106, 107, 108, 109, 110, 111, 112] (by decide +kernel) (by decide +kernel)
set_option maxRecDepth 20000 in
theorem gX7_run_X7_hour : GoodIn wsX7_run (wsV RX7 202 RX7 yX7_hour wsX7_hour) := goodIn_app (goodIn_of _ (by decide +kernel)) ggX7_run_X7_hour
set_option maxRecDepth 20000 in
theorem ggX7_limit_X7_noBoard : GoodIn wsX7_limit wsX7_noBoard := goodIn_r _ [10, 11, 12, 13, 14, 15, 16, 17, 18, 19, 20, 21, 22, 23, 24, 25, 26, 27, 28, 29, 30, 31, 32, 33, 34, 35, 36, 37, 38, 39, 40, 41, 42] (by decide +kernel) (by decide +kernel)
set_option maxRecDepth 20000 in
theorem gX7_limit_X7_noBoard : GoodIn wsX7_limit (wsV RX7 81 RX7 yX7_noBoard wsX7_noBoard) := goodIn_app (goodIn_of _ (by decide +kernel)) ggX7_limit_X7_noBoard
set_option maxRecDepth 20000 in
theorem ggX7_check_X7_noBoard : GoodIn wsX7_check wsX7_noBoard := goodIn_r _ [6, 7, 14, 15, 16, 17, 18, 19, 20, 21, 22, 23, 24, 25, 26, 27, 28, 29, 30, 31, 32, 33, 34, 35, 36, 37, 38, 39, 40, 41, 42, 43, 44] (by decide +kernel) (by decide +kernel)
set_option maxRecDepth 20000 in
theorem gX7_check_X7_noBoard : GoodIn wsX7_check (wsV RX7 81 RX7 yX7_noBoard wsX7_noBoard) := goodIn_app (goodIn_of _ (by decide +kernel)) ggX7_check_X7_noBoard
set_option maxRecDepth 20000 in
theorem ggX7_check_X7_isMissing : GoodIn wsX7_check wsX7_isMissing := goodIn_r _ [11, 12, 13, 14, 15, 16, 17, 18, 19, 20, 21, 22, 23, 24, 25, 26, 27, 28, 29, 30, 31, 32, 33, 34, 35, 36, 37, 38, 39, 40, 41, 42, 43, 44] (by decide +kernel) (by decide +kernel)
set_option maxRecDepth 20000 in
theorem gX7_check_X7_isMissing : GoodIn wsX7_check (wsV RX7 205 RX7 yX7_isMissing wsX7_isMissing) := goodIn_app (goodIn_of _ (by decide +kernel)) ggX7_check_X7_isMissing
set_option maxRecDepth 20000 in
theorem ggX7_wet_X7_noLayer : GoodIn wsX7_wet wsX7_noLayer := goodIn_r _ [6, 7, 8, 9, 10, 5, 11, 12, 19, 20, 21, 22, 23, 24, 25, 26, 27, 28, 29, 30, 31, 32, 33, 34, 35, 36, 37, 38, 39, 40, 41, 42, 43, 44, 45, 46, 47, 48, 49] (by decide +kernel) (by decide +kernel)
set_option maxRecDepth 20000 in
theorem gX7_wet_X7_noLayer : GoodIn wsX7_wet (wsV RX7 102 RX7 yX7_noLayer wsX7_noLayer) := goodIn_app (goodIn_of _ (by decide +kernel)) ggX7_wet_X7_noLayer
set_option maxRecDepth 20000 in
theorem ggX7_wet_X7_isMissing : GoodIn wsX7_wet wsX7_isMissing := goodIn_r _ [16, 17, 18, 19, 20, 21, 22, 23, 24, 25, 26, 27, 28, 29, 30, 31, 32, 33, 34, 35, 36, 37, 38, 39, 40, 41, 42, 43, 44, 45, 46, 47, 48, 49] (by decide +kernel) (by decide +kernel)
set_option maxRecDepth 20000 in
theorem gX7_wet_X7_isMissing : GoodIn wsX7_wet (wsV RX7 205 RX7 yX7_isMissing wsX7_isMissing) := goodIn_app (goodIn_of _ (by decide +kernel)) ggX7_wet_X7_isMissing
set_option maxRecDepth 20000 in
theorem ggX7_mean_X7_noBoard : GoodIn wsX7_mean wsX7_noBoard := goodIn_r _ [5, 6, 23, 24, 25, 26, 27, 28, 29, 30, 31, 32, 33, 34, 35, 36, 37, 38, 39, 40, 41, 42, 43, 44, 45, 46, 47, 48, 49, 50, 51, 52, 53] (by decide +kernel) (by decide +kernel)
set_option maxRecDepth 20000 in
theorem gX7_mean_X7_noBoard : GoodIn wsX7_mean (wsV RX7 81 RX7 yX7_noBoard wsX7_noBoard) := goodIn_app (goodIn_of _ (by decide +kernel)) ggX7_mean_X7_noBoard
set_option maxRecDepth 20000 in
theorem ggX7_mean_X7_isMissing : GoodIn wsX7_mean wsX7_isMissing := goodIn_r _ [10, 11, 12, 23, 24, 25, 26, 27, 28, 29, 30, 31, 32, 33, 34, 35, 36, 37, 38, 39, 40, 41, 42, 43, 44, 45, 46, 47, 48, 49, 50, 51, 52, 53] (by decide +kernel) (by decide +kernel)
set_option maxRecDepth 20000 in
theorem gX7_mean_X7_isMissing : GoodIn wsX7_mean (wsV RX7 205 RX7 yX7_isMissing wsX7_isMissing) := goodIn_app (goodIn_of _ (by decide +kernel)) ggX7_mean_X7_isMissing
set_option maxRecDepth 20000 in
theorem ggX7_mean_X7_meanOf : GoodIn wsX7_mean wsX7_meanOf := goodIn_r _ [16, 17, 18, 19, 20, 4, 21, 22, 23, 24, 25, 26, 27, 28, 29, 30, 31, 32, 33, 34, 35, 36, 37, 38, 39, 40, 41, 42, 43, 44, 45, 46, 47, 48, 49, 50, 51, 52, 53] (by decide +kernel) (by decide +kernel)
set_option maxRecDepth 20000 in
theorem gX7_mean_X7_meanOf : GoodIn wsX7_mean (wsV RX7 155 RX7 yX7_meanOf wsX7_meanOf) := goodIn_app (goodIn_of _ (by decide +kernel)) ggX7_mean_X7_meanOf
set_option maxRecDepth 20000 in
theorem ggX7_stress_X7_noLayer : GoodIn wsX7_stress wsX7_noLayer := goodIn_r _ [5, 6, 7, 8, 9, 4, 10, 11, 29, 30, 31, 32, 33, 34, 35, 36, 37, 38, 39, 40, 41, 42, 43, 44, 45, 46, 47, 48, 49, 50, 51, 52, 53, 54, 55, 56, 57, 58, 59] (by decide +kernel) (by decide +kernel)
set_option maxRecDepth 20000 in
theorem gX7_stress_X7_noLayer : GoodIn wsX7_stress (wsV RX7 102 RX7 yX7_noLayer wsX7_noLayer) := goodIn_app (goodIn_of _ (by decide +kernel)) ggX7_stress_X7_noLayer
set_option maxRecDepth 20000 in
theorem ggX7_stress_X7_isMissing : GoodIn wsX7_stress wsX7_isMissing := goodIn_r _ [15, 16, 17, 29, 30, 31, 32, 33, 34, 35, 36, 37, 38, 39, 40, 41, 42, 43, 44, 45, 46, 47, 48, 49, 50, 51, 52, 53, 54, 55, 56, 57, 58, 59] (by decide +kernel) (by decide +kernel)
set_option maxRecDepth 20000 in
theorem gX7_stress_X7_isMissing : GoodIn wsX7_stress (wsV RX7 205 RX7 yX7_isMissing wsX7_isMissing) := goodIn_app (goodIn_of _ (by decide +kernel)) ggX7_stress_X7_isMissing
set_option maxRecDepth 20000 in
theorem ggX7_stress_X7_stressOf : GoodIn wsX7_stress wsX7_stressOf := goodIn_r _ [21, 6, 22, 23, 24, 4, 25, 26, 27, 28, 29, 30, 31, 32, 33, 34, 35, 36, 37, 38, 39, 40, 41, 42, 43, 44, 45, 46, 47, 48, 49, 50, 51, 52, 53, 54, 55, 56, 57, 58, 59] (by decide +kernel) (by decide +kernel)
set_option maxRecDepth 20000 in
theorem gX7_stress_X7_stressOf : GoodIn wsX7_stress (wsV RX7 186 RX7 yX7_stressOf wsX7_stressOf) := goodIn_app (goodIn_of _ (by decide +kernel)) ggX7_stress_X7_stressOf
set_option maxRecDepth 20000 in
theorem ggX7_balance_X7_balanceNow : GoodIn wsX7_balance wsX7_balanceNow := goodIn_r _ [6, 7, 8, 9, 10, 11, 12, 13, 14, 15, 16, 17, 18, 19, 20, 21, 22, 23, 24, 25, 26, 27, 28, 29, 30, 31, 32, 33, 34, 35, 36, 37, 38, 39, 40, 41, 42] (by decide +kernel) (by decide +kernel)
set_option maxRecDepth 20000 in
theorem gX7_balance_X7_balanceNow : GoodIn wsX7_balance (wsV RX7 162 RX7 yX7_balanceNow wsX7_balanceNow) := goodIn_app (goodIn_of _ (by decide +kernel)) ggX7_balance_X7_balanceNow
set_option maxRecDepth 20000 in
theorem ggL_board_X6_board : GoodIn wsL_board wsX6_board := goodIn_ca (goodIn_r _ [7, 8, 9, 10, 11, 12, 6, 13, 14, 15, 16, 17, 18, 19, 20, 21, 22, 23, 24, 25, 26, 27, 28, 29, 30, 31, 32, 33, 34, 35, 36, 37, 38, 39, 40, 41, 42, 43, 44, 45, 46, 47, 48, 49, 50, 51, 52, 53, 54, 55, 56, 57, 58, 59] (by decide +kernel) (by decide +kernel)) (goodIn_sub (fun _ h => List.mem_cons_of_mem _ (List.mem_append_right _ h)) (by decide +kernel))
set_option maxRecDepth 20000 in
theorem gL_board_X6_board : GoodIn wsL_board (wsV RL 7 RX6 yX6_board wsX6_board) := goodIn_app (goodIn_of _ (by decide +kernel)) ggL_board_X6_board
set_option maxRecDepth 20000 in
theorem ggL_rate_X6_rate : GoodIn wsL_rate wsX6_rate := goodIn_ca (goodIn_r _ [7, 8, 9, 10, 11, 12, 13, 6, 14, 15, 16, 17, 18, 19, 20, 21, 22, 23, 24, 25, 26, 27, 28, 29, 30, 31, 32, 33, 34, 35, 36, 37, 38, 39] (by decide +kernel) (by decide +kernel)) (goodIn_sub (fun _ h => List.mem_cons_of_mem _ (List.mem_append_right _ h)) (by decide +kernel))
set_option maxRecDepth 20000 in
theorem gL_rate_X6_rate : GoodIn wsL_rate (wsV RL 17 RX6 yX6_rate wsX6_rate) := goodIn_app (goodIn_of _ (by decide +kernel)) ggL_rate_X6_rate
set_option maxRecDepth 20000 in
theorem ggL_air_X6_air : GoodIn wsL_air wsX6_air := goodIn_ca (goodIn_r _ [6, 7, 8, 9, 10, 11, 12, 13, 14, 15, 5, 16, 17, 18, 19, 20, 21, 22, 23, 24, 25, 26, 27, 28, 29, 30] (by decide +kernel) (by decide +kernel)) (goodIn_sub (fun _ h => List.mem_cons_of_mem _ (List.mem_append_right _ h)) (by decide +kernel))
set_option maxRecDepth 20000 in
theorem gL_air_X6_air : GoodIn wsL_air (wsV RL 21 RX6 yX6_air wsX6_air) := goodIn_app (goodIn_of _ (by decide +kernel)) ggL_air_X6_air
set_option maxRecDepth 20000 in
theorem ggL_vent_X6_vent : GoodIn wsL_vent wsX6_vent := goodIn_ca (goodIn_r _ [6, 7, 8, 9, 10, 5, 11, 12, 13, 14, 15, 16, 17, 18, 19, 20, 21, 22, 23, 24, 25] (by decide +kernel) (by decide +kernel)) (goodIn_sub (fun _ h => List.mem_cons_of_mem _ (List.mem_append_right _ h)) (by decide +kernel))
set_option maxRecDepth 20000 in
theorem gL_vent_X6_vent : GoodIn wsL_vent (wsV RL 25 RX6 yX6_vent wsX6_vent) := goodIn_app (goodIn_of _ (by decide +kernel)) ggL_vent_X6_vent
set_option maxRecDepth 20000 in
theorem ggL_soak_X6_soak : GoodIn wsL_soak wsX6_soak := goodIn_ca (goodIn_ca (goodIn_r _ [8, 9, 10, 11, 12, 13, 7, 14, 15, 16, 17, 18, 19, 20, 21, 22, 23, 24, 25, 26, 27, 28, 29, 30, 31, 32, 33, 34, 35, 36, 37, 38, 39, 40, 41, 42, 43, 44, 45, 46, 47, 48, 49, 50, 51, 52, 53, 54, 55] (by decide +kernel) (by decide +kernel)) (goodIn_sub (fun _ h => List.mem_cons_of_mem _ (List.mem_append_left _ (List.mem_append_right _ h))) (by decide +kernel))) (goodIn_sub (fun _ h => List.mem_cons_of_mem _ (List.mem_append_right _ h)) (by decide +kernel))
set_option maxRecDepth 20000 in
theorem gL_soak_X6_soak : GoodIn wsL_soak (wsV RL 29 RX6 yX6_soak wsX6_soak) := goodIn_app (goodIn_of _ (by decide +kernel)) ggL_soak_X6_soak
set_option maxRecDepth 20000 in
theorem ggL_run_X6_run : GoodIn wsL_run wsX6_run := goodIn_ca (goodIn_r _ [6, 7, 8, 9, 10, 11, 12, 5, 13, 14, 15, 16, 17, 18, 19, 20, 21, 22, 23, 24, 25, 26, 27, 28, 29, 30, 31, 32, 33, 34, 35, 36, 37, 38, 39, 40, 41, 42, 43, 44, 45, 46, 47, 48, 49, 50, 51, 52, 53, 54, 55, 56, 57, 58, 59, 60, 61, 62, 63, 64, 65, 66, 67, 68, 69, 70, 71, 72, 73, 74, 75, 76, 77, 78, 79, 80, 81, 82, 83, 84, 85, 86, 87, 88, 89, 90, 91, 92, 93, 94, 95, 96, 97, 98, 99, 100, 101, 102, 103, 104, 105, 106, 107, 108, 109, 110, 111, 112, 113, 114, 115, 116, 117, 118, 119, 120, 121, 122, 123, 124, 125, 126, 127, 128, 129, 130, 131, 132, 133, 134, 135, 136, 137, 138, 139, 140, 141, 142, 143, 144, 145, 146, 147, 148, 149, 150, 151, 152, 153, 154, 155, 156, 157, 158] (by decide +kernel) (by decide +kernel)) (goodIn_sub (fun _ h => List.mem_cons_of_mem _ (List.mem_append_right _ h)) (by decide +kernel))
set_option maxRecDepth 20000 in
theorem gL_run_X6_run : GoodIn wsL_run (wsV RL 35 RX6 yX6_run wsX6_run) := goodIn_app (goodIn_of _ (by decide +kernel)) ggL_run_X6_run
set_option maxRecDepth 20000 in
theorem ggL_limit_X6_limit : GoodIn wsL_limit wsX6_limit := goodIn_ca (goodIn_ca (goodIn_r _ [8, 9, 10, 11, 12, 13, 7, 14, 15, 16, 17, 18, 19, 20, 21, 22, 23, 24, 25, 26, 27, 28, 29, 30, 31, 32, 33, 34, 35, 36, 37, 38, 39, 40, 41, 42, 43, 44, 45, 46, 47, 48, 49, 50, 51, 52, 53] (by decide +kernel) (by decide +kernel)) (goodIn_sub (fun _ h => List.mem_cons_of_mem _ (List.mem_append_left _ (List.mem_append_right _ h))) (by decide +kernel))) (goodIn_sub (fun _ h => List.mem_cons_of_mem _ (List.mem_append_right _ h)) (by decide +kernel))
set_option maxRecDepth 20000 in
theorem gL_limit_X6_limit : GoodIn wsL_limit (wsV RL 39 RX6 yX6_limit wsX6_limit) := goodIn_app (goodIn_of _ (by decide +kernel)) ggL_limit_X6_limit
set_option maxRecDepth 20000 in
theorem ggL_check_X6_check : GoodIn wsL_check wsX6_check := goodIn_ca (goodIn_r _ [7, 8, 9, 10, 11, 6, 12, 13, 14, 15, 16, 17, 18, 19, 20, 21, 22, 23, 24, 25, 26, 27, 28, 29, 30, 31, 32, 33, 34, 35, 36, 37, 38, 39, 40, 41, 42, 43, 44, 45, 46, 47] (by decide +kernel) (by decide +kernel)) (goodIn_sub (fun _ h => List.mem_cons_of_mem _ (List.mem_append_right _ h)) (by decide +kernel))
set_option maxRecDepth 20000 in
theorem gL_check_X6_check : GoodIn wsL_check (wsV RL 43 RX6 yX6_check wsX6_check) := goodIn_app (goodIn_of _ (by decide +kernel)) ggL_check_X6_check
set_option maxRecDepth 20000 in
theorem ggL_wet_X6_wet : GoodIn wsL_wet wsX6_wet := goodIn_ca (goodIn_r _ [7, 8, 9, 10, 11, 6, 12, 13, 14, 15, 16, 17, 18, 19, 20, 21, 22, 23, 24, 25, 26, 27, 28, 29, 30, 31, 32, 33, 34, 35, 36, 37, 38, 39, 40, 41, 42, 43, 44, 45, 46, 47, 48] (by decide +kernel) (by decide +kernel)) (goodIn_sub (fun _ h => List.mem_cons_of_mem _ (List.mem_append_right _ h)) (by decide +kernel))
set_option maxRecDepth 20000 in
theorem gL_wet_X6_wet : GoodIn wsL_wet (wsV RL 46 RX6 yX6_wet wsX6_wet) := goodIn_app (goodIn_of _ (by decide +kernel)) ggL_wet_X6_wet
set_option maxRecDepth 20000 in
theorem ggL_mean_X6_mean : GoodIn wsL_mean wsX6_mean := goodIn_ca (goodIn_r _ [7, 8, 9, 10, 6, 11, 12, 13, 14, 15, 16, 17, 18, 19, 20, 21, 22, 23, 24, 25, 26, 27, 28, 29, 30, 31, 32, 33, 34, 35, 36, 37, 38, 39, 40, 41, 42, 43, 44, 45, 46, 47, 48, 49, 50, 51, 52] (by decide +kernel) (by decide +kernel)) (goodIn_sub (fun _ h => List.mem_cons_of_mem _ (List.mem_append_right _ h)) (by decide +kernel))
set_option maxRecDepth 20000 in
theorem gL_mean_X6_mean : GoodIn wsL_mean (wsV RL 50 RX6 yX6_mean wsX6_mean) := goodIn_app (goodIn_of _ (by decide +kernel)) ggL_mean_X6_mean
set_option maxRecDepth 20000 in
theorem ggL_stress_X6_stress : GoodIn wsL_stress wsX6_stress := goodIn_ca (goodIn_r _ [7, 8, 9, 10, 11, 6, 12, 13, 14, 15, 16, 17, 18, 19, 20, 21, 22, 23, 24, 25, 26, 27, 28, 29, 30, 31, 32, 33, 34, 35, 36, 37, 38, 39, 40, 41, 42, 43, 44, 45, 46, 47, 48, 49, 50, 51, 52, 53, 54, 55, 56, 57, 58, 59, 60] (by decide +kernel) (by decide +kernel)) (goodIn_sub (fun _ h => List.mem_cons_of_mem _ (List.mem_append_right _ h)) (by decide +kernel))
set_option maxRecDepth 20000 in
theorem gL_stress_X6_stress : GoodIn wsL_stress (wsV RL 54 RX6 yX6_stress wsX6_stress) := goodIn_app (goodIn_of _ (by decide +kernel)) ggL_stress_X6_stress
set_option maxRecDepth 20000 in
theorem ggL_told_X6_told : GoodIn wsL_told wsX6_told := goodIn_r _ [5, 6, 7, 8, 9, 10, 11, 12, 13, 14, 15, 16, 17, 18, 19, 20, 21, 22, 23, 24, 25, 26, 27, 28, 29, 30, 31, 32, 33, 34, 35] (by decide +kernel) (by decide +kernel)
set_option maxRecDepth 20000 in
theorem gL_told_X6_told : GoodIn wsL_told (wsV RL 57 RX6 yX6_told wsX6_told) := goodIn_app (goodIn_of _ (by decide +kernel)) ggL_told_X6_told
set_option maxRecDepth 20000 in
theorem ggL_count_X6_count : GoodIn wsL_count wsX6_count := goodIn_r _ [5, 6, 7, 8, 9, 10, 11, 12, 13, 14, 4, 15, 16, 17, 18, 19, 20, 21, 22, 23, 24, 25, 26, 27, 28, 29, 30, 31, 32, 33, 34, 35, 36, 37, 38, 39, 40, 41, 42, 43, 44] (by decide +kernel) (by decide +kernel)
set_option maxRecDepth 20000 in
theorem gL_count_X6_count : GoodIn wsL_count (wsV RL 60 RX6 yX6_count wsX6_count) := goodIn_app (goodIn_of _ (by decide +kernel)) ggL_count_X6_count
abbrev vwCl : List vw_C := [(RJx00060, TJx00060, 6), (RX0, TX0, 4), (RX1, TX1, 7), (RX2, TX2, 2), (RX3, TX3, 2), (RX4, TX4, 6), (RX5, TX5, 3), (RX6, TX6, 8), (RX7, TX7, 31)]