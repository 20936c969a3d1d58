/-! ===== BEGIN printed: names, fields, word lists, decode rows ===== -/
def RX0 : String := "LineFields$History"
def TX0 : u_T := fun k => match k with
  | 0 => ("LineFields$History", "states", "[LLineFields$State;", true)
  | _ => ("LineFields$History", "size", "I", false)
def tyX0 : Nat → FieldType := fun k => match k with
  | 0 => .array (.object "LineFields$State")
  | _ => .int
theorem nmX0 : ∀ a, a < 2 → ∀ b, b < 2 → a ≠ b → (TX0 a).2.1 ≠ (TX0 b).2.1 := by decide +kernel
theorem tyX0_ok : ∀ k, k < 2 → parseFieldDescriptor (TX0 k).2.2.1 = some (tyX0 k) := by decide +kernel
abbrev cX0_init : ByteArray := prog_2_method_1_code
def yX0_init : MethodName := ⟨RX0, "<init>", "()V"⟩
abbrev cX0_save : ByteArray := prog_2_method_2_code
def yX0_save : MethodName := ⟨RX0, "save", "(LLineFields$State;)V"⟩
abbrev cX0_dropOldest : ByteArray := prog_2_method_3_code
def yX0_dropOldest : MethodName := ⟨RX0, "dropOldest", "()V"⟩
def RX1 : String := "LineFields$Reckoner"
def TX1 : u_T := fun k => match k with
  | 0 => ("LineFields$Reckoner", "reversed", "[I", true)
  | 1 => ("LineFields$Reckoner", "term", "[I", true)
  | 2 => ("LineFields$Reckoner", "nextTerm", "[I", true)
  | 3 => ("LineFields$Reckoner", "product", "[I", true)
  | 4 => ("LineFields$Reckoner", "trial", "[I", true)
  | 5 => ("LineFields$Reckoner", "moved", "[I", true)
  | 6 => ("LineFields$Reckoner", "back", "[I", true)
  | 7 => ("LineFields$Reckoner", "repeated", "[I", true)
  | 8 => ("LineFields$Reckoner", "bracketAB", "[I", true)
  | 9 => ("LineFields$Reckoner", "bracketAW", "[I", true)
  | 10 => ("LineFields$Reckoner", "bracketBW", "[I", true)
  | 11 => ("LineFields$Reckoner", "flowA", "[I", true)
  | 12 => ("LineFields$Reckoner", "flowB", "[I", true)
  | _ => ("LineFields$Reckoner", "composed", "[I", true)
def tyX1 : Nat → FieldType := fun k => match k with
  | 0 => .array .int
  | 1 => .array .int
  | 2 => .array .int
  | 3 => .array .int
  | 4 => .array .int
  | 5 => .array .int
  | 6 => .array .int
  | 7 => .array .int
  | 8 => .array .int
  | 9 => .array .int
  | 10 => .array .int
  | 11 => .array .int
  | 12 => .array .int
  | _ => .array .int
theorem nmX1 : ∀ a, a < 14 → ∀ b, b < 14 → a ≠ b → (TX1 a).2.1 ≠ (TX1 b).2.1 := by decide +kernel
theorem tyX1_ok : ∀ k, k < 14 → parseFieldDescriptor (TX1 k).2.2.1 = some (tyX1 k) := by decide +kernel
abbrev cX1_init : ByteArray := prog_3_method_1_code
def yX1_init : MethodName := ⟨RX1, "<init>", "()V"⟩
abbrev cX1_lowestPower : ByteArray := prog_3_method_2_code
def yX1_lowestPower : MethodName := ⟨RX1, "lowestPower", "([I)I"⟩
abbrev cX1_addRows : ByteArray := prog_3_method_6_code
def yX1_addRows : MethodName := ⟨RX1, "addRows", "([I[I[I)V"⟩
abbrev cX1_scaleRow : ByteArray := prog_3_method_7_code
def yX1_scaleRow : MethodName := ⟨RX1, "scaleRow", "([II[I)V"⟩
abbrev cX1_addMultiple : ByteArray := prog_3_method_8_code
def yX1_addMultiple : MethodName := ⟨RX1, "addMultiple", "([I[II)V"⟩
abbrev cX1_makeX : ByteArray := prog_3_method_9_code
def yX1_makeX : MethodName := ⟨RX1, "makeX", "([I)V"⟩
abbrev cX1_act : ByteArray := prog_3_method_10_code
def yX1_act : MethodName := ⟨RX1, "act", "([I[II[I)V"⟩
abbrev cX1_multiply : ByteArray := prog_3_method_11_code
def yX1_multiply : MethodName := ⟨RX1, "multiply", "([I[II[I)V"⟩
abbrev cX1_takeBracket : ByteArray := prog_3_method_12_code
def yX1_takeBracket : MethodName := ⟨RX1, "takeBracket", "([I[II[I)V"⟩
abbrev cX1_exponential : ByteArray := prog_3_method_13_code
def yX1_exponential : MethodName := ⟨RX1, "exponential", "([II[I)V"⟩
abbrev cX1_substitute : ByteArray := prog_3_method_14_code
def yX1_substitute : MethodName := ⟨RX1, "substitute", "([I[II[I)V"⟩
abbrev cX1_inverse : ByteArray := prog_3_method_15_code
def yX1_inverse : MethodName := ⟨RX1, "inverse", "([II[I)V"⟩
abbrev cX1_logarithm : ByteArray := prog_3_method_16_code
def yX1_logarithm : MethodName := ⟨RX1, "logarithm", "([II[I)V"⟩
abbrev cX1_repeatFlow : ByteArray := prog_3_method_17_code
def yX1_repeatFlow : MethodName := ⟨RX1, "repeatFlow", "([III[I)V"⟩
abbrev cX1_pushField : ByteArray := prog_3_method_18_code
def yX1_pushField : MethodName := ⟨RX1, "pushField", "([I[II[I)V"⟩
abbrev cX1_secondWay : ByteArray := prog_3_method_19_code
def yX1_secondWay : MethodName := ⟨RX1, "secondWay", "([I[III[I)V"⟩
def RX2 : String := "LineFields$Shape"
def TX2 : u_T := fun k => match k with
  | 0 => ("LineFields$Shape", "cut", "I", false)
  | 1 => ("LineFields$Shape", "fields", "[[I", true)
  | _ => ("LineFields$Shape", "flows", "[[I", true)
def tyX2 : Nat → FieldType := fun k => match k with
  | 0 => .int
  | 1 => .array (.array .int)
  | _ => .array (.array .int)
theorem nmX2 : ∀ a, a < 3 → ∀ b, b < 3 → a ≠ b → (TX2 a).2.1 ≠ (TX2 b).2.1 := by decide +kernel
theorem tyX2_ok : ∀ k, k < 3 → parseFieldDescriptor (TX2 k).2.2.1 = some (tyX2 k) := by decide +kernel
abbrev cX2_init : ByteArray := prog_4_method_1_code
def yX2_init : MethodName := ⟨RX2, "<init>", "()V"⟩
abbrev cX2_copyFrom : ByteArray := prog_4_method_2_code
def yX2_copyFrom : MethodName := ⟨RX2, "copyFrom", "(LLineFields$Shape;)V"⟩
abbrev cX2_cutAt : ByteArray := prog_4_method_3_code
def yX2_cutAt : MethodName := ⟨RX2, "cutAt", "(I)V"⟩
abbrev cX2_fieldsThatAreNotZero : ByteArray := prog_4_method_4_code
def yX2_fieldsThatAreNotZero : MethodName := ⟨RX2, "fieldsThatAreNotZero", "()I"⟩
abbrev cX2_flowsThatAreNotX : ByteArray := prog_4_method_5_code
def yX2_flowsThatAreNotX : MethodName := ⟨RX2, "flowsThatAreNotX", "()I"⟩
abbrev cX2_rowsWithPowers : ByteArray := prog_4_method_6_code
def yX2_rowsWithPowers : MethodName := ⟨RX2, "rowsWithPowers", "([[I)I"⟩
def RX3 : String := "LineFields$State"
def TX3 : u_T := fun k => match k with
  | 0 => ("LineFields$State", "shape", "LLineFields$Shape;", true)
  | 1 => ("LineFields$State", "purse", "I", false)
  | 2 => ("LineFields$State", "paid", "I", false)
  | 3 => ("LineFields$State", "deeds", "I", false)
  | _ => ("LineFields$State", "brackets", "I", false)
def tyX3 : Nat → FieldType := fun k => match k with
  | 0 => .object "LineFields$Shape"
  | 1 => .int
  | 2 => .int
  | 3 => .int
  | _ => .int
theorem nmX3 : ∀ a, a < 5 → ∀ b, b < 5 → a ≠ b → (TX3 a).2.1 ≠ (TX3 b).2.1 := by decide +kernel
theorem tyX3_ok : ∀ k, k < 5 → parseFieldDescriptor (TX3 k).2.2.1 = some (tyX3 k) := by decide +kernel
abbrev cX3_init : ByteArray := prog_5_method_1_code
def yX3_init : MethodName := ⟨RX3, "<init>", "()V"⟩
abbrev cX3_copyFrom : ByteArray := prog_5_method_2_code
def yX3_copyFrom : MethodName := ⟨RX3, "copyFrom", "(LLineFields$State;)V"⟩
def RX4 : String := "LineFields$Text"
def TX4 : u_T := fun k => match k with
  | 0 => ("LineFields$Text", "codes", "[I", true)
  | _ => ("LineFields$Text", "length", "I", false)
def tyX4 : Nat → FieldType := fun k => match k with
  | 0 => .array .int
  | _ => .int
theorem nmX4 : ∀ a, a < 2 → ∀ b, b < 2 → a ≠ b → (TX4 a).2.1 ≠ (TX4 b).2.1 := by decide +kernel
theorem tyX4_ok : ∀ k, k < 2 → parseFieldDescriptor (TX4 k).2.2.1 = some (tyX4 k) := by decide +kernel
abbrev cX4_init : ByteArray := prog_6_method_1_code
def yX4_init : MethodName := ⟨RX4, "<init>", "()V"⟩
def RX5 : String := "LineFields"
def TX5 : u_T := fun k => match k with
  | 0 => ("LineFields", "now", "LLineFields$State;", true)
  | 1 => ("LineFields", "history", "LLineFields$History;", true)
  | 2 => ("LineFields", "snapshots", "[LLineFields$Shape;", true)
  | 3 => ("LineFields", "taken", "[Z", true)
  | 4 => ("LineFields", "buffer", "LLineFields$Text;", true)
  | 5 => ("LineFields", "reckoner", "LLineFields$Reckoner;", true)
  | 6 => ("LineFields", "result", "[I", true)
  | _ => ("LineFields", "compared", "[I", true)
def tyX5 : Nat → FieldType := fun k => match k with
  | 0 => .object "LineFields$State"
  | 1 => .object "LineFields$History"
  | 2 => .array (.object "LineFields$Shape")
  | 3 => .array .boolean
  | 4 => .object "LineFields$Text"
  | 5 => .object "LineFields$Reckoner"
  | 6 => .array .int
  | _ => .array .int
theorem nmX5 : ∀ a, a < 8 → ∀ b, b < 8 → a ≠ b → (TX5 a).2.1 ≠ (TX5 b).2.1 := by decide +kernel
theorem tyX5_ok : ∀ k, k < 8 → parseFieldDescriptor (TX5 k).2.2.1 = some (tyX5 k) := by decide +kernel
abbrev cX5_init : ByteArray := prog_1_method_1_code
def yX5_init : MethodName := ⟨RX5, "<init>", "()V"⟩
abbrev cX5_cut : ByteArray := prog_1_method_2_code
def yX5_cut : MethodName := ⟨RX5, "cut", "(I)I"⟩
abbrev cX5_setField : ByteArray := prog_1_method_3_code
def yX5_setField : MethodName := ⟨RX5, "setField", "(III)I"⟩
abbrev cX5_setFlow : ByteArray := prog_1_method_4_code
def yX5_setFlow : MethodName := ⟨RX5, "setFlow", "(III)I"⟩
abbrev cX5_earn : ByteArray := prog_1_method_5_code
def yX5_earn : MethodName := ⟨RX5, "earn", "(I)I"⟩
abbrev cX5_bracket : ByteArray := prog_1_method_6_code
def yX5_bracket : MethodName := ⟨RX5, "bracket", "(III)I"⟩
abbrev cX5_sum : ByteArray := prog_1_method_7_code
def yX5_sum : MethodName := ⟨RX5, "sum", "(III)I"⟩
abbrev cX5_scale : ByteArray := prog_1_method_8_code
def yX5_scale : MethodName := ⟨RX5, "scale", "(III)I"⟩
abbrev cX5_byBrackets : ByteArray := prog_1_method_9_code
def yX5_byBrackets : MethodName := ⟨RX5, "byBrackets", "(III)I"⟩
abbrev cX5_push : ByteArray := prog_1_method_10_code
def yX5_push : MethodName := ⟨RX5, "push", "(III)I"⟩
abbrev cX5_log : ByteArray := prog_1_method_11_code
def yX5_log : MethodName := ⟨RX5, "log", "(II)I"⟩
abbrev cX5_exp : ByteArray := prog_1_method_12_code
def yX5_exp : MethodName := ⟨RX5, "exp", "(II)I"⟩
abbrev cX5_compose : ByteArray := prog_1_method_13_code
def yX5_compose : MethodName := ⟨RX5, "compose", "(III)I"⟩
abbrev cX5_invert : ByteArray := prog_1_method_14_code
def yX5_invert : MethodName := ⟨RX5, "invert", "(II)I"⟩
abbrev cX5_power : ByteArray := prog_1_method_15_code
def yX5_power : MethodName := ⟨RX5, "power", "(III)I"⟩
abbrev cX5_field : ByteArray := prog_1_method_24_code
def yX5_field : MethodName := ⟨RX5, "field", "(II)I"⟩
abbrev cX5_flow : ByteArray := prog_1_method_25_code
def yX5_flow : MethodName := ⟨RX5, "flow", "(II)I"⟩
abbrev cX5_count : ByteArray := prog_1_method_31_code
def yX5_count : MethodName := ⟨RX5, "count", "(I)I"⟩
abbrev cX5_needSlot : ByteArray := prog_1_method_34_code
def yX5_needSlot : MethodName := ⟨RX5, "needSlot", "(I)V"⟩
abbrev cX5_needPower : ByteArray := prog_1_method_35_code
def yX5_needPower : MethodName := ⟨RX5, "needPower", "(III)V"⟩
abbrev cX5_needMoney : ByteArray := prog_1_method_37_code
def yX5_needMoney : MethodName := ⟨RX5, "needMoney", "(I)V"⟩
abbrev cX5_costOf : ByteArray := prog_1_method_38_code
def yX5_costOf : MethodName := ⟨RX5, "costOf", "(I)I"⟩
abbrev cX5_pay : ByteArray := prog_1_method_39_code
def yX5_pay : MethodName := ⟨RX5, "pay", "(I)V"⟩
abbrev cX5_replace : ByteArray := prog_1_method_40_code
def yX5_replace : MethodName := ⟨RX5, "replace", "([III)I"⟩
abbrev cX5_put : ByteArray := prog_1_method_41_code
def yX5_put : MethodName := ⟨RX5, "put", "([I)I"⟩
abbrev cX5_repeat : ByteArray := prog_1_method_42_code
def yX5_repeat : MethodName := ⟨RX5, "repeat", "(III)I"⟩
abbrev cX5_unitsOf : ByteArray := prog_1_method_43_code
def yX5_unitsOf : MethodName := ⟨RX5, "unitsOf", "(I)I"⟩
abbrev cX5_orderAlone : ByteArray := prog_1_method_44_code
def yX5_orderAlone : MethodName := ⟨RX5, "orderAlone", "(IIII)I"⟩
abbrev cX5_carryOut : ByteArray := prog_1_method_46_code
def yX5_carryOut : MethodName := ⟨RX5, "carryOut", "(IIII)I"⟩
def RX6 : String := "LineFieldsModel"
def TX6 : u_T := fun k => match k with
  | _ => ("", "", "", false)
def tyX6 : Nat → FieldType := fun k => match k with
  | _ => .int
theorem nmX6 : ∀ a, a < 0 → ∀ b, b < 0 → a ≠ b → (TX6 a).2.1 ≠ (TX6 b).2.1 := by decide +kernel
theorem tyX6_ok : ∀ k, k < 0 → parseFieldDescriptor (TX6 k).2.2.1 = some (tyX6 k) := by decide +kernel
def RJx145de : String := "java/io/Serializable"
def TJx145de : u_T := fun k => match k with
  | _ => ("", "", "", false)
def tyJx145de : Nat → FieldType := fun k => match k with
  | _ => .int
theorem nmJx145de : ∀ a, a < 0 → ∀ b, b < 0 → a ≠ b → (TJx145de a).2.1 ≠ (TJx145de b).2.1 := by decide +kernel
theorem tyJx145de_ok : ∀ k, k < 0 → parseFieldDescriptor (TJx145de k).2.2.1 = some (tyJx145de k) := by decide +kernel
def RJ9 : String := "java/lang/Math"
def TJ9 : u_T := fun k => match k with
  | _ => ("", "", "", false)
def tyJ9 : Nat → FieldType := fun k => match k with
  | _ => .int
theorem nmJ9 : ∀ a, a < 0 → ∀ b, b < 0 → a ≠ b → (TJ9 a).2.1 ≠ (TJ9 b).2.1 := by decide +kernel
theorem tyJ9_ok : ∀ k, k < 0 → parseFieldDescriptor (TJ9 k).2.2.1 = some (tyJ9 k) := by decide +kernel
abbrev cJ9_floorMod_7cf53 : ByteArray := prog_13_method_50_code
def yJ9_floorMod_7cf53 : MethodName := ⟨RJ9, "floorMod", "(II)I"⟩
def RJ0 : String := "java/lang/String"
def TJ0 : u_T := fun k => match k with
  | _ => ("", "", "", false)
def tyJ0 : Nat → FieldType := fun k => match k with
  | _ => .int
theorem nmJ0 : ∀ a, a < 0 → ∀ b, b < 0 → a ≠ b → (TJ0 a).2.1 ≠ (TJ0 b).2.1 := by decide +kernel
theorem tyJ0_ok : ∀ k, k < 0 → parseFieldDescriptor (TJ0 k).2.2.1 = some (tyJ0 k) := by decide +kernel
def RJ10 : String := "java/lang/System"
def TJ10 : u_T := fun k => match k with
  | _ => ("", "", "", false)
def tyJ10 : Nat → FieldType := fun k => match k with
  | _ => .int
theorem nmJ10 : ∀ a, a < 0 → ∀ b, b < 0 → a ≠ b → (TJ10 a).2.1 ≠ (TJ10 b).2.1 := by decide +kernel
theorem tyJ10_ok : ∀ k, k < 0 → parseFieldDescriptor (TJ10 k).2.2.1 = some (tyJ10 k) := by decide +kernel
def RJ7 : String := "java/util/Arrays"
def TJ7 : u_T := fun k => match k with
  | _ => ("", "", "", false)
def tyJ7 : Nat → FieldType := fun k => match k with
  | _ => .int
theorem nmJ7 : ∀ a, a < 0 → ∀ b, b < 0 → a ≠ b → (TJ7 a).2.1 ≠ (TJ7 b).2.1 := by decide +kernel
theorem tyJ7_ok : ∀ k, k < 0 → parseFieldDescriptor (TJ7 k).2.2.1 = some (tyJ7 k) := by decide +kernel
abbrev cJ7_fill_53178 : ByteArray := prog_18_method_103_code
def yJ7_fill_53178 : MethodName := ⟨RJ7, "fill", "([II)V"⟩
def RL : String := "LineFieldsLaw"
abbrev cL_cell : ByteArray := method_2_code
def yL_cell : MethodName := ⟨RL, "cell", "([II)I"⟩
abbrev cL_at : ByteArray := method_3_code
def yL_at : MethodName := ⟨RL, "at", "(II)I"⟩
abbrev cL_mod : ByteArray := method_4_code
def yL_mod : MethodName := ⟨RL, "mod", "(I)I"⟩
abbrev cL_over : ByteArray := method_5_code
def yL_over : MethodName := ⟨RL, "over", "(II)I"⟩
abbrev cL_get : ByteArray := method_6_code
def yL_get : MethodName := ⟨RL, "get", "([II)[I"⟩
abbrev cL_times : ByteArray := method_7_code
def yL_times : MethodName := ⟨RL, "times", "(I[I[I)[I"⟩
abbrev cL_slope : ByteArray := method_8_code
def yL_slope : MethodName := ⟨RL, "slope", "([I)[I"⟩
abbrev cL_plus : ByteArray := method_9_code
def yL_plus : MethodName := ⟨RL, "plus", "([I[II)[I"⟩
abbrev cL_bracket : ByteArray := method_10_code
def yL_bracket : MethodName := ⟨RL, "bracket", "(I[I[I)[I"⟩
abbrev cL_within : ByteArray := method_11_code
def yL_within : MethodName := ⟨RL, "within", "(I[I[I)[I"⟩
abbrev cL_exp : ByteArray := method_12_code
def yL_exp : MethodName := ⟨RL, "exp", "(I[I)[I"⟩
abbrev cL_log : ByteArray := method_13_code
def yL_log : MethodName := ⟨RL, "log", "(I[I)[I"⟩
abbrev cL_inverse : ByteArray := method_14_code
def yL_inverse : MethodName := ⟨RL, "inverse", "(I[I)[I"⟩
abbrev cL_power : ByteArray := method_15_code
def yL_power : MethodName := ⟨RL, "power", "(I[II)[I"⟩
abbrev cL_way : ByteArray := method_16_code
def yL_way : MethodName := ⟨RL, "way", "(I[I[I)[I"⟩
abbrev cL_put : ByteArray := method_17_code
def yL_put : MethodName := ⟨RL, "put", "([I[II[II)I"⟩
abbrev cL_done : ByteArray := method_18_code
def yL_done : MethodName := ⟨RL, "done", "(LLineFields;IIIII[I[I[I)Z"⟩
abbrev cL_act : ByteArray := method_19_code
def yL_act : MethodName := ⟨RL, "act", "(LLineFields;II[I[I[I)Z"⟩
abbrev cL_agree : ByteArray := method_20_code
def yL_agree : MethodName := ⟨RL, "agree", "(LLineFields;[I[I[I)Z"⟩
abbrev cL_law : ByteArray := code
def yL_law : MethodName := ⟨RL, "law", "([I)Z"⟩
abbrev vwCl : List vw_C := [(RX0, TX0, 2), (RX1, TX1, 14), (RX2, TX2, 3), (RX3, TX3, 5), (RX4, TX4, 2), (RX5, TX5, 8)]
