def RX0 : String := "LineLives$History"
def TX0 : u_T := fun k => match k with
  | 0 => ("LineLives$History", "states", "[I", true)
  | _ => ("LineLives$History", "size", "I", false)
def tyX0 : Nat → FieldType := fun k => match k with
  | 0 => .array .int
  | _ => .int
abbrev wsX00 : List Cond := u_ws RX0 TX0 2
theorem nmX0 : ∀ a, a < 2 → ∀ b, b < 2 → a ≠ b → (TX0 a).2.1 ≠ (TX0 b).2.1 := by decide +kernel
theorem tyX0_ok : ∀ k, k < 2 → parseFieldDescriptor (TX0 k).2.2.1 = some (tyX0 k) := by decide +kernel
abbrev cX0_init : ByteArray := prog_2_method_1_code
def yX0_init : MethodName := ⟨RX0, "<init>", "()V"⟩
abbrev cX0_size : ByteArray := prog_2_method_2_code
def yX0_size : MethodName := ⟨RX0, "size", "()I"⟩
abbrev cX0_save : ByteArray := prog_2_method_3_code
def yX0_save : MethodName := ⟨RX0, "save", "(LLineLives$Lines;)V"⟩
abbrev cX0_restore : ByteArray := prog_2_method_4_code
def yX0_restore : MethodName := ⟨RX0, "restore", "(LLineLives$Lines;)V"⟩
def RX1 : String := "LineLives$Lines"
def TX1 : u_T := fun k => match k with
  | 0 => ("LineLives$Lines", "table", "[I", true)
  | 1 => ("LineLives$Lines", "size", "I", false)
  | 2 => ("LineLives$Lines", "moment", "I", false)
  | _ => ("LineLives$Lines", "version", "I", false)
def tyX1 : Nat → FieldType := fun k => match k with
  | 0 => .array .int
  | 1 => .int
  | 2 => .int
  | _ => .int
abbrev wsX10 : List Cond := u_ws RX1 TX1 4
theorem nmX1 : ∀ a, a < 4 → ∀ b, b < 4 → a ≠ b → (TX1 a).2.1 ≠ (TX1 b).2.1 := by decide +kernel
theorem tyX1_ok : ∀ k, k < 4 → parseFieldDescriptor (TX1 k).2.2.1 = some (tyX1 k) := by decide +kernel
abbrev cX1_init : ByteArray := prog_3_method_1_code
def yX1_init : MethodName := ⟨RX1, "<init>", "()V"⟩
abbrev cX1_size : ByteArray := prog_3_method_2_code
def yX1_size : MethodName := ⟨RX1, "size", "()I"⟩
abbrev cX1_moment : ByteArray := prog_3_method_3_code
def yX1_moment : MethodName := ⟨RX1, "moment", "()I"⟩
abbrev cX1_version : ByteArray := prog_3_method_4_code
def yX1_version : MethodName := ⟨RX1, "version", "()I"⟩
abbrev cX1_has : ByteArray := prog_3_method_5_code
def yX1_has : MethodName := ⟨RX1, "has", "(I)Z"⟩
abbrev cX1_property : ByteArray := prog_3_method_6_code
def yX1_property : MethodName := ⟨RX1, "property", "(II)I"⟩
abbrev cX1_change : ByteArray := prog_3_method_7_code
def yX1_change : MethodName := ⟨RX1, "change", "(III)V"⟩
abbrev cX1_addLine : ByteArray := prog_3_method_8_code
def yX1_addLine : MethodName := ⟨RX1, "addLine", "(IIII)V"⟩
abbrev cX1_drop : ByteArray := prog_3_method_9_code
def yX1_drop : MethodName := ⟨RX1, "drop", "(I)V"⟩
abbrev cX1_moveTo : ByteArray := prog_3_method_10_code
def yX1_moveTo : MethodName := ⟨RX1, "moveTo", "(I)V"⟩
abbrev cX1_saveTo : ByteArray := prog_3_method_11_code
def yX1_saveTo : MethodName := ⟨RX1, "saveTo", "([II)V"⟩
abbrev cX1_restoreFrom : ByteArray := prog_3_method_12_code
def yX1_restoreFrom : MethodName := ⟨RX1, "restoreFrom", "([II)V"⟩
abbrev cX1_valueAt : ByteArray := prog_3_method_13_code
def yX1_valueAt : MethodName := ⟨RX1, "valueAt", "(II)I"⟩
abbrev cX1_lives : ByteArray := prog_3_method_15_code
def yX1_lives : MethodName := ⟨RX1, "lives", "(II)Z"⟩
abbrev cX1_counts : ByteArray := prog_3_method_16_code
def yX1_counts : MethodName := ⟨RX1, "counts", "(III)Z"⟩
abbrev cX1_living : ByteArray := prog_3_method_17_code
def yX1_living : MethodName := ⟨RX1, "living", "()I"⟩
abbrev cX1_livesChangeAt : ByteArray := prog_3_method_18_code
def yX1_livesChangeAt : MethodName := ⟨RX1, "livesChangeAt", "(I)Z"⟩
abbrev cX1_isLower : ByteArray := prog_3_method_19_code
def yX1_isLower : MethodName := ⟨RX1, "isLower", "(III)Z"⟩
abbrev cX1_rankOf : ByteArray := prog_3_method_20_code
def yX1_rankOf : MethodName := ⟨RX1, "rankOf", "(II)I"⟩
abbrev cX1_lowestBut : ByteArray := prog_3_method_21_code
def yX1_lowestBut : MethodName := ⟨RX1, "lowestBut", "(III)I"⟩
def RX2 : String := "LineLives$Present"
def TX2 : u_T := fun k => match k with
  | 0 => ("LineLives$Present", "lines", "LLineLives$Lines;", true)
  | 1 => ("LineLives$Present", "lowest", "[I", true)
  | 2 => ("LineLives$Present", "starts", "[I", true)
  | 3 => ("LineLives$Present", "rows", "I", false)
  | _ => ("LineLives$Present", "version", "I", false)
def tyX2 : Nat → FieldType := fun k => match k with
  | 0 => .object "LineLives$Lines"
  | 1 => .array .int
  | 2 => .array .int
  | 3 => .int
  | _ => .int
abbrev wsX20 : List Cond := u_ws RX2 TX2 5
theorem nmX2 : ∀ a, a < 5 → ∀ b, b < 5 → a ≠ b → (TX2 a).2.1 ≠ (TX2 b).2.1 := by decide +kernel
theorem tyX2_ok : ∀ k, k < 5 → parseFieldDescriptor (TX2 k).2.2.1 = some (tyX2 k) := by decide +kernel
abbrev cX2_init : ByteArray := prog_4_method_1_code
def yX2_init : MethodName := ⟨RX2, "<init>", "(LLineLives$Lines;)V"⟩
abbrev cX2_lineAt : ByteArray := prog_4_method_2_code
def yX2_lineAt : MethodName := ⟨RX2, "lineAt", "(I)I"⟩
abbrev cX2_placesOf : ByteArray := prog_4_method_3_code
def yX2_placesOf : MethodName := ⟨RX2, "placesOf", "(I)I"⟩
abbrev cX2_rowCount : ByteArray := prog_4_method_4_code
def yX2_rowCount : MethodName := ⟨RX2, "rowCount", "()I"⟩
abbrev cX2_rowStart : ByteArray := prog_4_method_5_code
def yX2_rowStart : MethodName := ⟨RX2, "rowStart", "(I)I"⟩
abbrev cX2_renew : ByteArray := prog_4_method_6_code
def yX2_renew : MethodName := ⟨RX2, "renew", "()V"⟩
def RX3 : String := "LineLives$Reader"
def TX3 : u_T := fun k => match k with
  | 0 => ("LineLives$Reader", "stage", "I", false)
  | 1 => ("LineLives$Reader", "number", "I", false)
  | 2 => ("LineLives$Reader", "negative", "Z", false)
  | 3 => ("LineLives$Reader", "slope", "I", false)
  | 4 => ("LineLives$Reader", "offset", "I", false)
  | _ => ("LineLives$Reader", "firstMoment", "I", false)
def tyX3 : Nat → FieldType := fun k => match k with
  | 0 => .int
  | 1 => .int
  | 2 => .boolean
  | 3 => .int
  | 4 => .int
  | _ => .int
abbrev wsX30 : List Cond := u_ws RX3 TX3 6
theorem nmX3 : ∀ a, a < 6 → ∀ b, b < 6 → a ≠ b → (TX3 a).2.1 ≠ (TX3 b).2.1 := by decide +kernel
theorem tyX3_ok : ∀ k, k < 6 → parseFieldDescriptor (TX3 k).2.2.1 = some (tyX3 k) := by decide +kernel
abbrev cX3_init : ByteArray := prog_5_method_1_code
def yX3_init : MethodName := ⟨RX3, "<init>", "()V"⟩
def RX4 : String := "LineLives$Reigns"
def TX4 : u_T := fun k => match k with
  | 0 => ("LineLives$Reigns", "lines", "LLineLives$Lines;", true)
  | 1 => ("LineLives$Reigns", "firstMoments", "[I", true)
  | _ => ("LineLives$Reigns", "version", "I", false)
def tyX4 : Nat → FieldType := fun k => match k with
  | 0 => .object "LineLives$Lines"
  | 1 => .array .int
  | _ => .int
abbrev wsX40 : List Cond := u_ws RX4 TX4 3
theorem nmX4 : ∀ a, a < 3 → ∀ b, b < 3 → a ≠ b → (TX4 a).2.1 ≠ (TX4 b).2.1 := by decide +kernel
theorem tyX4_ok : ∀ k, k < 3 → parseFieldDescriptor (TX4 k).2.2.1 = some (tyX4 k) := by decide +kernel
abbrev cX4_init : ByteArray := prog_6_method_1_code
def yX4_init : MethodName := ⟨RX4, "<init>", "(LLineLives$Lines;)V"⟩
abbrev cX4_firstMoment : ByteArray := prog_6_method_2_code
def yX4_firstMoment : MethodName := ⟨RX4, "firstMoment", "(I)I"⟩
abbrev cX4_neverLowest : ByteArray := prog_6_method_3_code
def yX4_neverLowest : MethodName := ⟨RX4, "neverLowest", "()I"⟩
abbrev cX4_renew : ByteArray := prog_6_method_4_code
def yX4_renew : MethodName := ⟨RX4, "renew", "()V"⟩
abbrev cX4_note : ByteArray := prog_6_method_5_code
def yX4_note : MethodName := ⟨RX4, "note", "(I)V"⟩
def RX5 : String := "LineLives$Text"
def TX5 : u_T := fun k => match k with
  | 0 => ("LineLives$Text", "codes", "[I", true)
  | 1 => ("LineLives$Text", "reader", "LLineLives$Reader;", true)
  | _ => ("LineLives$Text", "length", "I", false)
def tyX5 : Nat → FieldType := fun k => match k with
  | 0 => .array .int
  | 1 => .object "LineLives$Reader"
  | _ => .int
abbrev wsX50 : List Cond := u_ws RX5 TX5 3
theorem nmX5 : ∀ a, a < 3 → ∀ b, b < 3 → a ≠ b → (TX5 a).2.1 ≠ (TX5 b).2.1 := by decide +kernel
theorem tyX5_ok : ∀ k, k < 3 → parseFieldDescriptor (TX5 k).2.2.1 = some (tyX5 k) := by decide +kernel
abbrev cX5_init : ByteArray := prog_7_method_1_code
def yX5_init : MethodName := ⟨RX5, "<init>", "()V"⟩
def RX6 : String := "LineLives$Tree"
def TX6 : u_T := fun k => match k with
  | 0 => ("LineLives$Tree", "lines", "LLineLives$Lines;", true)
  | 1 => ("LineLives$Tree", "firstPlaces", "[I", true)
  | 2 => ("LineLives$Tree", "lastPlaces", "[I", true)
  | 3 => ("LineLives$Tree", "kept", "[I", true)
  | 4 => ("LineLives$Tree", "steps", "[I", true)
  | _ => ("LineLives$Tree", "version", "I", false)
def tyX6 : Nat → FieldType := fun k => match k with
  | 0 => .object "LineLives$Lines"
  | 1 => .array .int
  | 2 => .array .int
  | 3 => .array .int
  | 4 => .array .int
  | _ => .int
abbrev wsX60 : List Cond := u_ws RX6 TX6 6
theorem nmX6 : ∀ a, a < 6 → ∀ b, b < 6 → a ≠ b → (TX6 a).2.1 ≠ (TX6 b).2.1 := by decide +kernel
theorem tyX6_ok : ∀ k, k < 6 → parseFieldDescriptor (TX6 k).2.2.1 = some (tyX6 k) := by decide +kernel
abbrev cX6_init : ByteArray := prog_8_method_1_code
def yX6_init : MethodName := ⟨RX6, "<init>", "(LLineLives$Lines;)V"⟩
abbrev cX6_firstPlace : ByteArray := prog_8_method_2_code
def yX6_firstPlace : MethodName := ⟨RX6, "firstPlace", "(I)I"⟩
abbrev cX6_lastPlace : ByteArray := prog_8_method_3_code
def yX6_lastPlace : MethodName := ⟨RX6, "lastPlace", "(I)I"⟩
abbrev cX6_middle : ByteArray := prog_8_method_4_code
def yX6_middle : MethodName := ⟨RX6, "middle", "(I)I"⟩
abbrev cX6_lineOf : ByteArray := prog_8_method_5_code
def yX6_lineOf : MethodName := ⟨RX6, "lineOf", "(I)I"⟩
abbrev cX6_stepsAt : ByteArray := prog_8_method_6_code
def yX6_stepsAt : MethodName := ⟨RX6, "stepsAt", "(I)I"⟩
abbrev cX6_nodesOf : ByteArray := prog_8_method_7_code
def yX6_nodesOf : MethodName := ⟨RX6, "nodesOf", "(I)I"⟩
abbrev cX6_allSteps : ByteArray := prog_8_method_8_code
def yX6_allSteps : MethodName := ⟨RX6, "allSteps", "()I"⟩
abbrev cX6_has : ByteArray := prog_8_method_9_code
def yX6_has : MethodName := ⟨RX6, "has", "(I)Z"⟩
abbrev cX6_renew : ByteArray := prog_8_method_10_code
def yX6_renew : MethodName := ⟨RX6, "renew", "()V"⟩
abbrev cX6_put : ByteArray := prog_8_method_11_code
def yX6_put : MethodName := ⟨RX6, "put", "(II)V"⟩
def RX7 : String := "LineLives"
def TX7 : u_T := fun k => match k with
  | 0 => ("LineLives", "lines", "LLineLives$Lines;", true)
  | 1 => ("LineLives", "history", "LLineLives$History;", true)
  | 2 => ("LineLives", "text", "LLineLives$Text;", true)
  | 3 => ("LineLives", "present", "LLineLives$Present;", true)
  | 4 => ("LineLives", "tree", "LLineLives$Tree;", true)
  | _ => ("LineLives", "reigns", "LLineLives$Reigns;", true)
def tyX7 : Nat → FieldType := fun k => match k with
  | 0 => .object "LineLives$Lines"
  | 1 => .object "LineLives$History"
  | 2 => .object "LineLives$Text"
  | 3 => .object "LineLives$Present"
  | 4 => .object "LineLives$Tree"
  | _ => .object "LineLives$Reigns"
abbrev wsX70 : List Cond := u_ws RX7 TX7 6
theorem nmX7 : ∀ a, a < 6 → ∀ b, b < 6 → a ≠ b → (TX7 a).2.1 ≠ (TX7 b).2.1 := by decide +kernel
theorem tyX7_ok : ∀ k, k < 6 → parseFieldDescriptor (TX7 k).2.2.1 = some (tyX7 k) := by decide +kernel
abbrev cX7_init : ByteArray := prog_1_method_1_code
def yX7_init : MethodName := ⟨RX7, "<init>", "()V"⟩
abbrev cX7_add : ByteArray := prog_1_method_2_code
def yX7_add : MethodName := ⟨RX7, "add", "(II)I"⟩
abbrev cX7_span : ByteArray := prog_1_method_3_code
def yX7_span : MethodName := ⟨RX7, "span", "(III)I"⟩
abbrev cX7_live : ByteArray := prog_1_method_4_code
def yX7_live : MethodName := ⟨RX7, "live", "(III)I"⟩
abbrev cX7_lift : ByteArray := prog_1_method_5_code
def yX7_lift : MethodName := ⟨RX7, "lift", "(II)I"⟩
abbrev cX7_turn : ByteArray := prog_1_method_6_code
def yX7_turn : MethodName := ⟨RX7, "turn", "(III)I"⟩
abbrev cX7_remove : ByteArray := prog_1_method_7_code
def yX7_remove : MethodName := ⟨RX7, "remove", "(I)I"⟩
abbrev cX7_prune : ByteArray := prog_1_method_8_code
def yX7_prune : MethodName := ⟨RX7, "prune", "()I"⟩
abbrev cX7_go : ByteArray := prog_1_method_9_code
def yX7_go : MethodName := ⟨RX7, "go", "(I)I"⟩
abbrev cX7_undo : ByteArray := prog_1_method_14_code
def yX7_undo : MethodName := ⟨RX7, "undo", "()I"⟩
abbrev cX7_line : ByteArray := prog_1_method_15_code
def yX7_line : MethodName := ⟨RX7, "line", "(II)I"⟩
abbrev cX7_lowest : ByteArray := prog_1_method_16_code
def yX7_lowest : MethodName := ⟨RX7, "lowest", "(II)I"⟩
abbrev cX7_value : ByteArray := prog_1_method_17_code
def yX7_value : MethodName := ⟨RX7, "value", "(I)I"⟩
abbrev cX7_ranked : ByteArray := prog_1_method_18_code
def yX7_ranked : MethodName := ⟨RX7, "ranked", "(II)I"⟩
abbrev cX7_node : ByteArray := prog_1_method_19_code
def yX7_node : MethodName := ⟨RX7, "node", "(II)I"⟩
abbrev cX7_row : ByteArray := prog_1_method_20_code
def yX7_row : MethodName := ⟨RX7, "row", "(II)I"⟩
abbrev cX7_sum : ByteArray := prog_1_method_21_code
def yX7_sum : MethodName := ⟨RX7, "sum", "(II)I"⟩
abbrev cX7_count : ByteArray := prog_1_method_22_code
def yX7_count : MethodName := ⟨RX7, "count", "(I)I"⟩
abbrev cX7_worth : ByteArray := prog_1_method_25_code
def yX7_worth : MethodName := ⟨RX7, "worth", "(I)I"⟩
abbrev cX7_mean : ByteArray := prog_1_method_28_code
def yX7_mean : MethodName := ⟨RX7, "mean", "()D"⟩
abbrev cX7_isPlace : ByteArray := prog_1_method_35_code
def yX7_isPlace : MethodName := ⟨RX7, "isPlace", "(I)Z"⟩
abbrev cX7_isMoment : ByteArray := prog_1_method_36_code
def yX7_isMoment : MethodName := ⟨RX7, "isMoment", "(I)Z"⟩
abbrev cX7_isSlope : ByteArray := prog_1_method_37_code
def yX7_isSlope : MethodName := ⟨RX7, "isSlope", "(I)Z"⟩
abbrev cX7_isOffset : ByteArray := prog_1_method_38_code
def yX7_isOffset : MethodName := ⟨RX7, "isOffset", "(I)Z"⟩
abbrev cX7_isStretch : ByteArray := prog_1_method_39_code
def yX7_isStretch : MethodName := ⟨RX7, "isStretch", "(III)Z"⟩
abbrev cX7_changeStretch : ByteArray := prog_1_method_40_code
def yX7_changeStretch : MethodName := ⟨RX7, "changeStretch", "(IIIII)I"⟩
def RX8 : String := "LineLivesModel"
def TX8 : u_T := fun k => match k with
  | _ => ("", "", "", false)
def tyX8 : Nat → FieldType := fun k => match k with
  | _ => .int
abbrev wsX80 : List Cond := u_ws RX8 TX8 0
theorem nmX8 : ∀ a, a < 0 → ∀ b, b < 0 → a ≠ b → (TX8 a).2.1 ≠ (TX8 b).2.1 := by decide +kernel
theorem tyX8_ok : ∀ k, k < 0 → parseFieldDescriptor (TX8 k).2.2.1 = some (tyX8 k) := by decide +kernel
def RJx145de : String := "java/io/Serializable"
def TJx145de : u_T := fun k => match k with
  | _ => ("", "", "", false)
def tyJx145de : Nat → FieldType := fun k => match k with
  | _ => .int
abbrev wsJx145de0 : List Cond := u_ws RJx145de TJx145de 0
theorem nmJx145de : ∀ a, a < 0 → ∀ b, b < 0 → a ≠ b → (TJx145de a).2.1 ≠ (TJx145de b).2.1 := by decide +kernel
theorem tyJx145de_ok : ∀ k, k < 0 → parseFieldDescriptor (TJx145de k).2.2.1 = some (tyJx145de k) := by decide +kernel
def RJ6 : String := "java/lang/Integer"
def TJ6 : u_T := fun k => match k with
  | _ => ("", "", "", false)
def tyJ6 : Nat → FieldType := fun k => match k with
  | _ => .int
abbrev wsJ60 : List Cond := u_ws RJ6 TJ6 0
theorem nmJ6 : ∀ a, a < 0 → ∀ b, b < 0 → a ≠ b → (TJ6 a).2.1 ≠ (TJ6 b).2.1 := by decide +kernel
theorem tyJ6_ok : ∀ k, k < 0 → parseFieldDescriptor (TJ6 k).2.2.1 = some (tyJ6 k) := by decide +kernel
abbrev cJ6_bitCount_0f7a4 : ByteArray := prog_15_method_49_code
def yJ6_bitCount_0f7a4 : MethodName := ⟨RJ6, "bitCount", "(I)I"⟩
def RJ0 : String := "java/lang/String"
def TJ0 : u_T := fun k => match k with
  | _ => ("", "", "", false)
def tyJ0 : Nat → FieldType := fun k => match k with
  | _ => .int
abbrev wsJ00 : List Cond := u_ws RJ0 TJ0 0
theorem nmJ0 : ∀ a, a < 0 → ∀ b, b < 0 → a ≠ b → (TJ0 a).2.1 ≠ (TJ0 b).2.1 := by decide +kernel
theorem tyJ0_ok : ∀ k, k < 0 → parseFieldDescriptor (TJ0 k).2.2.1 = some (tyJ0 k) := by decide +kernel
def RJ10 : String := "java/lang/System"
def TJ10 : u_T := fun k => match k with
  | _ => ("", "", "", false)
def tyJ10 : Nat → FieldType := fun k => match k with
  | _ => .int
abbrev wsJ100 : List Cond := u_ws RJ10 TJ10 0
theorem nmJ10 : ∀ a, a < 0 → ∀ b, b < 0 → a ≠ b → (TJ10 a).2.1 ≠ (TJ10 b).2.1 := by decide +kernel
theorem tyJ10_ok : ∀ k, k < 0 → parseFieldDescriptor (TJ10 k).2.2.1 = some (tyJ10 k) := by decide +kernel
def RJ7 : String := "java/util/Arrays"
def TJ7 : u_T := fun k => match k with
  | _ => ("", "", "", false)
def tyJ7 : Nat → FieldType := fun k => match k with
  | _ => .int
abbrev wsJ70 : List Cond := u_ws RJ7 TJ7 0
theorem nmJ7 : ∀ a, a < 0 → ∀ b, b < 0 → a ≠ b → (TJ7 a).2.1 ≠ (TJ7 b).2.1 := by decide +kernel
theorem tyJ7_ok : ∀ k, k < 0 → parseFieldDescriptor (TJ7 k).2.2.1 = some (tyJ7 k) := by decide +kernel
abbrev cJ7_fill_53178 : ByteArray := prog_20_method_103_code
def yJ7_fill_53178 : MethodName := ⟨RJ7, "fill", "([II)V"⟩
def RL : String := "LineLivesLaw"
abbrev cL_low : ByteArray := method_2_code
def yL_low : MethodName := ⟨RL, "low", "(II)I"⟩
abbrev cL_cell : ByteArray := method_3_code
def yL_cell : MethodName := ⟨RL, "cell", "([II)I"⟩
abbrev cL_valueOf : ByteArray := method_4_code
def yL_valueOf : MethodName := ⟨RL, "valueOf", "(LLineLives;II)I"⟩
abbrev cL_counts : ByteArray := method_5_code
def yL_counts : MethodName := ⟨RL, "counts", "(LLineLives;III)Z"⟩
abbrev cL_lowest : ByteArray := method_6_code
def yL_lowest : MethodName := ⟨RL, "lowest", "(LLineLives;II)I"⟩
abbrev cL_turn : ByteArray := method_7_code
def yL_turn : MethodName := ⟨RL, "turn", "(LLineLives;III)I"⟩
abbrev cL_lift : ByteArray := method_8_code
def yL_lift : MethodName := ⟨RL, "lift", "(LLineLives;II)I"⟩
abbrev cL_add : ByteArray := method_9_code
def yL_add : MethodName := ⟨RL, "add", "(LLineLives;II)I"⟩
abbrev cL_undo : ByteArray := method_10_code
def yL_undo : MethodName := ⟨RL, "undo", "(LLineLives;)I"⟩
abbrev cL_value : ByteArray := method_11_code
def yL_value : MethodName := ⟨RL, "value", "(LLineLives;I)I"⟩
abbrev cL_places : ByteArray := method_12_code
def yL_places : MethodName := ⟨RL, "places", "(LLineLives;)Z"⟩
abbrev cL_lines : ByteArray := method_13_code
def yL_lines : MethodName := ⟨RL, "lines", "(LLineLives;)Z"⟩
abbrev cL_act : ByteArray := method_14_code
def yL_act : MethodName := ⟨RL, "act", "(LLineLives;[II)I"⟩
abbrev cL_law : ByteArray := code
def yL_law : MethodName := ⟨RL, "law", "([I)Z"⟩
abbrev vwCl : List vw_C := [(RX0, TX0, 2), (RX1, TX1, 4), (RX2, TX2, 5), (RX3, TX3, 6), (RX4, TX4, 3), (RX5, TX5, 3), (RX6, TX6, 6), (RX7, TX7, 6)]
