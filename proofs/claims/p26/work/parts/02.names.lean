def RX0 : String := "ConfigDesk$Candidate"
def TX0 : u_T := fun k => match k with
  | 0 => ("ConfigDesk$Candidate", "isOpen", "Z", false)
  | 1 => ("ConfigDesk$Candidate", "base", "I", false)
  | _ => ("ConfigDesk$Candidate", "configuration", "LConfigDesk$Configuration;", true)
def tyX0 : Nat → FieldType := fun k => match k with
  | 0 => .boolean
  | 1 => .int
  | _ => .object "ConfigDesk$Configuration"
abbrev wsX00 : List Cond := u_ws RX0 TX0 3
theorem nmX0 : ∀ a, a < 3 → ∀ b, b < 3 → a ≠ b → (TX0 a).2.1 ≠ (TX0 b).2.1 := by decide +kernel
theorem tyX0_ok : ∀ k, k < 3 → parseFieldDescriptor (TX0 k).2.2.1 = some (tyX0 k) := by decide +kernel
abbrev cX0_init : ByteArray := prog_2_method_1_code
def yX0_init : MethodName := ⟨RX0, "<init>", "()V"⟩
def RX1 : String := "ConfigDesk$Configuration"
def TX1 : u_T := fun k => match k with
  | 0 => ("ConfigDesk$Configuration", "sections", "[LConfigDesk$Section;", true)
  | _ => ("ConfigDesk$Configuration", "groups", "[[I", true)
def tyX1 : Nat → FieldType := fun k => match k with
  | 0 => .array (.object "ConfigDesk$Section")
  | _ => .array (.array .int)
abbrev wsX10 : List Cond := u_ws RX1 TX1 2
theorem nmX1 : ∀ a, a < 2 → ∀ b, b < 2 → a ≠ b → (TX1 a).2.1 ≠ (TX1 b).2.1 := by decide +kernel
theorem tyX1_ok : ∀ k, k < 2 → parseFieldDescriptor (TX1 k).2.2.1 = some (tyX1 k) := by decide +kernel
abbrev cX1_init : ByteArray := prog_3_method_1_code
def yX1_init : MethodName := ⟨RX1, "<init>", "()V"⟩
abbrev cX1_valueShown : ByteArray := prog_3_method_2_code
def yX1_valueShown : MethodName := ⟨RX1, "valueShown", "(LConfigDesk$Entry;I)I"⟩
abbrev cX1_copyFrom : ByteArray := prog_3_method_3_code
def yX1_copyFrom : MethodName := ⟨RX1, "copyFrom", "(LConfigDesk$Configuration;)V"⟩
abbrev cX1_isLike : ByteArray := prog_3_method_4_code
def yX1_isLike : MethodName := ⟨RX1, "isLike", "(LConfigDesk$Configuration;)Z"⟩
def RX2 : String := "ConfigDesk$Edit"
def TX2 : u_T := fun k => match k with
  | 0 => ("ConfigDesk$Edit", "kind", "I", false)
  | 1 => ("ConfigDesk$Edit", "section", "I", false)
  | 2 => ("ConfigDesk$Edit", "key", "I", false)
  | 3 => ("ConfigDesk$Edit", "from", "I", false)
  | 4 => ("ConfigDesk$Edit", "to", "I", false)
  | _ => ("ConfigDesk$Edit", "entry", "LConfigDesk$Entry;", true)
def tyX2 : Nat → FieldType := fun k => match k with
  | 0 => .int
  | 1 => .int
  | 2 => .int
  | 3 => .int
  | 4 => .int
  | _ => .object "ConfigDesk$Entry"
abbrev wsX20 : List Cond := u_ws RX2 TX2 6
theorem nmX2 : ∀ a, a < 6 → ∀ b, b < 6 → a ≠ b → (TX2 a).2.1 ≠ (TX2 b).2.1 := by decide +kernel
theorem tyX2_ok : ∀ k, k < 6 → parseFieldDescriptor (TX2 k).2.2.1 = some (tyX2 k) := by decide +kernel
abbrev cX2_init : ByteArray := prog_4_method_1_code
def yX2_init : MethodName := ⟨RX2, "<init>", "()V"⟩
abbrev cX2_become : ByteArray := prog_4_method_2_code
def yX2_become : MethodName := ⟨RX2, "become", "(IIIII)V"⟩
abbrev cX2_invert : ByteArray := prog_4_method_4_code
def yX2_invert : MethodName := ⟨RX2, "invert", "()V"⟩
abbrev cX2_applyTo : ByteArray := prog_4_method_5_code
def yX2_applyTo : MethodName := ⟨RX2, "applyTo", "(LConfigDesk$Configuration;Z)Z"⟩
abbrev cX2_addTo : ByteArray := prog_4_method_6_code
def yX2_addTo : MethodName := ⟨RX2, "addTo", "(LConfigDesk$Section;Z)Z"⟩
abbrev cX2_removeFrom : ByteArray := prog_4_method_7_code
def yX2_removeFrom : MethodName := ⟨RX2, "removeFrom", "(LConfigDesk$Section;IZ)Z"⟩
abbrev cX2_moveIn : ByteArray := prog_4_method_8_code
def yX2_moveIn : MethodName := ⟨RX2, "moveIn", "(LConfigDesk$Section;IZ)Z"⟩
abbrev cX2_setIn : ByteArray := prog_4_method_9_code
def yX2_setIn : MethodName := ⟨RX2, "setIn", "([II)Z"⟩
def RX3 : String := "ConfigDesk$EditList"
def TX3 : u_T := fun k => match k with
  | 0 => ("ConfigDesk$EditList", "count", "I", false)
  | 1 => ("ConfigDesk$EditList", "edits", "[LConfigDesk$Edit;", true)
  | _ => ("ConfigDesk$EditList", "left", "LConfigDesk$Section;", true)
def tyX3 : Nat → FieldType := fun k => match k with
  | 0 => .int
  | 1 => .array (.object "ConfigDesk$Edit")
  | _ => .object "ConfigDesk$Section"
abbrev wsX30 : List Cond := u_ws RX3 TX3 3
theorem nmX3 : ∀ a, a < 3 → ∀ b, b < 3 → a ≠ b → (TX3 a).2.1 ≠ (TX3 b).2.1 := by decide +kernel
theorem tyX3_ok : ∀ k, k < 3 → parseFieldDescriptor (TX3 k).2.2.1 = some (tyX3 k) := by decide +kernel
abbrev cX3_init : ByteArray := prog_5_method_1_code
def yX3_init : MethodName := ⟨RX3, "<init>", "()V"⟩
abbrev cX3_fill : ByteArray := prog_5_method_2_code
def yX3_fill : MethodName := ⟨RX3, "fill", "(LConfigDesk$Configuration;LConfigDesk$Configuration;)V"⟩
abbrev cX3_invert : ByteArray := prog_5_method_3_code
def yX3_invert : MethodName := ⟨RX3, "invert", "()V"⟩
abbrev cX3_applyTo : ByteArray := prog_5_method_4_code
def yX3_applyTo : MethodName := ⟨RX3, "applyTo", "(LConfigDesk$Configuration;Z)Z"⟩
abbrev cX3_noteRemovals : ByteArray := prog_5_method_5_code
def yX3_noteRemovals : MethodName := ⟨RX3, "noteRemovals", "(ILConfigDesk$Section;)V"⟩
abbrev cX3_notePlaces : ByteArray := prog_5_method_6_code
def yX3_notePlaces : MethodName := ⟨RX3, "notePlaces", "(ILConfigDesk$Section;)V"⟩
abbrev cX3_noteSettings : ByteArray := prog_5_method_7_code
def yX3_noteSettings : MethodName := ⟨RX3, "noteSettings", "(ILConfigDesk$Section;LConfigDesk$Section;)V"⟩
abbrev cX3_noteIfUnlike : ByteArray := prog_5_method_8_code
def yX3_noteIfUnlike : MethodName := ⟨RX3, "noteIfUnlike", "(IIIII)V"⟩
abbrev cX3_noteWhole : ByteArray := prog_5_method_9_code
def yX3_noteWhole : MethodName := ⟨RX3, "noteWhole", "(IILConfigDesk$Entry;II)V"⟩
abbrev cX3_note : ByteArray := prog_5_method_10_code
def yX3_note : MethodName := ⟨RX3, "note", "(IIIII)V"⟩
def RX4 : String := "ConfigDesk$Entry"
def TX4 : u_T := fun k => match k with
  | 0 => ("ConfigDesk$Entry", "key", "I", false)
  | _ => ("ConfigDesk$Entry", "settings", "[I", true)
def tyX4 : Nat → FieldType := fun k => match k with
  | 0 => .int
  | _ => .array .int
abbrev wsX40 : List Cond := u_ws RX4 TX4 2
theorem nmX4 : ∀ a, a < 2 → ∀ b, b < 2 → a ≠ b → (TX4 a).2.1 ≠ (TX4 b).2.1 := by decide +kernel
theorem tyX4_ok : ∀ k, k < 2 → parseFieldDescriptor (TX4 k).2.2.1 = some (tyX4 k) := by decide +kernel
abbrev cX4_init : ByteArray := prog_6_method_1_code
def yX4_init : MethodName := ⟨RX4, "<init>", "()V"⟩
abbrev cX4_clear : ByteArray := prog_6_method_2_code
def yX4_clear : MethodName := ⟨RX4, "clear", "(I)V"⟩
abbrev cX4_copyFrom : ByteArray := prog_6_method_3_code
def yX4_copyFrom : MethodName := ⟨RX4, "copyFrom", "(LConfigDesk$Entry;)V"⟩
abbrev cX4_isLike : ByteArray := prog_6_method_4_code
def yX4_isLike : MethodName := ⟨RX4, "isLike", "(LConfigDesk$Entry;)Z"⟩
def RX5 : String := "ConfigDesk$Rule"
def TX5 : u_T := fun k => match k with
  | 0 => ("ConfigDesk$Rule", "kind", "I", false)
  | 1 => ("ConfigDesk$Rule", "section", "I", false)
  | 2 => ("ConfigDesk$Rule", "field", "I", false)
  | _ => ("ConfigDesk$Rule", "number", "I", false)
def tyX5 : Nat → FieldType := fun k => match k with
  | 0 => .int
  | 1 => .int
  | 2 => .int
  | _ => .int
abbrev wsX50 : List Cond := u_ws RX5 TX5 4
theorem nmX5 : ∀ a, a < 4 → ∀ b, b < 4 → a ≠ b → (TX5 a).2.1 ≠ (TX5 b).2.1 := by decide +kernel
theorem tyX5_ok : ∀ k, k < 4 → parseFieldDescriptor (TX5 k).2.2.1 = some (tyX5 k) := by decide +kernel
abbrev cX5_init : ByteArray := prog_7_method_1_code
def yX5_init : MethodName := ⟨RX5, "<init>", "()V"⟩
abbrev cX5_isKeptBy : ByteArray := prog_7_method_2_code
def yX5_isKeptBy : MethodName := ⟨RX5, "isKeptBy", "(LConfigDesk$Configuration;)Z"⟩
abbrev cX5_isKeptAt : ByteArray := prog_7_method_3_code
def yX5_isKeptAt : MethodName := ⟨RX5, "isKeptAt", "(LConfigDesk$Configuration;I)Z"⟩
abbrev cX5_isShownAhead : ByteArray := prog_7_method_4_code
def yX5_isShownAhead : MethodName := ⟨RX5, "isShownAhead", "(LConfigDesk$Configuration;II)Z"⟩
abbrev cX5_shownAt : ByteArray := prog_7_method_5_code
def yX5_shownAt : MethodName := ⟨RX5, "shownAt", "(LConfigDesk$Configuration;I)I"⟩
def RX6 : String := "ConfigDesk$Section"
def TX6 : u_T := fun k => match k with
  | 0 => ("ConfigDesk$Section", "count", "I", false)
  | _ => ("ConfigDesk$Section", "entries", "[LConfigDesk$Entry;", true)
def tyX6 : Nat → FieldType := fun k => match k with
  | 0 => .int
  | _ => .array (.object "ConfigDesk$Entry")
abbrev wsX60 : List Cond := u_ws RX6 TX6 2
theorem nmX6 : ∀ a, a < 2 → ∀ b, b < 2 → a ≠ b → (TX6 a).2.1 ≠ (TX6 b).2.1 := by decide +kernel
theorem tyX6_ok : ∀ k, k < 2 → parseFieldDescriptor (TX6 k).2.2.1 = some (tyX6 k) := by decide +kernel
abbrev cX6_init : ByteArray := prog_8_method_1_code
def yX6_init : MethodName := ⟨RX6, "<init>", "()V"⟩
abbrev cX6_placeOf : ByteArray := prog_8_method_2_code
def yX6_placeOf : MethodName := ⟨RX6, "placeOf", "(I)I"⟩
abbrev cX6_hasPlace : ByteArray := prog_8_method_3_code
def yX6_hasPlace : MethodName := ⟨RX6, "hasPlace", "(I)Z"⟩
abbrev cX6_insert : ByteArray := prog_8_method_4_code
def yX6_insert : MethodName := ⟨RX6, "insert", "(ILConfigDesk$Entry;)V"⟩
abbrev cX6_takeOut : ByteArray := prog_8_method_5_code
def yX6_takeOut : MethodName := ⟨RX6, "takeOut", "(I)V"⟩
abbrev cX6_shift : ByteArray := prog_8_method_6_code
def yX6_shift : MethodName := ⟨RX6, "shift", "(II)V"⟩
abbrev cX6_copyFrom : ByteArray := prog_8_method_7_code
def yX6_copyFrom : MethodName := ⟨RX6, "copyFrom", "(LConfigDesk$Section;)V"⟩
abbrev cX6_isLike : ByteArray := prog_8_method_8_code
def yX6_isLike : MethodName := ⟨RX6, "isLike", "(LConfigDesk$Section;)Z"⟩
def RX7 : String := "ConfigDesk"
def TX7 : u_T := fun k => match k with
  | 0 => ("ConfigDesk", "candidates", "[LConfigDesk$Candidate;", true)
  | 1 => ("ConfigDesk", "versions", "[LConfigDesk$Configuration;", true)
  | 2 => ("ConfigDesk", "versionCount", "I", false)
  | 3 => ("ConfigDesk", "rules", "[LConfigDesk$Rule;", true)
  | 4 => ("ConfigDesk", "ruleCount", "I", false)
  | 5 => ("ConfigDesk", "minutesLeft", "I", false)
  | 6 => ("ConfigDesk", "versionAheadOfCommit", "I", false)
  | 7 => ("ConfigDesk", "list", "LConfigDesk$EditList;", true)
  | 8 => ("ConfigDesk", "draft", "LConfigDesk$Configuration;", true)
  | _ => ("ConfigDesk", "blank", "LConfigDesk$Entry;", true)
def tyX7 : Nat → FieldType := fun k => match k with
  | 0 => .array (.object "ConfigDesk$Candidate")
  | 1 => .array (.object "ConfigDesk$Configuration")
  | 2 => .int
  | 3 => .array (.object "ConfigDesk$Rule")
  | 4 => .int
  | 5 => .int
  | 6 => .int
  | 7 => .object "ConfigDesk$EditList"
  | 8 => .object "ConfigDesk$Configuration"
  | _ => .object "ConfigDesk$Entry"
abbrev wsX70 : List Cond := u_ws RX7 TX7 10
theorem nmX7 : ∀ a, a < 10 → ∀ b, b < 10 → a ≠ b → (TX7 a).2.1 ≠ (TX7 b).2.1 := by decide +kernel
theorem tyX7_ok : ∀ k, k < 10 → parseFieldDescriptor (TX7 k).2.2.1 = some (tyX7 k) := by decide +kernel
abbrev cX7_init : ByteArray := prog_1_method_1_code
def yX7_init : MethodName := ⟨RX7, "<init>", "()V"⟩
abbrev cX7_open : ByteArray := prog_1_method_2_code
def yX7_open : MethodName := ⟨RX7, "open", "(I)I"⟩
abbrev cX7_add : ByteArray := prog_1_method_3_code
def yX7_add : MethodName := ⟨RX7, "add", "(IIII)I"⟩
abbrev cX7_remove : ByteArray := prog_1_method_4_code
def yX7_remove : MethodName := ⟨RX7, "remove", "(III)I"⟩
abbrev cX7_set : ByteArray := prog_1_method_6_code
def yX7_set : MethodName := ⟨RX7, "set", "(IIIII)I"⟩
abbrev cX7_join : ByteArray := prog_1_method_7_code
def yX7_join : MethodName := ⟨RX7, "join", "(IIII)I"⟩
abbrev cX7_setGroup : ByteArray := prog_1_method_8_code
def yX7_setGroup : MethodName := ⟨RX7, "setGroup", "(IIII)I"⟩
abbrev cX7_load : ByteArray := prog_1_method_9_code
def yX7_load : MethodName := ⟨RX7, "load", "(II)V"⟩
abbrev cX7_apply : ByteArray := prog_1_method_10_code
def yX7_apply : MethodName := ⟨RX7, "apply", "(IIIZ)I"⟩
abbrev cX7_rule : ByteArray := prog_1_method_11_code
def yX7_rule : MethodName := ⟨RX7, "rule", "(IIII)I"⟩
abbrev cX7_faults : ByteArray := prog_1_method_12_code
def yX7_faults : MethodName := ⟨RX7, "faults", "(I)I"⟩
abbrev cX7_commit : ByteArray := prog_1_method_13_code
def yX7_commit : MethodName := ⟨RX7, "commit", "(II)I"⟩
abbrev cX7_confirm : ByteArray := prog_1_method_14_code
def yX7_confirm : MethodName := ⟨RX7, "confirm", "()I"⟩
abbrev cX7_advance : ByteArray := prog_1_method_15_code
def yX7_advance : MethodName := ⟨RX7, "advance", "(I)I"⟩
abbrev cX7_running : ByteArray := prog_1_method_16_code
def yX7_running : MethodName := ⟨RX7, "running", "()I"⟩
abbrev cX7_waiting : ByteArray := prog_1_method_17_code
def yX7_waiting : MethodName := ⟨RX7, "waiting", "()I"⟩
abbrev cX7_size : ByteArray := prog_1_method_18_code
def yX7_size : MethodName := ⟨RX7, "size", "(II)I"⟩
abbrev cX7_keyAt : ByteArray := prog_1_method_19_code
def yX7_keyAt : MethodName := ⟨RX7, "keyAt", "(III)I"⟩
abbrev cX7_shown : ByteArray := prog_1_method_20_code
def yX7_shown : MethodName := ⟨RX7, "shown", "(IIII)I"⟩
abbrev cX7_own : ByteArray := prog_1_method_21_code
def yX7_own : MethodName := ⟨RX7, "own", "(III)I"⟩
abbrev cX7_same : ByteArray := prog_1_method_22_code
def yX7_same : MethodName := ⟨RX7, "same", "(II)Z"⟩
abbrev cX7_edits : ByteArray := prog_1_method_23_code
def yX7_edits : MethodName := ⟨RX7, "edits", "(II)I"⟩
abbrev cX7_needIndex : ByteArray := prog_1_method_25_code
def yX7_needIndex : MethodName := ⟨RX7, "needIndex", "(II)V"⟩
abbrev cX7_needArgument : ByteArray := prog_1_method_26_code
def yX7_needArgument : MethodName := ⟨RX7, "needArgument", "(III)V"⟩
abbrev cX7_needEntryName : ByteArray := prog_1_method_27_code
def yX7_needEntryName : MethodName := ⟨RX7, "needEntryName", "(III)V"⟩
abbrev cX7_openConfiguration : ByteArray := prog_1_method_28_code
def yX7_openConfiguration : MethodName := ⟨RX7, "openConfiguration", "(I)LConfigDesk$Configuration;"⟩
abbrev cX7_placeOfEntry : ByteArray := prog_1_method_29_code
def yX7_placeOfEntry : MethodName := ⟨RX7, "placeOfEntry", "(LConfigDesk$Section;I)I"⟩
abbrev cX7_exchange : ByteArray := prog_1_method_30_code
def yX7_exchange : MethodName := ⟨RX7, "exchange", "(IIIII)I"⟩
abbrev cX7_configurationOf : ByteArray := prog_1_method_31_code
def yX7_configurationOf : MethodName := ⟨RX7, "configurationOf", "(I)LConfigDesk$Configuration;"⟩
abbrev cX7_sectionOf : ByteArray := prog_1_method_32_code
def yX7_sectionOf : MethodName := ⟨RX7, "sectionOf", "(II)LConfigDesk$Section;"⟩
abbrev cX7_entryOf : ByteArray := prog_1_method_33_code
def yX7_entryOf : MethodName := ⟨RX7, "entryOf", "(III)LConfigDesk$Entry;"⟩
abbrev cX7_brokenRules : ByteArray := prog_1_method_34_code
def yX7_brokenRules : MethodName := ⟨RX7, "brokenRules", "(LConfigDesk$Configuration;)I"⟩
abbrev cX7_addVersion : ByteArray := prog_1_method_35_code
def yX7_addVersion : MethodName := ⟨RX7, "addVersion", "(LConfigDesk$Configuration;)V"⟩
def RX8 : String := RX0
def TX8 : u_T := TX0
def tyX8 : Nat → FieldType := tyX0
theorem nmX8 : ∀ a, a < 3 → ∀ b, b < 3 → a ≠ b → (TX8 a).2.1 ≠ (TX8 b).2.1 := nmX0
theorem tyX8_ok : ∀ k, k < 3 → parseFieldDescriptor (TX8 k).2.2.1 = some (tyX8 k) := tyX0_ok
def RJ9 : String := "java/lang/Math"
def TJ9 : u_T := fun k => match k with
  | _ => ("", "", "", false)
def tyJ9 : Nat → FieldType := fun k => match k with
  | _ => .int
abbrev wsJ90 : List Cond := u_ws RJ9 TJ9 0
theorem nmJ9 : ∀ a, a < 0 → ∀ b, b < 0 → a ≠ b → (TJ9 a).2.1 ≠ (TJ9 b).2.1 := by decide +kernel
theorem tyJ9_ok : ∀ k, k < 0 → parseFieldDescriptor (TJ9 k).2.2.1 = some (tyJ9 k) := by decide +kernel
abbrev cJ9_min_7cf53 : ByteArray := prog_15_method_69_code
def yJ9_min_7cf53 : MethodName := ⟨RJ9, "min", "(II)I"⟩
def RJ0 : String := "java/lang/String"
def TJ0 : u_T := fun k => match k with
  | _ => ("", "", "", false)
def tyJ0 : Nat → FieldType := fun k => match k with
  | _ => .int
abbrev wsJ00 : List Cond := u_ws RJ0 TJ0 0
theorem nmJ0 : ∀ a, a < 0 → ∀ b, b < 0 → a ≠ b → (TJ0 a).2.1 ≠ (TJ0 b).2.1 := by decide +kernel
theorem tyJ0_ok : ∀ k, k < 0 → parseFieldDescriptor (TJ0 k).2.2.1 = some (tyJ0 k) := by decide +kernel
def RL : String := "ConfigDeskLaw"
abbrev cL_low : ByteArray := method_2_code
def yL_low : MethodName := ⟨RL, "low", "(II)I"⟩
abbrev cL_cell : ByteArray := method_3_code
def yL_cell : MethodName := ⟨RL, "cell", "([II)I"⟩
abbrev cL_add : ByteArray := method_4_code
def yL_add : MethodName := ⟨RL, "add", "(LConfigDesk;IIII)I"⟩
abbrev cL_remove : ByteArray := method_5_code
def yL_remove : MethodName := ⟨RL, "remove", "(LConfigDesk;III)I"⟩
abbrev cL_set : ByteArray := method_6_code
def yL_set : MethodName := ⟨RL, "set", "(LConfigDesk;IIIII)I"⟩
abbrev cL_join : ByteArray := method_7_code
def yL_join : MethodName := ⟨RL, "join", "(LConfigDesk;IIII)I"⟩
abbrev cL_commit : ByteArray := method_8_code
def yL_commit : MethodName := ⟨RL, "commit", "(LConfigDesk;II)I"⟩
abbrev cL_leads : ByteArray := method_9_code
def yL_leads : MethodName := ⟨RL, "leads", "(LConfigDesk;II)Z"⟩
abbrev cL_shape : ByteArray := method_10_code
def yL_shape : MethodName := ⟨RL, "shape", "(LConfigDesk;I)Z"⟩
abbrev cL_changes : ByteArray := method_11_code
def yL_changes : MethodName := ⟨RL, "changes", "(LConfigDesk;II)Z"⟩
abbrev cL_law : ByteArray := code
def yL_law : MethodName := ⟨RL, "law", "([I)Z"⟩
abbrev vwCl : List vw_C := [(RX0, TX0, 3), (RX1, TX1, 2), (RX2, TX2, 6), (RX3, TX3, 3), (RX4, TX4, 2), (RX5, TX5, 4), (RX6, TX6, 2), (RX7, TX7, 10), (RX8, TX8, 3)]
