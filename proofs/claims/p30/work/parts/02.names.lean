def RX0 : String := "DuctRake$Numbers"
def TX0 : u_T := fun k => match k with
  | _ => ("", "", "", false)
def tyX0 : Nat → FieldType := fun k => match k with
  | _ => .int
abbrev wsX00 : List Cond := u_ws RX0 TX0 0
theorem nmX0 : ∀ a, a < 0 → ∀ b, b < 0 → a ≠ b → (TX0 a).2.1 ≠ (TX0 b).2.1 := by decide +kernel
theorem tyX0_ok : ∀ k, k < 0 → parseFieldDescriptor (TX0 k).2.2.1 = some (tyX0 k) := by decide +kernel
abbrev cX0_quotient : ByteArray := prog_2_method_2_code
def yX0_quotient : MethodName := ⟨RX0, "quotient", "(II)I"⟩
abbrev cX0_wholeRoot : ByteArray := prog_2_method_3_code
def yX0_wholeRoot : MethodName := ⟨RX0, "wholeRoot", "(I)I"⟩
def RX1 : String := "DuctRake$Readings"
def TX1 : u_T := fun k => match k with
  | 0 => ("DuctRake$Readings", "heads", "[I", true)
  | 1 => ("DuctRake$Readings", "sizes", "[I", true)
  | 2 => ("DuctRake$Readings", "radii", "[I", true)
  | _ => ("DuctRake$Readings", "kept", "I", false)
def tyX1 : Nat → FieldType := fun k => match k with
  | 0 => .array .int
  | 1 => .array .int
  | 2 => .array .int
  | _ => .int
abbrev wsX10 : List Cond := u_ws RX1 TX1 4
theorem nmX1 : ∀ a, a < 4 → ∀ b, b < 4 → a ≠ b → (TX1 a).2.1 ≠ (TX1 b).2.1 := by decide +kernel
theorem tyX1_ok : ∀ k, k < 4 → parseFieldDescriptor (TX1 k).2.2.1 = some (tyX1 k) := by decide +kernel
abbrev cX1_init : ByteArray := prog_3_method_1_code
def yX1_init : MethodName := ⟨RX1, "<init>", "()V"⟩
abbrev cX1_become : ByteArray := prog_3_method_2_code
def yX1_become : MethodName := ⟨RX1, "become", "(LDuctRake$Readings;)V"⟩
abbrev cX1_headOf : ByteArray := prog_3_method_3_code
def yX1_headOf : MethodName := ⟨RX1, "headOf", "(II)I"⟩
abbrev cX1_isCounting : ByteArray := prog_3_method_4_code
def yX1_isCounting : MethodName := ⟨RX1, "isCounting", "(III)Z"⟩
abbrev cX1_add : ByteArray := prog_3_method_5_code
def yX1_add : MethodName := ⟨RX1, "add", "([III)V"⟩
abbrev cX1_remove : ByteArray := prog_3_method_6_code
def yX1_remove : MethodName := ⟨RX1, "remove", "(I)V"⟩
def RX2 : String := "DuctRake$Rows"
def TX2 : u_T := fun k => match k with
  | _ => ("", "", "", false)
def tyX2 : Nat → FieldType := fun k => match k with
  | _ => .int
abbrev wsX20 : List Cond := u_ws RX2 TX2 0
theorem nmX2 : ∀ a, a < 0 → ∀ b, b < 0 → a ≠ b → (TX2 a).2.1 ≠ (TX2 b).2.1 := by decide +kernel
theorem tyX2_ok : ∀ k, k < 0 → parseFieldDescriptor (TX2 k).2.2.1 = some (tyX2 k) := by decide +kernel
abbrev cX2_at : ByteArray := prog_4_method_2_code
def yX2_at : MethodName := ⟨RX2, "at", "([II)I"⟩
abbrev cX2_put : ByteArray := prog_4_method_3_code
def yX2_put : MethodName := ⟨RX2, "put", "([III)V"⟩
abbrev cX2_copy : ByteArray := prog_4_method_4_code
def yX2_copy : MethodName := ⟨RX2, "copy", "([I[I)V"⟩
abbrev cX2_clear : ByteArray := prog_4_method_5_code
def yX2_clear : MethodName := ⟨RX2, "clear", "([I)V"⟩
def RX3 : String := "DuctRake$SavedStates"
def TX3 : u_T := fun k => match k with
  | 0 => ("DuctRake$SavedStates", "ring", "[LDuctRake$State;", true)
  | 1 => ("DuctRake$SavedStates", "next", "I", false)
  | _ => ("DuctRake$SavedStates", "kept", "I", false)
def tyX3 : Nat → FieldType := fun k => match k with
  | 0 => .array (.object "DuctRake$State")
  | 1 => .int
  | _ => .int
abbrev wsX30 : List Cond := u_ws RX3 TX3 3
theorem nmX3 : ∀ a, a < 3 → ∀ b, b < 3 → a ≠ b → (TX3 a).2.1 ≠ (TX3 b).2.1 := by decide +kernel
theorem tyX3_ok : ∀ k, k < 3 → parseFieldDescriptor (TX3 k).2.2.1 = some (tyX3 k) := by decide +kernel
abbrev cX3_init : ByteArray := prog_5_method_1_code
def yX3_init : MethodName := ⟨RX3, "<init>", "()V"⟩
abbrev cX3_push : ByteArray := prog_5_method_2_code
def yX3_push : MethodName := ⟨RX3, "push", "(LDuctRake$State;)V"⟩
abbrev cX3_popInto : ByteArray := prog_5_method_3_code
def yX3_popInto : MethodName := ⟨RX3, "popInto", "(LDuctRake$State;)V"⟩
abbrev cX3_stateAt : ByteArray := prog_5_method_4_code
def yX3_stateAt : MethodName := ⟨RX3, "stateAt", "(I)LDuctRake$State;"⟩
def RX4 : String := "DuctRake$Slot"
def TX4 : u_T := fun k => match k with
  | 0 => ("DuctRake$Slot", "snapshot", "LDuctRake$State;", true)
  | _ => ("DuctRake$Slot", "filled", "Z", false)
def tyX4 : Nat → FieldType := fun k => match k with
  | 0 => .object "DuctRake$State"
  | _ => .boolean
abbrev wsX40 : List Cond := u_ws RX4 TX4 2
theorem nmX4 : ∀ a, a < 2 → ∀ b, b < 2 → a ≠ b → (TX4 a).2.1 ≠ (TX4 b).2.1 := by decide +kernel
theorem tyX4_ok : ∀ k, k < 2 → parseFieldDescriptor (TX4 k).2.2.1 = some (tyX4 k) := by decide +kernel
abbrev cX4_init : ByteArray := prog_6_method_1_code
def yX4_init : MethodName := ⟨RX4, "<init>", "()V"⟩
def RX5 : String := "DuctRake$State"
def TX5 : u_T := fun k => match k with
  | 0 => ("DuctRake$State", "holes", "I", false)
  | 1 => ("DuctRake$State", "radius", "I", false)
  | 2 => ("DuctRake$State", "settings", "[I", true)
  | 3 => ("DuctRake$State", "passes", "[I", true)
  | 4 => ("DuctRake$State", "leaks", "[I", true)
  | 5 => ("DuctRake$State", "tests", "[I", true)
  | 6 => ("DuctRake$State", "works", "[I", true)
  | 7 => ("DuctRake$State", "readings", "LDuctRake$Readings;", true)
  | 8 => ("DuctRake$State", "readingsSoFar", "I", false)
  | 9 => ("DuctRake$State", "workOfReadings", "I", false)
  | _ => ("DuctRake$State", "workOfOldRakes", "I", false)
def tyX5 : Nat → FieldType := fun k => match k with
  | 0 => .int
  | 1 => .int
  | 2 => .array .int
  | 3 => .array .int
  | 4 => .array .int
  | 5 => .array .int
  | 6 => .array .int
  | 7 => .object "DuctRake$Readings"
  | 8 => .int
  | 9 => .int
  | _ => .int
abbrev wsX50 : List Cond := u_ws RX5 TX5 11
theorem nmX5 : ∀ a, a < 11 → ∀ b, b < 11 → a ≠ b → (TX5 a).2.1 ≠ (TX5 b).2.1 := by decide +kernel
theorem tyX5_ok : ∀ k, k < 11 → parseFieldDescriptor (TX5 k).2.2.1 = some (tyX5 k) := by decide +kernel
abbrev cX5_init : ByteArray := prog_7_method_1_code
def yX5_init : MethodName := ⟨RX5, "<init>", "()V"⟩
abbrev cX5_become : ByteArray := prog_7_method_2_code
def yX5_become : MethodName := ⟨RX5, "become", "(LDuctRake$State;)V"⟩
abbrev cX5_putRake : ByteArray := prog_7_method_3_code
def yX5_putRake : MethodName := ⟨RX5, "putRake", "(I)V"⟩
abbrev cX5_clearHole : ByteArray := prog_7_method_4_code
def yX5_clearHole : MethodName := ⟨RX5, "clearHole", "(I)V"⟩
abbrev cX5_workOfCleaning : ByteArray := prog_7_method_5_code
def yX5_workOfCleaning : MethodName := ⟨RX5, "workOfCleaning", "(I)I"⟩
abbrev cX5_addHoleWork : ByteArray := prog_7_method_6_code
def yX5_addHoleWork : MethodName := ⟨RX5, "addHoleWork", "(II)V"⟩
abbrev cX5_workOfHoles : ByteArray := prog_7_method_7_code
def yX5_workOfHoles : MethodName := ⟨RX5, "workOfHoles", "()I"⟩
abbrev cX5_takeReading : ByteArray := prog_7_method_8_code
def yX5_takeReading : MethodName := ⟨RX5, "takeReading", "([II)V"⟩
def RX6 : String := "DuctRake$TextBuffer"
def TX6 : u_T := fun k => match k with
  | 0 => ("DuctRake$TextBuffer", "codes", "[I", true)
  | _ => ("DuctRake$TextBuffer", "length", "I", false)
def tyX6 : Nat → FieldType := fun k => match k with
  | 0 => .array .int
  | _ => .int
abbrev wsX60 : List Cond := u_ws RX6 TX6 2
theorem nmX6 : ∀ a, a < 2 → ∀ b, b < 2 → a ≠ b → (TX6 a).2.1 ≠ (TX6 b).2.1 := by decide +kernel
theorem tyX6_ok : ∀ k, k < 2 → parseFieldDescriptor (TX6 k).2.2.1 = some (tyX6 k) := by decide +kernel
abbrev cX6_init : ByteArray := prog_8_method_1_code
def yX6_init : MethodName := ⟨RX6, "<init>", "()V"⟩
abbrev cX6_add : ByteArray := prog_8_method_2_code
def yX6_add : MethodName := ⟨RX6, "add", "(I)V"⟩
abbrev cX6_firstWrong : ByteArray := prog_8_method_3_code
def yX6_firstWrong : MethodName := ⟨RX6, "firstWrong", "()I"⟩
abbrev cX6_tellsReading : ByteArray := prog_8_method_4_code
def yX6_tellsReading : MethodName := ⟨RX6, "tellsReading", "()Z"⟩
abbrev cX6_headsInto : ByteArray := prog_8_method_5_code
def yX6_headsInto : MethodName := ⟨RX6, "headsInto", "([I)I"⟩
abbrev cX6_isDigit : ByteArray := prog_8_method_6_code
def yX6_isDigit : MethodName := ⟨RX6, "isDigit", "(I)Z"⟩
def RX7 : String := "DuctRake$Told"
def TX7 : u_T := fun k => match k with
  | 0 => ("DuctRake$Told", "means", "[I", true)
  | 1 => ("DuctRake$Told", "reasons", "[I", true)
  | 2 => ("DuctRake$Told", "speeds", "[I", true)
  | 3 => ("DuctRake$Told", "holes", "I", false)
  | 4 => ("DuctRake$Told", "radius", "I", false)
  | 5 => ("DuctRake$Told", "counting", "I", false)
  | _ => ("DuctRake$Told", "trusted", "I", false)
def tyX7 : Nat → FieldType := fun k => match k with
  | 0 => .array .int
  | 1 => .array .int
  | 2 => .array .int
  | 3 => .int
  | 4 => .int
  | 5 => .int
  | _ => .int
abbrev wsX70 : List Cond := u_ws RX7 TX7 7
theorem nmX7 : ∀ a, a < 7 → ∀ b, b < 7 → a ≠ b → (TX7 a).2.1 ≠ (TX7 b).2.1 := by decide +kernel
theorem tyX7_ok : ∀ k, k < 7 → parseFieldDescriptor (TX7 k).2.2.1 = some (tyX7 k) := by decide +kernel
abbrev cX7_init : ByteArray := prog_9_method_1_code
def yX7_init : MethodName := ⟨RX7, "<init>", "()V"⟩
abbrev cX7_judge : ByteArray := prog_9_method_2_code
def yX7_judge : MethodName := ⟨RX7, "judge", "(LDuctRake$State;)V"⟩
abbrev cX7_judgeIfRight : ByteArray := prog_9_method_3_code
def yX7_judgeIfRight : MethodName := ⟨RX7, "judgeIfRight", "(LDuctRake$State;II)V"⟩
abbrev cX7_takeMeans : ByteArray := prog_9_method_4_code
def yX7_takeMeans : MethodName := ⟨RX7, "takeMeans", "(LDuctRake$State;)V"⟩
abbrev cX7_giveReasons : ByteArray := prog_9_method_5_code
def yX7_giveReasons : MethodName := ⟨RX7, "giveReasons", "(LDuctRake$State;I)V"⟩
abbrev cX7_reasonFor : ByteArray := prog_9_method_6_code
def yX7_reasonFor : MethodName := ⟨RX7, "reasonFor", "(IIZ)I"⟩
abbrev cX7_tellSpeeds : ByteArray := prog_9_method_7_code
def yX7_tellSpeeds : MethodName := ⟨RX7, "tellSpeeds", "()V"⟩
abbrev cX7_mended : ByteArray := prog_9_method_8_code
def yX7_mended : MethodName := ⟨RX7, "mended", "(II)I"⟩
abbrev cX7_flowOfRings : ByteArray := prog_9_method_9_code
def yX7_flowOfRings : MethodName := ⟨RX7, "flowOfRings", "(II)I"⟩
abbrev cX7_countOfReason : ByteArray := prog_9_method_10_code
def yX7_countOfReason : MethodName := ⟨RX7, "countOfReason", "(I)I"⟩
abbrev cX7_leastByGreatest : ByteArray := prog_9_method_11_code
def yX7_leastByGreatest : MethodName := ⟨RX7, "leastByGreatest", "()D"⟩
def RX8 : String := "DuctRake$TrueFlow"
def TX8 : u_T := fun k => match k with
  | _ => ("", "", "", false)
def tyX8 : Nat → FieldType := fun k => match k with
  | _ => .int
abbrev wsX80 : List Cond := u_ws RX8 TX8 0
theorem nmX8 : ∀ a, a < 0 → ∀ b, b < 0 → a ≠ b → (TX8 a).2.1 ≠ (TX8 b).2.1 := by decide +kernel
theorem tyX8_ok : ∀ k, k < 0 → parseFieldDescriptor (TX8 k).2.2.1 = some (tyX8 k) := by decide +kernel
abbrev cX8_distance : ByteArray := prog_10_method_2_code
def yX8_distance : MethodName := ⟨RX8, "distance", "(III)I"⟩
abbrev cX8_speedAt : ByteArray := prog_10_method_3_code
def yX8_speedAt : MethodName := ⟨RX8, "speedAt", "(LDuctRake$State;II)I"⟩
abbrev cX8_headAt : ByteArray := prog_10_method_4_code
def yX8_headAt : MethodName := ⟨RX8, "headAt", "(LDuctRake$State;I)I"⟩
abbrev cX8_feltAt : ByteArray := prog_10_method_5_code
def yX8_feltAt : MethodName := ⟨RX8, "feltAt", "(LDuctRake$State;II)I"⟩
abbrev cX8_whole : ByteArray := prog_10_method_6_code
def yX8_whole : MethodName := ⟨RX8, "whole", "(LDuctRake$State;I)I"⟩
abbrev cX8_flowOfRing : ByteArray := prog_10_method_7_code
def yX8_flowOfRing : MethodName := ⟨RX8, "flowOfRing", "(III)I"⟩
def RX9 : String := "DuctRake"
def TX9 : u_T := fun k => match k with
  | 0 => ("DuctRake", "now", "LDuctRake$State;", true)
  | 1 => ("DuctRake", "saved", "LDuctRake$SavedStates;", true)
  | 2 => ("DuctRake", "firstSlot", "LDuctRake$Slot;", true)
  | 3 => ("DuctRake", "secondSlot", "LDuctRake$Slot;", true)
  | 4 => ("DuctRake", "buffer", "LDuctRake$TextBuffer;", true)
  | 5 => ("DuctRake", "toldNow", "LDuctRake$Told;", true)
  | 6 => ("DuctRake", "toldIfRight", "LDuctRake$Told;", true)
  | _ => ("DuctRake", "newHeads", "[I", true)
def tyX9 : Nat → FieldType := fun k => match k with
  | 0 => .object "DuctRake$State"
  | 1 => .object "DuctRake$SavedStates"
  | 2 => .object "DuctRake$Slot"
  | 3 => .object "DuctRake$Slot"
  | 4 => .object "DuctRake$TextBuffer"
  | 5 => .object "DuctRake$Told"
  | 6 => .object "DuctRake$Told"
  | _ => .array .int
abbrev wsX90 : List Cond := u_ws RX9 TX9 8
theorem nmX9 : ∀ a, a < 8 → ∀ b, b < 8 → a ≠ b → (TX9 a).2.1 ≠ (TX9 b).2.1 := by decide +kernel
theorem tyX9_ok : ∀ k, k < 8 → parseFieldDescriptor (TX9 k).2.2.1 = some (tyX9 k) := by decide +kernel
abbrev cX9_init : ByteArray := prog_1_method_1_code
def yX9_init : MethodName := ⟨RX9, "<init>", "()V"⟩
abbrev cX9_rake : ByteArray := prog_1_method_2_code
def yX9_rake : MethodName := ⟨RX9, "rake", "(I)I"⟩
abbrev cX9_radius : ByteArray := prog_1_method_3_code
def yX9_radius : MethodName := ⟨RX9, "radius", "(I)I"⟩
abbrev cX9_block : ByteArray := prog_1_method_4_code
def yX9_block : MethodName := ⟨RX9, "block", "(II)I"⟩
abbrev cX9_leak : ByteArray := prog_1_method_5_code
def yX9_leak : MethodName := ⟨RX9, "leak", "(II)I"⟩
abbrev cX9_clean : ByteArray := prog_1_method_6_code
def yX9_clean : MethodName := ⟨RX9, "clean", "(I)I"⟩
abbrev cX9_test : ByteArray := prog_1_method_7_code
def yX9_test : MethodName := ⟨RX9, "test", "(I)I"⟩
abbrev cX9_read : ByteArray := prog_1_method_8_code
def yX9_read : MethodName := ⟨RX9, "read", "()I"⟩
abbrev cX9_drop : ByteArray := prog_1_method_9_code
def yX9_drop : MethodName := ⟨RX9, "drop", "(I)I"⟩
abbrev cX9_set : ByteArray := prog_1_method_10_code
def yX9_set : MethodName := ⟨RX9, "set", "(II)I"⟩
abbrev cX9_append : ByteArray := prog_1_method_11_code
def yX9_append : MethodName := ⟨RX9, "append", "(I)I"⟩
abbrev cX9_clearBuffer : ByteArray := prog_1_method_12_code
def yX9_clearBuffer : MethodName := ⟨RX9, "clearBuffer", "()I"⟩
abbrev cX9_load : ByteArray := prog_1_method_14_code
def yX9_load : MethodName := ⟨RX9, "load", "()I"⟩
abbrev cX9_keep : ByteArray := prog_1_method_15_code
def yX9_keep : MethodName := ⟨RX9, "keep", "(I)I"⟩
abbrev cX9_goBack : ByteArray := prog_1_method_16_code
def yX9_goBack : MethodName := ⟨RX9, "goBack", "(I)I"⟩
abbrev cX9_undo : ByteArray := prog_1_method_17_code
def yX9_undo : MethodName := ⟨RX9, "undo", "()I"⟩
abbrev cX9_hole : ByteArray := prog_1_method_18_code
def yX9_hole : MethodName := ⟨RX9, "hole", "(II)I"⟩
abbrev cX9_reading : ByteArray := prog_1_method_19_code
def yX9_reading : MethodName := ⟨RX9, "reading", "(II)I"⟩
abbrev cX9_flow : ByteArray := prog_1_method_20_code
def yX9_flow : MethodName := ⟨RX9, "flow", "(I)I"⟩
abbrev cX9_count : ByteArray := prog_1_method_21_code
def yX9_count : MethodName := ⟨RX9, "count", "(I)I"⟩
abbrev cX9_setting : ByteArray := prog_1_method_22_code
def yX9_setting : MethodName := ⟨RX9, "setting", "(I)I"⟩
abbrev cX9_worst : ByteArray := prog_1_method_24_code
def yX9_worst : MethodName := ⟨RX9, "worst", "()I"⟩
abbrev cX9_ifRake : ByteArray := prog_1_method_25_code
def yX9_ifRake : MethodName := ⟨RX9, "ifRake", "(I)I"⟩
abbrev cX9_fineRake : ByteArray := prog_1_method_26_code
def yX9_fineRake : MethodName := ⟨RX9, "fineRake", "(I)I"⟩
abbrev cX9_evenness : ByteArray := prog_1_method_27_code
def yX9_evenness : MethodName := ⟨RX9, "evenness", "()D"⟩
abbrev cX9_isNoRake : ByteArray := prog_1_method_29_code
def yX9_isNoRake : MethodName := ⟨RX9, "isNoRake", "(I)Z"⟩
abbrev cX9_isNoSetting : ByteArray := prog_1_method_30_code
def yX9_isNoSetting : MethodName := ⟨RX9, "isNoSetting", "(I)Z"⟩
abbrev cX9_isNoSlot : ByteArray := prog_1_method_31_code
def yX9_isNoSlot : MethodName := ⟨RX9, "isNoSlot", "(I)Z"⟩
abbrev cX9_isNoHole : ByteArray := prog_1_method_32_code
def yX9_isNoHole : MethodName := ⟨RX9, "isNoHole", "(I)Z"⟩
abbrev cX9_isNoReading : ByteArray := prog_1_method_33_code
def yX9_isNoReading : MethodName := ⟨RX9, "isNoReading", "(I)Z"⟩
abbrev cX9_slotOf : ByteArray := prog_1_method_34_code
def yX9_slotOf : MethodName := ⟨RX9, "slotOf", "(I)LDuctRake$Slot;"⟩
abbrev cX9_holeValue : ByteArray := prog_1_method_35_code
def yX9_holeValue : MethodName := ⟨RX9, "holeValue", "(IILDuctRake$Told;)I"⟩
abbrev cX9_readingValue : ByteArray := prog_1_method_36_code
def yX9_readingValue : MethodName := ⟨RX9, "readingValue", "(II)I"⟩
abbrev cX9_flowValue : ByteArray := prog_1_method_37_code
def yX9_flowValue : MethodName := ⟨RX9, "flowValue", "(ILDuctRake$Told;)I"⟩
abbrev cX9_countValue : ByteArray := prog_1_method_38_code
def yX9_countValue : MethodName := ⟨RX9, "countValue", "(ILDuctRake$Told;)I"⟩
abbrev cX9_wholeIfRight : ByteArray := prog_1_method_39_code
def yX9_wholeIfRight : MethodName := ⟨RX9, "wholeIfRight", "(I)I"⟩
abbrev cX9_worstHole : ByteArray := prog_1_method_40_code
def yX9_worstHole : MethodName := ⟨RX9, "worstHole", "(LDuctRake$Told;)I"⟩
abbrev cX9_fewestHoles : ByteArray := prog_1_method_41_code
def yX9_fewestHoles : MethodName := ⟨RX9, "fewestHoles", "(I)I"⟩
def RX10 : String := "DuctRakeModel"
def TX10 : u_T := fun k => match k with
  | _ => ("", "", "", false)
def tyX10 : Nat → FieldType := fun k => match k with
  | _ => .int
abbrev wsX100 : List Cond := u_ws RX10 TX10 0
theorem nmX10 : ∀ a, a < 0 → ∀ b, b < 0 → a ≠ b → (TX10 a).2.1 ≠ (TX10 b).2.1 := by decide +kernel
theorem tyX10_ok : ∀ k, k < 0 → parseFieldDescriptor (TX10 k).2.2.1 = some (tyX10 k) := by decide +kernel
def RJx8e188 : String := "java/lang/Cloneable"
def TJx8e188 : u_T := fun k => match k with
  | _ => ("", "", "", false)
def tyJx8e188 : Nat → FieldType := fun k => match k with
  | _ => .int
abbrev wsJx8e1880 : List Cond := u_ws RJx8e188 TJx8e188 0
theorem nmJx8e188 : ∀ a, a < 0 → ∀ b, b < 0 → a ≠ b → (TJx8e188 a).2.1 ≠ (TJx8e188 b).2.1 := by decide +kernel
theorem tyJx8e188_ok : ∀ k, k < 0 → parseFieldDescriptor (TJx8e188 k).2.2.1 = some (tyJx8e188 k) := by decide +kernel
def RJ9 : String := "java/lang/Math"
def TJ9 : u_T := fun k => match k with
  | _ => ("", "", "", false)
def tyJ9 : Nat → FieldType := fun k => match k with
  | _ => .int
abbrev wsJ90 : List Cond := u_ws RJ9 TJ9 0
theorem nmJ9 : ∀ a, a < 0 → ∀ b, b < 0 → a ≠ b → (TJ9 a).2.1 ≠ (TJ9 b).2.1 := by decide +kernel
theorem tyJ9_ok : ∀ k, k < 0 → parseFieldDescriptor (TJ9 k).2.2.1 = some (tyJ9 k) := by decide +kernel
abbrev cJ9_abs_0f7a4 : ByteArray := prog_18_method_59_code
def yJ9_abs_0f7a4 : MethodName := ⟨RJ9, "abs", "(I)I"⟩
abbrev cJ9_max_7cf53 : ByteArray := prog_18_method_65_code
def yJ9_max_7cf53 : MethodName := ⟨RJ9, "max", "(II)I"⟩
abbrev cJ9_min_7cf53 : ByteArray := prog_18_method_69_code
def yJ9_min_7cf53 : MethodName := ⟨RJ9, "min", "(II)I"⟩
def RJ0 : String := "java/lang/String"
def TJ0 : u_T := fun k => match k with
  | _ => ("", "", "", false)
def tyJ0 : Nat → FieldType := fun k => match k with
  | _ => .int
abbrev wsJ00 : List Cond := u_ws RJ0 TJ0 0
theorem nmJ0 : ∀ a, a < 0 → ∀ b, b < 0 → a ≠ b → (TJ0 a).2.1 ≠ (TJ0 b).2.1 := by decide +kernel
theorem tyJ0_ok : ∀ k, k < 0 → parseFieldDescriptor (TJ0 k).2.2.1 = some (tyJ0 k) := by decide +kernel
def RL : String := "DuctRakeLaw"
abbrev cL_cell : ByteArray := method_2_code
def yL_cell : MethodName := ⟨RL, "cell", "([II)I"⟩
abbrev cL_low : ByteArray := method_3_code
def yL_low : MethodName := ⟨RL, "low", "(II)I"⟩
abbrev cL_told : ByteArray := method_4_code
def yL_told : MethodName := ⟨RL, "told", "(LDuctRake;)J"⟩
abbrev cL_act : ByteArray := method_5_code
def yL_act : MethodName := ⟨RL, "act", "(LDuctRake;II)I"⟩
abbrev cL_holds : ByteArray := method_6_code
def yL_holds : MethodName := ⟨RL, "holds", "(LDuctRake;)Z"⟩
abbrev cL_law : ByteArray := code
def yL_law : MethodName := ⟨RL, "law", "([I)Z"⟩
abbrev vwCl : List vw_C := [(RX1, TX1, 4), (RX3, TX3, 3), (RX4, TX4, 2), (RX5, TX5, 11), (RX6, TX6, 2), (RX7, TX7, 7), (RX9, TX9, 8)]
