def RX0 : String := "IceBells$1"
def TX0 : u_T := fun k => match k with
  | _ => ("", "", "", false)
def tyX0 : Nat → FieldType := fun k => match k with
  | _ => .int
abbrev wsX00 : List Cond := u_ws RX0 TX0 0
theorem nmX0 : ∀ a, a < 0 → ∀ b, b < 0 → a ≠ b → (TX0 a).2.1 ≠ (TX0 b).2.1 := by decide +kernel
theorem tyX0_ok : ∀ k, k < 0 → parseFieldDescriptor (TX0 k).2.2.1 = some (tyX0 k) := by decide +kernel
def RX1 : String := "IceBells$Command"
def TX1 : u_T := fun k => match k with
  | 0 => ("IceBells$Command", "kind", "LIceBells$Kind;", false)
  | 1 => ("IceBells$Command", "numbers", "[I", true)
  | _ => ("IceBells$Command", "numberCount", "I", false)
def tyX1 : Nat → FieldType := fun k => match k with
  | 0 => .object "IceBells$Kind"
  | 1 => .array .int
  | _ => .int
abbrev wsX10 : List Cond := u_ws RX1 TX1 3
theorem nmX1 : ∀ a, a < 3 → ∀ b, b < 3 → a ≠ b → (TX1 a).2.1 ≠ (TX1 b).2.1 := by decide +kernel
theorem tyX1_ok : ∀ k, k < 3 → parseFieldDescriptor (TX1 k).2.2.1 = some (tyX1 k) := by decide +kernel
abbrev cX1_init : ByteArray := prog_3_method_1_code
def yX1_init : MethodName := ⟨RX1, "<init>", "()V"⟩
abbrev cX1_begin : ByteArray := prog_3_method_2_code
def yX1_begin : MethodName := ⟨RX1, "begin", "(LIceBells$Kind;)V"⟩
abbrev cX1_addNumber : ByteArray := prog_3_method_3_code
def yX1_addNumber : MethodName := ⟨RX1, "addNumber", "(I)V"⟩
def RX2 : String := "IceBells$CommandText"
def TX2 : u_T := fun k => match k with
  | 0 => ("IceBells$CommandText", "text", "[C", true)
  | 1 => ("IceBells$CommandText", "length", "I", false)
  | 2 => ("IceBells$CommandText", "position", "I", false)
  | 3 => ("IceBells$CommandText", "commands", "[LIceBells$Command;", true)
  | _ => ("IceBells$CommandText", "commandCount", "I", false)
def tyX2 : Nat → FieldType := fun k => match k with
  | 0 => .array .char
  | 1 => .int
  | 2 => .int
  | 3 => .array (.object "IceBells$Command")
  | _ => .int
abbrev wsX20 : List Cond := u_ws RX2 TX2 5
theorem nmX2 : ∀ a, a < 5 → ∀ b, b < 5 → a ≠ b → (TX2 a).2.1 ≠ (TX2 b).2.1 := by decide +kernel
theorem tyX2_ok : ∀ k, k < 5 → parseFieldDescriptor (TX2 k).2.2.1 = some (tyX2 k) := by decide +kernel
abbrev cX2_init : ByteArray := prog_4_method_1_code
def yX2_init : MethodName := ⟨RX2, "<init>", "()V"⟩
abbrev cX2_clear : ByteArray := prog_4_method_4_code
def yX2_clear : MethodName := ⟨RX2, "clear", "()V"⟩
abbrev cX2_parse : ByteArray := prog_4_method_5_code
def yX2_parse : MethodName := ⟨RX2, "parse", "()Z"⟩
abbrev cX2_readCommand : ByteArray := prog_4_method_6_code
def yX2_readCommand : MethodName := ⟨RX2, "readCommand", "(LIceBells$Command;)Z"⟩
abbrev cX2_readForm : ByteArray := prog_4_method_7_code
def yX2_readForm : MethodName := ⟨RX2, "readForm", "(Ljava/lang/String;LIceBells$Command;)Z"⟩
abbrev cX2_readPart : ByteArray := prog_4_method_8_code
def yX2_readPart : MethodName := ⟨RX2, "readPart", "(CLIceBells$Command;)Z"⟩
abbrev cX2_readNumber : ByteArray := prog_4_method_9_code
def yX2_readNumber : MethodName := ⟨RX2, "readNumber", "(IILIceBells$Command;)Z"⟩
abbrev cX2_digitStands : ByteArray := prog_4_method_10_code
def yX2_digitStands : MethodName := ⟨RX2, "digitStands", "()Z"⟩
abbrev cX2_readSign : ByteArray := prog_4_method_11_code
def yX2_readSign : MethodName := ⟨RX2, "readSign", "(C)Z"⟩
abbrev cX2_stands : ByteArray := prog_4_method_12_code
def yX2_stands : MethodName := ⟨RX2, "stands", "(C)Z"⟩
def RX3 : String := "IceBells$History"
def TX3 : u_T := fun k => match k with
  | 0 => ("IceBells$History", "past", "[LIceBells$Landscape;", true)
  | 1 => ("IceBells$History", "count", "I", false)
  | _ => ("IceBells$History", "next", "I", false)
def tyX3 : Nat → FieldType := fun k => match k with
  | 0 => .array (.object "IceBells$Landscape")
  | 1 => .int
  | _ => .int
abbrev wsX30 : List Cond := u_ws RX3 TX3 3
theorem nmX3 : ∀ a, a < 3 → ∀ b, b < 3 → a ≠ b → (TX3 a).2.1 ≠ (TX3 b).2.1 := by decide +kernel
theorem tyX3_ok : ∀ k, k < 3 → parseFieldDescriptor (TX3 k).2.2.1 = some (tyX3 k) := by decide +kernel
abbrev cX3_init : ByteArray := prog_5_method_1_code
def yX3_init : MethodName := ⟨RX3, "<init>", "()V"⟩
abbrev cX3_remember : ByteArray := prog_5_method_2_code
def yX3_remember : MethodName := ⟨RX3, "remember", "(LIceBells$Landscape;)V"⟩
abbrev cX3_forget : ByteArray := prog_5_method_4_code
def yX3_forget : MethodName := ⟨RX3, "forget", "()V"⟩
def RX4 : String := "IceBells$Kind"
def TX4 : u_T := fun k => match k with
  | _ => ("", "", "", false)
def tyX4 : Nat → FieldType := fun k => match k with
  | _ => .int
abbrev wsX40 : List Cond := u_ws RX4 TX4 0
theorem nmX4 : ∀ a, a < 0 → ∀ b, b < 0 → a ≠ b → (TX4 a).2.1 ≠ (TX4 b).2.1 := by decide +kernel
theorem tyX4_ok : ∀ k, k < 0 → parseFieldDescriptor (TX4 k).2.2.1 = some (tyX4 k) := by decide +kernel
def RX5 : String := "IceBells$Lake"
def TX5 : u_T := fun k => match k with
  | 0 => ("IceBells$Lake", "thickness", "[I", true)
  | 1 => ("IceBells$Lake", "temperature", "[I", true)
  | 2 => ("IceBells$Lake", "strain", "[I", true)
  | 3 => ("IceBells$Lake", "layerCount", "I", false)
  | 4 => ("IceBells$Lake", "depth", "I", false)
  | _ => ("IceBells$Lake", "cracks", "I", false)
def tyX5 : Nat → FieldType := fun k => match k with
  | 0 => .array .int
  | 1 => .array .int
  | 2 => .array .int
  | 3 => .int
  | 4 => .int
  | _ => .int
abbrev wsX50 : List Cond := u_ws RX5 TX5 6
theorem nmX5 : ∀ a, a < 6 → ∀ b, b < 6 → a ≠ b → (TX5 a).2.1 ≠ (TX5 b).2.1 := by decide +kernel
theorem tyX5_ok : ∀ k, k < 6 → parseFieldDescriptor (TX5 k).2.2.1 = some (tyX5 k) := by decide +kernel
abbrev cX5_init : ByteArray := prog_7_method_1_code
def yX5_init : MethodName := ⟨RX5, "<init>", "()V"⟩
abbrev cX5_begin : ByteArray := prog_7_method_2_code
def yX5_begin : MethodName := ⟨RX5, "begin", "(I)V"⟩
abbrev cX5_copyFrom : ByteArray := prog_7_method_3_code
def yX5_copyFrom : MethodName := ⟨RX5, "copyFrom", "(LIceBells$Lake;)V"⟩
abbrev cX5_hasLayer : ByteArray := prog_7_method_4_code
def yX5_hasLayer : MethodName := ⟨RX5, "hasLayer", "(I)Z"⟩
abbrev cX5_addLayer : ByteArray := prog_7_method_5_code
def yX5_addLayer : MethodName := ⟨RX5, "addLayer", "(II)I"⟩
abbrev cX5_iceByLayers : ByteArray := prog_7_method_6_code
def yX5_iceByLayers : MethodName := ⟨RX5, "iceByLayers", "()I"⟩
abbrev cX5_iceByHalves : ByteArray := prog_7_method_7_code
def yX5_iceByHalves : MethodName := ⟨RX5, "iceByHalves", "()I"⟩
abbrev cX5_sumOfHalves : ByteArray := prog_7_method_8_code
def yX5_sumOfHalves : MethodName := ⟨RX5, "sumOfHalves", "([IIII)I"⟩
abbrev cX5_layerContaining : ByteArray := prog_7_method_9_code
def yX5_layerContaining : MethodName := ⟨RX5, "layerContaining", "(I)I"⟩
abbrev cX5_temperatureSum : ByteArray := prog_7_method_10_code
def yX5_temperatureSum : MethodName := ⟨RX5, "temperatureSum", "()I"⟩
abbrev cX5_sumOfLayers : ByteArray := prog_7_method_11_code
def yX5_sumOfLayers : MethodName := ⟨RX5, "sumOfLayers", "([I)I"⟩
abbrev cX5_moveTemperatures : ByteArray := prog_7_method_12_code
def yX5_moveTemperatures : MethodName := ⟨RX5, "moveTemperatures", "(I)V"⟩
abbrev cX5_temperatureBeneath : ByteArray := prog_7_method_13_code
def yX5_temperatureBeneath : MethodName := ⟨RX5, "temperatureBeneath", "(I)I"⟩
abbrev cX5_addStrains : ByteArray := prog_7_method_14_code
def yX5_addStrains : MethodName := ⟨RX5, "addStrains", "()V"⟩
abbrev cX5_crackLayers : ByteArray := prog_7_method_15_code
def yX5_crackLayers : MethodName := ⟨RX5, "crackLayers", "(IILIceBells$Peals;)I"⟩
abbrev cX5_pushNeighbour : ByteArray := prog_7_method_16_code
def yX5_pushNeighbour : MethodName := ⟨RX5, "pushNeighbour", "(I)V"⟩
abbrev cX5_pitchOf : ByteArray := prog_7_method_17_code
def yX5_pitchOf : MethodName := ⟨RX5, "pitchOf", "(I)I"⟩
abbrev cX5_thawTop : ByteArray := prog_7_method_18_code
def yX5_thawTop : MethodName := ⟨RX5, "thawTop", "(I)I"⟩
abbrev cX5_dropTop : ByteArray := prog_7_method_19_code
def yX5_dropTop : MethodName := ⟨RX5, "dropTop", "()V"⟩
abbrev cX5_writeTo : ByteArray := prog_7_method_20_code
def yX5_writeTo : MethodName := ⟨RX5, "writeTo", "(Ljava/lang/StringBuilder;)V"⟩
def RX6 : String := "IceBells$Landscape"
def TX6 : u_T := fun k => match k with
  | 0 => ("IceBells$Landscape", "lakes", "[LIceBells$Lake;", true)
  | 1 => ("IceBells$Landscape", "lakeCount", "I", false)
  | 2 => ("IceBells$Landscape", "air", "I", false)
  | 3 => ("IceBells$Landscape", "hour", "I", false)
  | 4 => ("IceBells$Landscape", "frozen", "I", false)
  | 5 => ("IceBells$Landscape", "thawed", "I", false)
  | 6 => ("IceBells$Landscape", "windows", "LIceBells$Windows;", true)
  | _ => ("IceBells$Landscape", "peals", "LIceBells$Peals;", true)
def tyX6 : Nat → FieldType := fun k => match k with
  | 0 => .array (.object "IceBells$Lake")
  | 1 => .int
  | 2 => .int
  | 3 => .int
  | 4 => .int
  | 5 => .int
  | 6 => .object "IceBells$Windows"
  | _ => .object "IceBells$Peals"
abbrev wsX60 : List Cond := u_ws RX6 TX6 8
theorem nmX6 : ∀ a, a < 8 → ∀ b, b < 8 → a ≠ b → (TX6 a).2.1 ≠ (TX6 b).2.1 := by decide +kernel
theorem tyX6_ok : ∀ k, k < 8 → parseFieldDescriptor (TX6 k).2.2.1 = some (tyX6 k) := by decide +kernel
abbrev cX6_init : ByteArray := prog_8_method_1_code
def yX6_init : MethodName := ⟨RX6, "<init>", "()V"⟩
abbrev cX6_copyFrom : ByteArray := prog_8_method_2_code
def yX6_copyFrom : MethodName := ⟨RX6, "copyFrom", "(LIceBells$Landscape;)V"⟩
abbrev cX6_hasLake : ByteArray := prog_8_method_3_code
def yX6_hasLake : MethodName := ⟨RX6, "hasLake", "(I)Z"⟩
abbrev cX6_placeFault : ByteArray := prog_8_method_4_code
def yX6_placeFault : MethodName := ⟨RX6, "placeFault", "(I)C"⟩
abbrev cX6_placeLake : ByteArray := prog_8_method_5_code
def yX6_placeLake : MethodName := ⟨RX6, "placeLake", "(I)I"⟩
abbrev cX6_growFault : ByteArray := prog_8_method_6_code
def yX6_growFault : MethodName := ⟨RX6, "growFault", "(III)C"⟩
abbrev cX6_growLayer : ByteArray := prog_8_method_7_code
def yX6_growLayer : MethodName := ⟨RX6, "growLayer", "(III)I"⟩
abbrev cX6_airFault : ByteArray := prog_8_method_8_code
def yX6_airFault : MethodName := ⟨RX6, "airFault", "(I)C"⟩
abbrev cX6_changeAir : ByteArray := prog_8_method_9_code
def yX6_changeAir : MethodName := ⟨RX6, "changeAir", "(I)I"⟩
abbrev cX6_passFault : ByteArray := prog_8_method_10_code
def yX6_passFault : MethodName := ⟨RX6, "passFault", "(I)C"⟩
abbrev cX6_letHoursPass : ByteArray := prog_8_method_11_code
def yX6_letHoursPass : MethodName := ⟨RX6, "letHoursPass", "(I)I"⟩
abbrev cX6_letHourPass : ByteArray := prog_8_method_12_code
def yX6_letHourPass : MethodName := ⟨RX6, "letHourPass", "()I"⟩
abbrev cX6_windowFault : ByteArray := prog_8_method_13_code
def yX6_windowFault : MethodName := ⟨RX6, "windowFault", "(II)C"⟩
abbrev cX6_openFault : ByteArray := prog_8_method_14_code
def yX6_openFault : MethodName := ⟨RX6, "openFault", "(I)C"⟩
abbrev cX6_ringFault : ByteArray := prog_8_method_15_code
def yX6_ringFault : MethodName := ⟨RX6, "ringFault", "(II)C"⟩
abbrev cX6_ring : ByteArray := prog_8_method_16_code
def yX6_ring : MethodName := ⟨RX6, "ring", "(II)I"⟩
abbrev cX6_commandFault : ByteArray := prog_8_method_17_code
def yX6_commandFault : MethodName := ⟨RX6, "commandFault", "(LIceBells$Command;)C"⟩
abbrev cX6_carryOut : ByteArray := prog_8_method_18_code
def yX6_carryOut : MethodName := ⟨RX6, "carryOut", "(LIceBells$Command;)V"⟩
abbrev cX6_lakeRanked : ByteArray := prog_8_method_19_code
def yX6_lakeRanked : MethodName := ⟨RX6, "lakeRanked", "(I)I"⟩
abbrev cX6_rankOf : ByteArray := prog_8_method_20_code
def yX6_rankOf : MethodName := ⟨RX6, "rankOf", "(I)I"⟩
abbrev cX6_ranksBefore : ByteArray := prog_8_method_21_code
def yX6_ranksBefore : MethodName := ⟨RX6, "ranksBefore", "(II)Z"⟩
abbrev cX6_allCracks : ByteArray := prog_8_method_22_code
def yX6_allCracks : MethodName := ⟨RX6, "allCracks", "()I"⟩
abbrev cX6_allIce : ByteArray := prog_8_method_23_code
def yX6_allIce : MethodName := ⟨RX6, "allIce", "()I"⟩
abbrev cX6_bothSumsAgree : ByteArray := prog_8_method_24_code
def yX6_bothSumsAgree : MethodName := ⟨RX6, "bothSumsAgree", "()Z"⟩
def RX7 : String := "IceBells$Peals"
def TX7 : u_T := fun k => match k with
  | 0 => ("IceBells$Peals", "kind", "[C", true)
  | 1 => ("IceBells$Peals", "lake", "[I", true)
  | 2 => ("IceBells$Peals", "pitch", "[I", true)
  | 3 => ("IceBells$Peals", "hour", "[I", true)
  | 4 => ("IceBells$Peals", "count", "I", false)
  | _ => ("IceBells$Peals", "next", "I", false)
def tyX7 : Nat → FieldType := fun k => match k with
  | 0 => .array .char
  | 1 => .array .int
  | 2 => .array .int
  | 3 => .array .int
  | 4 => .int
  | _ => .int
abbrev wsX70 : List Cond := u_ws RX7 TX7 6
theorem nmX7 : ∀ a, a < 6 → ∀ b, b < 6 → a ≠ b → (TX7 a).2.1 ≠ (TX7 b).2.1 := by decide +kernel
theorem tyX7_ok : ∀ k, k < 6 → parseFieldDescriptor (TX7 k).2.2.1 = some (tyX7 k) := by decide +kernel
abbrev cX7_init : ByteArray := prog_9_method_1_code
def yX7_init : MethodName := ⟨RX7, "<init>", "()V"⟩
abbrev cX7_copyFrom : ByteArray := prog_9_method_2_code
def yX7_copyFrom : MethodName := ⟨RX7, "copyFrom", "(LIceBells$Peals;)V"⟩
abbrev cX7_record : ByteArray := prog_9_method_3_code
def yX7_record : MethodName := ⟨RX7, "record", "(CIII)V"⟩
abbrev cX7_slotOf : ByteArray := prog_9_method_4_code
def yX7_slotOf : MethodName := ⟨RX7, "slotOf", "(I)I"⟩
abbrev cX7_pairsByComparing : ByteArray := prog_9_method_5_code
def yX7_pairsByComparing : MethodName := ⟨RX7, "pairsByComparing", "()I"⟩
abbrev cX7_pairsByCounting : ByteArray := prog_9_method_6_code
def yX7_pairsByCounting : MethodName := ⟨RX7, "pairsByCounting", "([I)I"⟩
abbrev cX7_differentPitches : ByteArray := prog_9_method_7_code
def yX7_differentPitches : MethodName := ⟨RX7, "differentPitches", "([I)I"⟩
abbrev cX7_countPitches : ByteArray := prog_9_method_8_code
def yX7_countPitches : MethodName := ⟨RX7, "countPitches", "([I)V"⟩
def RX8 : String := "IceBells$Windows"
def TX8 : u_T := fun k => match k with
  | 0 => ("IceBells$Windows", "first", "[I", true)
  | 1 => ("IceBells$Windows", "last", "[I", true)
  | _ => ("IceBells$Windows", "count", "I", false)
def tyX8 : Nat → FieldType := fun k => match k with
  | 0 => .array .int
  | 1 => .array .int
  | _ => .int
abbrev wsX80 : List Cond := u_ws RX8 TX8 3
theorem nmX8 : ∀ a, a < 3 → ∀ b, b < 3 → a ≠ b → (TX8 a).2.1 ≠ (TX8 b).2.1 := by decide +kernel
theorem tyX8_ok : ∀ k, k < 3 → parseFieldDescriptor (TX8 k).2.2.1 = some (tyX8 k) := by decide +kernel
abbrev cX8_init : ByteArray := prog_10_method_1_code
def yX8_init : MethodName := ⟨RX8, "<init>", "()V"⟩
abbrev cX8_copyFrom : ByteArray := prog_10_method_2_code
def yX8_copyFrom : MethodName := ⟨RX8, "copyFrom", "(LIceBells$Windows;)V"⟩
abbrev cX8_hasPosition : ByteArray := prog_10_method_3_code
def yX8_hasPosition : MethodName := ⟨RX8, "hasPosition", "(I)Z"⟩
abbrev cX8_contain : ByteArray := prog_10_method_4_code
def yX8_contain : MethodName := ⟨RX8, "contain", "(I)Z"⟩
abbrev cX8_meet : ByteArray := prog_10_method_5_code
def yX8_meet : MethodName := ⟨RX8, "meet", "(II)Z"⟩
abbrev cX8_insert : ByteArray := prog_10_method_6_code
def yX8_insert : MethodName := ⟨RX8, "insert", "(II)I"⟩
abbrev cX8_removeAt : ByteArray := prog_10_method_7_code
def yX8_removeAt : MethodName := ⟨RX8, "removeAt", "(I)I"⟩
def RX9 : String := "IceBells"
def TX9 : u_T := fun k => match k with
  | 0 => ("IceBells", "now", "LIceBells$Landscape;", true)
  | 1 => ("IceBells", "trial", "LIceBells$Landscape;", true)
  | 2 => ("IceBells", "snapshot", "LIceBells$Landscape;", true)
  | 3 => ("IceBells", "hasSnapshot", "Z", false)
  | 4 => ("IceBells", "history", "LIceBells$History;", true)
  | 5 => ("IceBells", "commandText", "LIceBells$CommandText;", true)
  | 6 => ("IceBells", "errorPosition", "I", false)
  | 7 => ("IceBells", "failedCommand", "I", false)
  | 8 => ("IceBells", "failureKind", "C", false)
  | 9 => ("IceBells", "line", "Ljava/lang/StringBuilder;", true)
  | _ => ("IceBells", "pitchTally", "[I", true)
def tyX9 : Nat → FieldType := fun k => match k with
  | 0 => .object "IceBells$Landscape"
  | 1 => .object "IceBells$Landscape"
  | 2 => .object "IceBells$Landscape"
  | 3 => .boolean
  | 4 => .object "IceBells$History"
  | 5 => .object "IceBells$CommandText"
  | 6 => .int
  | 7 => .int
  | 8 => .char
  | 9 => .object "java/lang/StringBuilder"
  | _ => .array .int
abbrev wsX90 : List Cond := u_ws RX9 TX9 11
theorem nmX9 : ∀ a, a < 11 → ∀ b, b < 11 → a ≠ b → (TX9 a).2.1 ≠ (TX9 b).2.1 := by decide +kernel
theorem tyX9_ok : ∀ k, k < 11 → parseFieldDescriptor (TX9 k).2.2.1 = some (tyX9 k) := by decide +kernel
abbrev cX9_init : ByteArray := prog_1_method_1_code
def yX9_init : MethodName := ⟨RX9, "<init>", "()V"⟩
abbrev cX9_addLake : ByteArray := prog_1_method_2_code
def yX9_addLake : MethodName := ⟨RX9, "addLake", "(I)I"⟩
abbrev cX9_freeze : ByteArray := prog_1_method_3_code
def yX9_freeze : MethodName := ⟨RX9, "freeze", "(III)I"⟩
abbrev cX9_lakeCount : ByteArray := prog_1_method_4_code
def yX9_lakeCount : MethodName := ⟨RX9, "lakeCount", "()I"⟩
abbrev cX9_depth : ByteArray := prog_1_method_5_code
def yX9_depth : MethodName := ⟨RX9, "depth", "(I)I"⟩
abbrev cX9_layerCount : ByteArray := prog_1_method_6_code
def yX9_layerCount : MethodName := ⟨RX9, "layerCount", "(I)I"⟩
abbrev cX9_thickness : ByteArray := prog_1_method_7_code
def yX9_thickness : MethodName := ⟨RX9, "thickness", "(II)I"⟩
abbrev cX9_temperature : ByteArray := prog_1_method_8_code
def yX9_temperature : MethodName := ⟨RX9, "temperature", "(II)I"⟩
abbrev cX9_strain : ByteArray := prog_1_method_9_code
def yX9_strain : MethodName := ⟨RX9, "strain", "(II)I"⟩
abbrev cX9_iceThickness : ByteArray := prog_1_method_10_code
def yX9_iceThickness : MethodName := ⟨RX9, "iceThickness", "(I)I"⟩
abbrev cX9_iceThicknessByHalves : ByteArray := prog_1_method_11_code
def yX9_iceThicknessByHalves : MethodName := ⟨RX9, "iceThicknessByHalves", "(I)I"⟩
abbrev cX9_layerAt : ByteArray := prog_1_method_12_code
def yX9_layerAt : MethodName := ⟨RX9, "layerAt", "(II)I"⟩
abbrev cX9_setAir : ByteArray := prog_1_method_13_code
def yX9_setAir : MethodName := ⟨RX9, "setAir", "(I)I"⟩
abbrev cX9_air : ByteArray := prog_1_method_14_code
def yX9_air : MethodName := ⟨RX9, "air", "()I"⟩
abbrev cX9_pass : ByteArray := prog_1_method_15_code
def yX9_pass : MethodName := ⟨RX9, "pass", "(I)I"⟩
abbrev cX9_hour : ByteArray := prog_1_method_16_code
def yX9_hour : MethodName := ⟨RX9, "hour", "()I"⟩
abbrev cX9_hoursUntilCrack : ByteArray := prog_1_method_17_code
def yX9_hoursUntilCrack : MethodName := ⟨RX9, "hoursUntilCrack", "()I"⟩
abbrev cX9_hoursUntilThawed : ByteArray := prog_1_method_18_code
def yX9_hoursUntilThawed : MethodName := ⟨RX9, "hoursUntilThawed", "(I)I"⟩
abbrev cX9_addWindow : ByteArray := prog_1_method_19_code
def yX9_addWindow : MethodName := ⟨RX9, "addWindow", "(II)I"⟩
abbrev cX9_removeWindow : ByteArray := prog_1_method_20_code
def yX9_removeWindow : MethodName := ⟨RX9, "removeWindow", "(I)I"⟩
abbrev cX9_windowCount : ByteArray := prog_1_method_21_code
def yX9_windowCount : MethodName := ⟨RX9, "windowCount", "()I"⟩
abbrev cX9_windowFirst : ByteArray := prog_1_method_22_code
def yX9_windowFirst : MethodName := ⟨RX9, "windowFirst", "(I)I"⟩
abbrev cX9_windowLast : ByteArray := prog_1_method_23_code
def yX9_windowLast : MethodName := ⟨RX9, "windowLast", "(I)I"⟩
abbrev cX9_isInWindow : ByteArray := prog_1_method_24_code
def yX9_isInWindow : MethodName := ⟨RX9, "isInWindow", "(I)Z"⟩
abbrev cX9_strike : ByteArray := prog_1_method_25_code
def yX9_strike : MethodName := ⟨RX9, "strike", "(II)I"⟩
abbrev cX9_pitch : ByteArray := prog_1_method_26_code
def yX9_pitch : MethodName := ⟨RX9, "pitch", "(II)I"⟩
abbrev cX9_pealCount : ByteArray := prog_1_method_27_code
def yX9_pealCount : MethodName := ⟨RX9, "pealCount", "()I"⟩
abbrev cX9_pealKind : ByteArray := prog_1_method_28_code
def yX9_pealKind : MethodName := ⟨RX9, "pealKind", "(I)C"⟩
abbrev cX9_pealLake : ByteArray := prog_1_method_29_code
def yX9_pealLake : MethodName := ⟨RX9, "pealLake", "(I)I"⟩
abbrev cX9_pealPitch : ByteArray := prog_1_method_30_code
def yX9_pealPitch : MethodName := ⟨RX9, "pealPitch", "(I)I"⟩
abbrev cX9_pealHour : ByteArray := prog_1_method_31_code
def yX9_pealHour : MethodName := ⟨RX9, "pealHour", "(I)I"⟩
abbrev cX9_echoPairs : ByteArray := prog_1_method_32_code
def yX9_echoPairs : MethodName := ⟨RX9, "echoPairs", "()I"⟩
abbrev cX9_echoPairsByPitch : ByteArray := prog_1_method_33_code
def yX9_echoPairsByPitch : MethodName := ⟨RX9, "echoPairsByPitch", "()I"⟩
abbrev cX9_pitchCount : ByteArray := prog_1_method_34_code
def yX9_pitchCount : MethodName := ⟨RX9, "pitchCount", "()I"⟩
abbrev cX9_cracksOf : ByteArray := prog_1_method_35_code
def yX9_cracksOf : MethodName := ⟨RX9, "cracksOf", "(I)I"⟩
abbrev cX9_lakeAtRank : ByteArray := prog_1_method_36_code
def yX9_lakeAtRank : MethodName := ⟨RX9, "lakeAtRank", "(I)I"⟩
abbrev cX9_frozenTotal : ByteArray := prog_1_method_37_code
def yX9_frozenTotal : MethodName := ⟨RX9, "frozenTotal", "()I"⟩
abbrev cX9_thawedTotal : ByteArray := prog_1_method_38_code
def yX9_thawedTotal : MethodName := ⟨RX9, "thawedTotal", "()I"⟩
abbrev cX9_crackTotal : ByteArray := prog_1_method_39_code
def yX9_crackTotal : MethodName := ⟨RX9, "crackTotal", "()I"⟩
abbrev cX9_run : ByteArray := prog_1_method_41_code
def yX9_run : MethodName := ⟨RX9, "run", "()I"⟩
abbrev cX9_errorPosition : ByteArray := prog_1_method_42_code
def yX9_errorPosition : MethodName := ⟨RX9, "errorPosition", "()I"⟩
abbrev cX9_failedCommand : ByteArray := prog_1_method_43_code
def yX9_failedCommand : MethodName := ⟨RX9, "failedCommand", "()I"⟩
abbrev cX9_failureKind : ByteArray := prog_1_method_44_code
def yX9_failureKind : MethodName := ⟨RX9, "failureKind", "()C"⟩
abbrev cX9_describeLake : ByteArray := prog_1_method_45_code
def yX9_describeLake : MethodName := ⟨RX9, "describeLake", "(I)I"⟩
abbrev cX9_lineAt : ByteArray := prog_1_method_46_code
def yX9_lineAt : MethodName := ⟨RX9, "lineAt", "(I)C"⟩
abbrev cX9_meanTemperature : ByteArray := prog_1_method_47_code
def yX9_meanTemperature : MethodName := ⟨RX9, "meanTemperature", "(I)D"⟩
abbrev cX9_iceShare : ByteArray := prog_1_method_48_code
def yX9_iceShare : MethodName := ⟨RX9, "iceShare", "(I)F"⟩
abbrev cX9_isConsistent : ByteArray := prog_1_method_49_code
def yX9_isConsistent : MethodName := ⟨RX9, "isConsistent", "()Z"⟩
abbrev cX9_save : ByteArray := prog_1_method_51_code
def yX9_save : MethodName := ⟨RX9, "save", "()I"⟩
abbrev cX9_restore : ByteArray := prog_1_method_52_code
def yX9_restore : MethodName := ⟨RX9, "restore", "()I"⟩
abbrev cX9_lakeNumbered : ByteArray := prog_1_method_53_code
def yX9_lakeNumbered : MethodName := ⟨RX9, "lakeNumbered", "(I)LIceBells$Lake;"⟩
abbrev cX9_lakeWithLayer : ByteArray := prog_1_method_54_code
def yX9_lakeWithLayer : MethodName := ⟨RX9, "lakeWithLayer", "(II)LIceBells$Lake;"⟩
abbrev cX9_pealSlot : ByteArray := prog_1_method_55_code
def yX9_pealSlot : MethodName := ⟨RX9, "pealSlot", "(I)I"⟩
abbrev cX9_refuseOn : ByteArray := prog_1_method_56_code
def yX9_refuseOn : MethodName := ⟨RX9, "refuseOn", "(C)V"⟩
def RX10 : String := "IceBellsModel"
def TX10 : u_T := fun k => match k with
  | _ => ("", "", "", false)
def tyX10 : Nat → FieldType := fun k => match k with
  | _ => .int
abbrev wsX100 : List Cond := u_ws RX10 TX10 0
theorem nmX10 : ∀ a, a < 0 → ∀ b, b < 0 → a ≠ b → (TX10 a).2.1 ≠ (TX10 b).2.1 := by decide +kernel
theorem tyX10_ok : ∀ k, k < 0 → parseFieldDescriptor (TX10 k).2.2.1 = some (tyX10 k) := by decide +kernel
def RJx145de : String := "java/io/Serializable"
def TJx145de : u_T := fun k => match k with
  | _ => ("", "", "", false)
def tyJx145de : Nat → FieldType := fun k => match k with
  | _ => .int
abbrev wsJx145de0 : List Cond := u_ws RJx145de TJx145de 0
theorem nmJx145de : ∀ a, a < 0 → ∀ b, b < 0 → a ≠ b → (TJx145de a).2.1 ≠ (TJx145de b).2.1 := by decide +kernel
theorem tyJx145de_ok : ∀ k, k < 0 → parseFieldDescriptor (TJx145de k).2.2.1 = some (tyJx145de k) := by decide +kernel
def RJ5 : String := "java/lang/AbstractStringBuilder"
def TJ5 : u_T := fun k => match k with
  | _ => ("", "", "", false)
def tyJ5 : Nat → FieldType := fun k => match k with
  | _ => .int
abbrev wsJ50 : List Cond := u_ws RJ5 TJ5 0
theorem nmJ5 : ∀ a, a < 0 → ∀ b, b < 0 → a ≠ b → (TJ5 a).2.1 ≠ (TJ5 b).2.1 := by decide +kernel
theorem tyJ5_ok : ∀ k, k < 0 → parseFieldDescriptor (TJ5 k).2.2.1 = some (tyJ5 k) := by decide +kernel
abbrev cJ5_init_d00df : ByteArray := prog_14_method_2_code
def yJ5_init_d00df : MethodName := ⟨RJ5, "<init>", "(I)V"⟩
abbrev cJ5_length_8abf5 : ByteArray := prog_14_method_6_code
def yJ5_length_8abf5 : MethodName := ⟨RJ5, "length", "()I"⟩
abbrev cJ5_ensureCapacityInternal_d00df : ByteArray := prog_14_method_9_code
def yJ5_ensureCapacityInternal_d00df : MethodName := ⟨RJ5, "ensureCapacityInternal", "(I)V"⟩
abbrev cJ5_newCapacity_0f7a4 : ByteArray := prog_14_method_10_code
def yJ5_newCapacity_0f7a4 : MethodName := ⟨RJ5, "newCapacity", "(I)I"⟩
abbrev cJ5_inflate_da8c8 : ByteArray := prog_14_method_11_code
def yJ5_inflate_da8c8 : MethodName := ⟨RJ5, "inflate", "()V"⟩
abbrev cJ5_setLength_d00df : ByteArray := prog_14_method_13_code
def yJ5_setLength_d00df : MethodName := ⟨RJ5, "setLength", "(I)V"⟩
abbrev cJ5_charAt_5068e : ByteArray := prog_14_method_14_code
def yJ5_charAt_5068e : MethodName := ⟨RJ5, "charAt", "(I)C"⟩
abbrev cJ5_append_cf1ce : ByteArray := prog_14_method_22_code
def yJ5_append_cf1ce : MethodName := ⟨RJ5, "append", "(Ljava/lang/String;)Ljava/lang/AbstractStringBuilder;"⟩
abbrev cJ5_appendNull_278bc : ByteArray := prog_14_method_26_code
def yJ5_appendNull_278bc : MethodName := ⟨RJ5, "appendNull", "()Ljava/lang/AbstractStringBuilder;"⟩
abbrev cJ5_append_3fe6f : ByteArray := prog_14_method_31_code
def yJ5_append_3fe6f : MethodName := ⟨RJ5, "append", "(C)Ljava/lang/AbstractStringBuilder;"⟩
abbrev cJ5_append_c97b9 : ByteArray := prog_14_method_32_code
def yJ5_append_c97b9 : MethodName := ⟨RJ5, "append", "(I)Ljava/lang/AbstractStringBuilder;"⟩
abbrev cJ5_getValue_6d5f1 : ByteArray := prog_14_method_64_code
def yJ5_getValue_6d5f1 : MethodName := ⟨RJ5, "getValue", "()[B"⟩
abbrev cJ5_isLatin1_aae02 : ByteArray := prog_14_method_68_code
def yJ5_isLatin1_aae02 : MethodName := ⟨RJ5, "isLatin1", "()Z"⟩
abbrev cJ5_inflateIfNeededFor_a7421 : ByteArray := prog_14_method_71_code
def yJ5_inflateIfNeededFor_a7421 : MethodName := ⟨RJ5, "inflateIfNeededFor", "(Ljava/lang/String;)V"⟩
abbrev cJ5_putStringAt_47b60 : ByteArray := prog_14_method_73_code
def yJ5_putStringAt_47b60 : MethodName := ⟨RJ5, "putStringAt", "(ILjava/lang/String;)V"⟩
def RJx2cfe8 : String := "java/lang/Appendable"
def TJx2cfe8 : u_T := fun k => match k with
  | _ => ("", "", "", false)
def tyJx2cfe8 : Nat → FieldType := fun k => match k with
  | _ => .int
abbrev wsJx2cfe80 : List Cond := u_ws RJx2cfe8 TJx2cfe8 0
theorem nmJx2cfe8 : ∀ a, a < 0 → ∀ b, b < 0 → a ≠ b → (TJx2cfe8 a).2.1 ≠ (TJx2cfe8 b).2.1 := by decide +kernel
theorem tyJx2cfe8_ok : ∀ k, k < 0 → parseFieldDescriptor (TJx2cfe8 k).2.2.1 = some (tyJx2cfe8 k) := by decide +kernel
def RJx00060 : String := "java/lang/ArrayIndexOutOfBoundsException"
def TJx00060 : u_T := fun k => match k with
  | 0 => ("java/lang/Throwable", "backtrace", "Ljava/lang/Object;", false)
  | 1 => ("java/lang/Throwable", "detailMessage", "Ljava/lang/String;", false)
  | 2 => ("java/lang/Throwable", "cause", "Ljava/lang/Throwable;", false)
  | 3 => ("java/lang/Throwable", "stackTrace", "[Ljava/lang/StackTraceElement;", false)
  | 4 => ("java/lang/Throwable", "depth", "I", false)
  | _ => ("java/lang/Throwable", "suppressedExceptions", "Ljava/util/List;", false)
def tyJx00060 : Nat → FieldType := fun k => match k with
  | 0 => .object "java/lang/Object"
  | 1 => .object "java/lang/String"
  | 2 => .object "java/lang/Throwable"
  | 3 => .array (.object "java/lang/StackTraceElement")
  | 4 => .int
  | _ => .object "java/util/List"
abbrev wsJx000600 : List Cond := u_ws RJx00060 TJx00060 6
theorem nmJx00060 : ∀ a, a < 6 → ∀ b, b < 6 → a ≠ b → (TJx00060 a).2.1 ≠ (TJx00060 b).2.1 := by decide +kernel
theorem tyJx00060_ok : ∀ k, k < 6 → parseFieldDescriptor (TJx00060 k).2.2.1 = some (tyJx00060 k) := by decide +kernel
abbrev cJx00060_init_a7421 : ByteArray := prog_17_method_2_code
def yJx00060_init_a7421 : MethodName := ⟨RJx00060, "<init>", "(Ljava/lang/String;)V"⟩
abbrev cJx00060_init_d00df : ByteArray := prog_17_method_3_code
def yJx00060_init_d00df : MethodName := ⟨RJx00060, "<init>", "(I)V"⟩
def RJx9f9b0 : String := "java/lang/CharSequence"
def TJx9f9b0 : u_T := fun k => match k with
  | _ => ("", "", "", false)
def tyJx9f9b0 : Nat → FieldType := fun k => match k with
  | _ => .int
abbrev wsJx9f9b00 : List Cond := u_ws RJx9f9b0 TJx9f9b0 0
theorem nmJx9f9b0 : ∀ a, a < 0 → ∀ b, b < 0 → a ≠ b → (TJx9f9b0 a).2.1 ≠ (TJx9f9b0 b).2.1 := by decide +kernel
theorem tyJx9f9b0_ok : ∀ k, k < 0 → parseFieldDescriptor (TJx9f9b0 k).2.2.1 = some (tyJx9f9b0 k) := by decide +kernel
def RJx8e188 : String := "java/lang/Cloneable"
def TJx8e188 : u_T := fun k => match k with
  | _ => ("", "", "", false)
def tyJx8e188 : Nat → FieldType := fun k => match k with
  | _ => .int
abbrev wsJx8e1880 : List Cond := u_ws RJx8e188 TJx8e188 0
theorem nmJx8e188 : ∀ a, a < 0 → ∀ b, b < 0 → a ≠ b → (TJx8e188 a).2.1 ≠ (TJx8e188 b).2.1 := by decide +kernel
theorem tyJx8e188_ok : ∀ k, k < 0 → parseFieldDescriptor (TJx8e188 k).2.2.1 = some (tyJx8e188 k) := by decide +kernel
def RJxb160c : String := "java/lang/Comparable"
def TJxb160c : u_T := fun k => match k with
  | _ => ("", "", "", false)
def tyJxb160c : Nat → FieldType := fun k => match k with
  | _ => .int
abbrev wsJxb160c0 : List Cond := u_ws RJxb160c TJxb160c 0
theorem nmJxb160c : ∀ a, a < 0 → ∀ b, b < 0 → a ≠ b → (TJxb160c a).2.1 ≠ (TJxb160c b).2.1 := by decide +kernel
theorem tyJxb160c_ok : ∀ k, k < 0 → parseFieldDescriptor (TJxb160c k).2.2.1 = some (tyJxb160c k) := by decide +kernel
def RJx29ce0 : String := "java/lang/Enum"
def TJx29ce0 : u_T := fun k => match k with
  | _ => ("", "", "", false)
def tyJx29ce0 : Nat → FieldType := fun k => match k with
  | _ => .int
abbrev wsJx29ce00 : List Cond := u_ws RJx29ce0 TJx29ce0 0
theorem nmJx29ce0 : ∀ a, a < 0 → ∀ b, b < 0 → a ≠ b → (TJx29ce0 a).2.1 ≠ (TJx29ce0 b).2.1 := by decide +kernel
theorem tyJx29ce0_ok : ∀ k, k < 0 → parseFieldDescriptor (TJx29ce0 k).2.2.1 = some (tyJx29ce0 k) := by decide +kernel
abbrev cJx29ce0_ordinal_8abf5 : ByteArray := prog_21_method_2_code
def yJx29ce0_ordinal_8abf5 : MethodName := ⟨RJx29ce0, "ordinal", "()I"⟩
def RJ6 : String := "java/lang/Integer"
def TJ6 : u_T := fun k => match k with
  | _ => ("", "", "", false)
def tyJ6 : Nat → FieldType := fun k => match k with
  | _ => .int
abbrev wsJ60 : List Cond := u_ws RJ6 TJ6 0
theorem nmJ6 : ∀ a, a < 0 → ∀ b, b < 0 → a ≠ b → (TJ6 a).2.1 ≠ (TJ6 b).2.1 := by decide +kernel
theorem tyJ6_ok : ∀ k, k < 0 → parseFieldDescriptor (TJ6 k).2.2.1 = some (tyJ6 k) := by decide +kernel
abbrev cJ6_getChars_ba4f3 : ByteArray := prog_26_method_12_code
def yJ6_getChars_ba4f3 : MethodName := ⟨RJ6, "getChars", "(II[B)I"⟩
abbrev cJ6_stringSize_0f7a4 : ByteArray := prog_26_method_13_code
def yJ6_stringSize_0f7a4 : MethodName := ⟨RJ6, "stringSize", "(I)I"⟩
def RJ9 : String := "java/lang/Math"
def TJ9 : u_T := fun k => match k with
  | _ => ("", "", "", false)
def tyJ9 : Nat → FieldType := fun k => match k with
  | _ => .int
abbrev wsJ90 : List Cond := u_ws RJ9 TJ9 0
theorem nmJ9 : ∀ a, a < 0 → ∀ b, b < 0 → a ≠ b → (TJ9 a).2.1 ≠ (TJ9 b).2.1 := by decide +kernel
theorem tyJ9_ok : ∀ k, k < 0 → parseFieldDescriptor (TJ9 k).2.2.1 = some (tyJ9 k) := by decide +kernel
abbrev cJ9_floorMod_7cf53 : ByteArray := prog_27_method_50_code
def yJ9_floorMod_7cf53 : MethodName := ⟨RJ9, "floorMod", "(II)I"⟩
abbrev cJ9_abs_0f7a4 : ByteArray := prog_27_method_59_code
def yJ9_abs_0f7a4 : MethodName := ⟨RJ9, "abs", "(I)I"⟩
abbrev cJ9_max_7cf53 : ByteArray := prog_27_method_65_code
def yJ9_max_7cf53 : MethodName := ⟨RJ9, "max", "(II)I"⟩
abbrev cJ9_min_7cf53 : ByteArray := prog_27_method_69_code
def yJ9_min_7cf53 : MethodName := ⟨RJ9, "min", "(II)I"⟩
def RJxd2413 : String := "java/lang/Number"
def TJxd2413 : u_T := fun k => match k with
  | _ => ("", "", "", false)
def tyJxd2413 : Nat → FieldType := fun k => match k with
  | _ => .int
abbrev wsJxd24130 : List Cond := u_ws RJxd2413 TJxd2413 0
theorem nmJxd2413 : ∀ a, a < 0 → ∀ b, b < 0 → a ≠ b → (TJxd2413 a).2.1 ≠ (TJxd2413 b).2.1 := by decide +kernel
theorem tyJxd2413_ok : ∀ k, k < 0 → parseFieldDescriptor (TJxd2413 k).2.2.1 = some (tyJxd2413 k) := by decide +kernel
def RJ0 : String := "java/lang/String"
def TJ0 : u_T := fun k => match k with
  | 0 => ("java/lang/String", "value", "[B", true)
  | 1 => ("java/lang/String", "coder", "B", true)
  | 2 => ("java/lang/String", "hash", "I", false)
  | _ => ("java/lang/String", "hashIsZero", "Z", false)
def tyJ0 : Nat → FieldType := fun k => match k with
  | 0 => .array .byte
  | 1 => .byte
  | 2 => .int
  | _ => .boolean
abbrev wsJ00 : List Cond := u_ws RJ0 TJ0 4
theorem nmJ0 : ∀ a, a < 4 → ∀ b, b < 4 → a ≠ b → (TJ0 a).2.1 ≠ (TJ0 b).2.1 := by decide +kernel
theorem tyJ0_ok : ∀ k, k < 4 → parseFieldDescriptor (TJ0 k).2.2.1 = some (tyJ0 k) := by decide +kernel
abbrev cJ0_init_81219 : ByteArray := prog_30_method_53_code
def yJ0_init_81219 : MethodName := ⟨RJ0, "<init>", "(Ljava/lang/StringBuilder;)V"⟩
abbrev cJ0_length_8abf5 : ByteArray := prog_30_method_54_code
def yJ0_length_8abf5 : MethodName := ⟨RJ0, "length", "()I"⟩
abbrev cJ0_isEmpty_aae02 : ByteArray := prog_30_method_55_code
def yJ0_isEmpty_aae02 : MethodName := ⟨RJ0, "isEmpty", "()Z"⟩
abbrev cJ0_charAt_5068e : ByteArray := prog_30_method_56_code
def yJ0_charAt_5068e : MethodName := ⟨RJ0, "charAt", "(I)C"⟩
abbrev cJ0_getBytes_840e7 : ByteArray := prog_30_method_147_code
def yJ0_getBytes_840e7 : MethodName := ⟨RJ0, "getBytes", "([BIB)V"⟩
abbrev cJ0_init_db425 : ByteArray := prog_30_method_150_code
def yJ0_init_db425 : MethodName := ⟨RJ0, "<init>", "(Ljava/lang/AbstractStringBuilder;Ljava/lang/Void;)V"⟩
abbrev cJ0_coder_7d493 : ByteArray := prog_30_method_152_code
def yJ0_coder_7d493 : MethodName := ⟨RJ0, "coder", "()B"⟩
abbrev cJ0_isLatin1_aae02 : ByteArray := prog_30_method_154_code
def yJ0_isLatin1_aae02 : MethodName := ⟨RJ0, "isLatin1", "()Z"⟩
abbrev cJ0_checkIndex_df160 : ByteArray := prog_30_method_155_code
def yJ0_checkIndex_df160 : MethodName := ⟨RJ0, "checkIndex", "(II)V"⟩
abbrev cJ0_checkBoundsOffCount_cabcc : ByteArray := prog_30_method_157_code
def yJ0_checkBoundsOffCount_cabcc : MethodName := ⟨RJ0, "checkBoundsOffCount", "(III)I"⟩
abbrev cJ0_checkBoundsBeginEnd_23922 : ByteArray := prog_30_method_158_code
def yJ0_checkBoundsBeginEnd_23922 : MethodName := ⟨RJ0, "checkBoundsBeginEnd", "(III)V"⟩
def RJ4 : String := "java/lang/StringBuilder"
def TJ4 : u_T := fun k => match k with
  | 0 => ("java/lang/AbstractStringBuilder", "value", "[B", false)
  | 1 => ("java/lang/AbstractStringBuilder", "coder", "B", false)
  | 2 => ("java/lang/AbstractStringBuilder", "maybeLatin1", "Z", false)
  | _ => ("java/lang/AbstractStringBuilder", "count", "I", false)
def tyJ4 : Nat → FieldType := fun k => match k with
  | 0 => .array .byte
  | 1 => .byte
  | 2 => .boolean
  | _ => .int
abbrev wsJ40 : List Cond := u_ws RJ4 TJ4 4
theorem nmJ4 : ∀ a, a < 4 → ∀ b, b < 4 → a ≠ b → (TJ4 a).2.1 ≠ (TJ4 b).2.1 := by decide +kernel
theorem tyJ4_ok : ∀ k, k < 4 → parseFieldDescriptor (TJ4 k).2.2.1 = some (tyJ4 k) := by decide +kernel
abbrev cJ4_init_da8c8 : ByteArray := prog_31_method_1_code
def yJ4_init_da8c8 : MethodName := ⟨RJ4, "<init>", "()V"⟩
abbrev cJ4_append_15ec4 : ByteArray := prog_31_method_7_code
def yJ4_append_15ec4 : MethodName := ⟨RJ4, "append", "(Ljava/lang/String;)Ljava/lang/StringBuilder;"⟩
abbrev cJ4_append_cf468 : ByteArray := prog_31_method_14_code
def yJ4_append_cf468 : MethodName := ⟨RJ4, "append", "(C)Ljava/lang/StringBuilder;"⟩
abbrev cJ4_append_bf812 : ByteArray := prog_31_method_15_code
def yJ4_append_bf812 : MethodName := ⟨RJ4, "append", "(I)Ljava/lang/StringBuilder;"⟩
abbrev cJ4_toString_0e30d : ByteArray := prog_31_method_42_code
def yJ4_toString_0e30d : MethodName := ⟨RJ4, "toString", "()Ljava/lang/String;"⟩
abbrev cJ4_charAt_5068e : ByteArray := prog_31_method_88_code
def yJ4_charAt_5068e : MethodName := ⟨RJ4, "charAt", "(I)C"⟩
abbrev cJ4_setLength_d00df : ByteArray := prog_31_method_89_code
def yJ4_setLength_d00df : MethodName := ⟨RJ4, "setLength", "(I)V"⟩
abbrev cJ4_length_8abf5 : ByteArray := prog_31_method_93_code
def yJ4_length_8abf5 : MethodName := ⟨RJ4, "length", "()I"⟩
def RJx7c733 : String := "java/lang/StringIndexOutOfBoundsException"
def TJx7c733 : u_T := fun k => match k with
  | 0 => ("java/lang/Throwable", "backtrace", "Ljava/lang/Object;", false)
  | 1 => ("java/lang/Throwable", "detailMessage", "Ljava/lang/String;", false)
  | 2 => ("java/lang/Throwable", "cause", "Ljava/lang/Throwable;", false)
  | 3 => ("java/lang/Throwable", "stackTrace", "[Ljava/lang/StackTraceElement;", false)
  | 4 => ("java/lang/Throwable", "depth", "I", false)
  | _ => ("java/lang/Throwable", "suppressedExceptions", "Ljava/util/List;", false)
def tyJx7c733 : Nat → FieldType := fun k => match k with
  | 0 => .object "java/lang/Object"
  | 1 => .object "java/lang/String"
  | 2 => .object "java/lang/Throwable"
  | 3 => .array (.object "java/lang/StackTraceElement")
  | 4 => .int
  | _ => .object "java/util/List"
abbrev wsJx7c7330 : List Cond := u_ws RJx7c733 TJx7c733 6
theorem nmJx7c733 : ∀ a, a < 6 → ∀ b, b < 6 → a ≠ b → (TJx7c733 a).2.1 ≠ (TJx7c733 b).2.1 := by decide +kernel
theorem tyJx7c733_ok : ∀ k, k < 6 → parseFieldDescriptor (TJx7c733 k).2.2.1 = some (tyJx7c733 k) := by decide +kernel
abbrev cJx7c733_init_d00df : ByteArray := prog_32_method_3_code
def yJx7c733_init_d00df : MethodName := ⟨RJx7c733, "<init>", "(I)V"⟩
def RJ1 : String := "java/lang/StringLatin1"
def TJ1 : u_T := fun k => match k with
  | _ => ("", "", "", false)
def tyJ1 : Nat → FieldType := fun k => match k with
  | _ => .int
abbrev wsJ10 : List Cond := u_ws RJ1 TJ1 0
theorem nmJ1 : ∀ a, a < 0 → ∀ b, b < 0 → a ≠ b → (TJ1 a).2.1 ≠ (TJ1 b).2.1 := by decide +kernel
theorem tyJ1_ok : ∀ k, k < 0 → parseFieldDescriptor (TJ1 k).2.2.1 = some (tyJ1 k) := by decide +kernel
abbrev cJ1_charAt_3b067 : ByteArray := prog_33_method_2_code
def yJ1_charAt_3b067 : MethodName := ⟨RJ1, "charAt", "([BI)C"⟩
abbrev cJ1_canEncode_fc78d : ByteArray := prog_33_method_3_code
def yJ1_canEncode_fc78d : MethodName := ⟨RJ1, "canEncode", "(C)Z"⟩
abbrev cJ1_fillNull_b72d1 : ByteArray := prog_33_method_48_code
def yJ1_fillNull_b72d1 : MethodName := ⟨RJ1, "fillNull", "([BII)V"⟩
abbrev cJ1_inflate_0e8fd : ByteArray := prog_33_method_50_code
def yJ1_inflate_0e8fd : MethodName := ⟨RJ1, "inflate", "([BI[BII)V"⟩
def RJ2 : String := "java/lang/StringUTF16"
def TJ2 : u_T := fun k => match k with
  | _ => ("", "", "", false)
def tyJ2 : Nat → FieldType := fun k => match k with
  | _ => .int
abbrev wsJ20 : List Cond := u_ws RJ2 TJ2 0
theorem nmJ2 : ∀ a, a < 0 → ∀ b, b < 0 → a ≠ b → (TJ2 a).2.1 ≠ (TJ2 b).2.1 := by decide +kernel
theorem tyJ2_ok : ∀ k, k < 0 → parseFieldDescriptor (TJ2 k).2.2.1 = some (tyJ2 k) := by decide +kernel
abbrev cJ2_newBytesFor_77867 : ByteArray := prog_34_method_2_code
def yJ2_newBytesFor_77867 : MethodName := ⟨RJ2, "newBytesFor", "(I)[B"⟩
abbrev cJ2_newBytesLength_0f7a4 : ByteArray := prog_34_method_3_code
def yJ2_newBytesLength_0f7a4 : MethodName := ⟨RJ2, "newBytesLength", "(I)I"⟩
abbrev cJ2_putChar_b72d1 : ByteArray := prog_34_method_4_code
def yJ2_putChar_b72d1 : MethodName := ⟨RJ2, "putChar", "([BII)V"⟩
abbrev cJ2_getChar_3b067 : ByteArray := prog_34_method_5_code
def yJ2_getChar_3b067 : MethodName := ⟨RJ2, "getChar", "([BI)C"⟩
abbrev cJ2_length_9d52b : ByteArray := prog_34_method_6_code
def yJ2_length_9d52b : MethodName := ⟨RJ2, "length", "([B)I"⟩
abbrev cJ2_coderFromArrayLen_85cad : ByteArray := prog_34_method_15_code
def yJ2_coderFromArrayLen_85cad : MethodName := ⟨RJ2, "coderFromArrayLen", "([BI)B"⟩
abbrev cJ2_compress_39247 : ByteArray := prog_34_method_17_code
def yJ2_compress_39247 : MethodName := ⟨RJ2, "compress", "([BII)[B"⟩
abbrev cJ2_compress_5af95 : ByteArray := prog_34_method_22_code
def yJ2_compress_5af95 : MethodName := ⟨RJ2, "compress", "([BI[BII)I"⟩
abbrev cJ2_fillNull_b72d1 : ByteArray := prog_34_method_70_code
def yJ2_fillNull_b72d1 : MethodName := ⟨RJ2, "fillNull", "([BII)V"⟩
abbrev cJ2_putCharSB_b72d1 : ByteArray := prog_34_method_71_code
def yJ2_putCharSB_b72d1 : MethodName := ⟨RJ2, "putCharSB", "([BII)V"⟩
abbrev cJ2_getChars_46870 : ByteArray := prog_34_method_77_code
def yJ2_getChars_46870 : MethodName := ⟨RJ2, "getChars", "(III[B)I"⟩
abbrev cJ2_putCharsAt_cd4e5 : ByteArray := prog_34_method_81_code
def yJ2_putCharsAt_cd4e5 : MethodName := ⟨RJ2, "putCharsAt", "([BICCCC)I"⟩
abbrev cJ2_charAt_3b067 : ByteArray := prog_34_method_83_code
def yJ2_charAt_3b067 : MethodName := ⟨RJ2, "charAt", "([BI)C"⟩
abbrev cJ2_inflate_0e8fd : ByteArray := prog_34_method_86_code
def yJ2_inflate_0e8fd : MethodName := ⟨RJ2, "inflate", "([BI[BII)V"⟩
abbrev cJ2_getChars_ba4f3 : ByteArray := prog_34_method_89_code
def yJ2_getChars_ba4f3 : MethodName := ⟨RJ2, "getChars", "(II[B)I"⟩
abbrev cJ2_checkIndex_2214a : ByteArray := prog_34_method_91_code
def yJ2_checkIndex_2214a : MethodName := ⟨RJ2, "checkIndex", "(I[B)V"⟩
abbrev cJ2_checkBoundsBeginEnd_d044e : ByteArray := prog_34_method_93_code
def yJ2_checkBoundsBeginEnd_d044e : MethodName := ⟨RJ2, "checkBoundsBeginEnd", "(II[B)V"⟩
abbrev cJ2_checkBoundsOffCount_d044e : ByteArray := prog_34_method_94_code
def yJ2_checkBoundsOffCount_d044e : MethodName := ⟨RJ2, "checkBoundsOffCount", "(II[B)V"⟩
def RJ10 : String := "java/lang/System"
def TJ10 : u_T := fun k => match k with
  | _ => ("", "", "", false)
def tyJ10 : Nat → FieldType := fun k => match k with
  | _ => .int
abbrev wsJ100 : List Cond := u_ws RJ10 TJ10 0
theorem nmJ10 : ∀ a, a < 0 → ∀ b, b < 0 → a ≠ b → (TJ10 a).2.1 ≠ (TJ10 b).2.1 := by decide +kernel
theorem tyJ10_ok : ∀ k, k < 0 → parseFieldDescriptor (TJ10 k).2.2.1 = some (tyJ10 k) := by decide +kernel
def RJxfd54e : String := "java/lang/constant/Constable"
def TJxfd54e : u_T := fun k => match k with
  | _ => ("", "", "", false)
def tyJxfd54e : Nat → FieldType := fun k => match k with
  | _ => .int
abbrev wsJxfd54e0 : List Cond := u_ws RJxfd54e TJxfd54e 0
theorem nmJxfd54e : ∀ a, a < 0 → ∀ b, b < 0 → a ≠ b → (TJxfd54e a).2.1 ≠ (TJxfd54e b).2.1 := by decide +kernel
theorem tyJxfd54e_ok : ∀ k, k < 0 → parseFieldDescriptor (TJxfd54e k).2.2.1 = some (tyJxfd54e k) := by decide +kernel
def RJx3cf43 : String := "java/lang/constant/ConstantDesc"
def TJx3cf43 : u_T := fun k => match k with
  | _ => ("", "", "", false)
def tyJx3cf43 : Nat → FieldType := fun k => match k with
  | _ => .int
abbrev wsJx3cf430 : List Cond := u_ws RJx3cf43 TJx3cf43 0
theorem nmJx3cf43 : ∀ a, a < 0 → ∀ b, b < 0 → a ≠ b → (TJx3cf43 a).2.1 ≠ (TJx3cf43 b).2.1 := by decide +kernel
theorem tyJx3cf43_ok : ∀ k, k < 0 → parseFieldDescriptor (TJx3cf43 k).2.2.1 = some (tyJx3cf43 k) := by decide +kernel
def RJ7 : String := "java/util/Arrays"
def TJ7 : u_T := fun k => match k with
  | _ => ("", "", "", false)
def tyJ7 : Nat → FieldType := fun k => match k with
  | _ => .int
abbrev wsJ70 : List Cond := u_ws RJ7 TJ7 0
theorem nmJ7 : ∀ a, a < 0 → ∀ b, b < 0 → a ≠ b → (TJ7 a).2.1 ≠ (TJ7 b).2.1 := by decide +kernel
theorem tyJ7_ok : ∀ k, k < 0 → parseFieldDescriptor (TJ7 k).2.2.1 = some (tyJ7 k) := by decide +kernel
abbrev cJ7_rangeCheck_23922 : ByteArray := prog_40_method_30_code
def yJ7_rangeCheck_23922 : MethodName := ⟨RJ7, "rangeCheck", "(III)V"⟩
abbrev cJ7_fill_eb02e : ByteArray := prog_40_method_110_code
def yJ7_fill_eb02e : MethodName := ⟨RJ7, "fill", "([BIIB)V"⟩
abbrev cJ7_copyOf_9075b : ByteArray := prog_40_method_121_code
def yJ7_copyOf_9075b : MethodName := ⟨RJ7, "copyOf", "([BI)[B"⟩
abbrev cJ7_checkLength_df160 : ByteArray := prog_40_method_131_code
def yJ7_checkLength_df160 : MethodName := ⟨RJ7, "checkLength", "(II)V"⟩
abbrev cJ7_copyOfRange_39247 : ByteArray := prog_40_method_132_code
def yJ7_copyOfRange_39247 : MethodName := ⟨RJ7, "copyOfRange", "([BII)[B"⟩
abbrev cJ7_copyOfRangeByte_39247 : ByteArray := prog_40_method_133_code
def yJ7_copyOfRangeByte_39247 : MethodName := ⟨RJ7, "copyOfRangeByte", "([BII)[B"⟩
def RJ8 : String := "jdk/internal/util/ArraysSupport"
def TJ8 : u_T := fun k => match k with
  | _ => ("", "", "", false)
def tyJ8 : Nat → FieldType := fun k => match k with
  | _ => .int
abbrev wsJ80 : List Cond := u_ws RJ8 TJ8 0
theorem nmJ8 : ∀ a, a < 0 → ∀ b, b < 0 → a ≠ b → (TJ8 a).2.1 ≠ (TJ8 b).2.1 := by decide +kernel
theorem tyJ8_ok : ∀ k, k < 0 → parseFieldDescriptor (TJ8 k).2.2.1 = some (tyJ8 k) := by decide +kernel
abbrev cJ8_newLength_cabcc : ByteArray := prog_42_method_27_code
def yJ8_newLength_cabcc : MethodName := ⟨RJ8, "newLength", "(III)I"⟩
abbrev cJ8_hugeLength_7cf53 : ByteArray := prog_42_method_28_code
def yJ8_hugeLength_7cf53 : MethodName := ⟨RJ8, "hugeLength", "(II)I"⟩
def RJ3 : String := "jdk/internal/util/Preconditions"
def TJ3 : u_T := fun k => match k with
  | _ => ("", "", "", false)
def tyJ3 : Nat → FieldType := fun k => match k with
  | _ => .int
abbrev wsJ30 : List Cond := u_ws RJ3 TJ3 0
theorem nmJ3 : ∀ a, a < 0 → ∀ b, b < 0 → a ≠ b → (TJ3 a).2.1 ≠ (TJ3 b).2.1 := by decide +kernel
theorem tyJ3_ok : ∀ k, k < 0 → parseFieldDescriptor (TJ3 k).2.2.1 = some (tyJ3 k) := by decide +kernel
abbrev cJ3_checkIndex_8e157 : ByteArray := prog_43_method_11_code
def yJ3_checkIndex_8e157 : MethodName := ⟨RJ3, "checkIndex", "(IILjava/util/function/BiFunction;)I"⟩
abbrev cJ3_checkFromToIndex_8c36e : ByteArray := prog_43_method_12_code
def yJ3_checkFromToIndex_8c36e : MethodName := ⟨RJ3, "checkFromToIndex", "(IIILjava/util/function/BiFunction;)I"⟩
abbrev cJ3_checkFromIndexSize_8c36e : ByteArray := prog_43_method_13_code
def yJ3_checkFromIndexSize_8c36e : MethodName := ⟨RJ3, "checkFromIndexSize", "(IIILjava/util/function/BiFunction;)I"⟩
def RL : String := "IceBellsLaw"
abbrev cL_cell : ByteArray := method_2_code
def yL_cell : MethodName := ⟨RL, "cell", "([II)I"⟩
abbrev cL_pick : ByteArray := method_3_code
def yL_pick : MethodName := ⟨RL, "pick", "([III)I"⟩
abbrev cL_told : ByteArray := method_4_code
def yL_told : MethodName := ⟨RL, "told", "(Z)I"⟩
abbrev cL_plain : ByteArray := method_5_code
def yL_plain : MethodName := ⟨RL, "plain", "(LIceBells;IIII)I"⟩
abbrev cL_deed : ByteArray := method_6_code
def yL_deed : MethodName := ⟨RL, "deed", "(LIceBells;IIII)I"⟩
abbrev cL_asked : ByteArray := method_7_code
def yL_asked : MethodName := ⟨RL, "asked", "(LIceBells;III)I"⟩
abbrev cL_ask : ByteArray := method_8_code
def yL_ask : MethodName := ⟨RL, "ask", "(LIceBells;III)I"⟩
abbrev cL_lay : ByteArray := method_9_code
def yL_lay : MethodName := ⟨RL, "lay", "(LIceBells;[I)V"⟩
abbrev cL_any : ByteArray := method_10_code
def yL_any : MethodName := ⟨RL, "any", "(LIceBells;[II)I"⟩
abbrev cL_looks : ByteArray := method_11_code
def yL_looks : MethodName := ⟨RL, "looks", "(LIceBells;)I"⟩
abbrev cL_isLakeRight : ByteArray := method_12_code
def yL_isLakeRight : MethodName := ⟨RL, "isLakeRight", "(LIceBells;I)Z"⟩
abbrev cL_areLakesRight : ByteArray := method_13_code
def yL_areLakesRight : MethodName := ⟨RL, "areLakesRight", "(LIceBells;)Z"⟩
abbrev cL_arePealsRight : ByteArray := method_14_code
def yL_arePealsRight : MethodName := ⟨RL, "arePealsRight", "(LIceBells;)Z"⟩
abbrev cL_areWindowsRight : ByteArray := method_15_code
def yL_areWindowsRight : MethodName := ⟨RL, "areWindowsRight", "(LIceBells;I)Z"⟩
abbrev cL_areHoursRight : ByteArray := method_16_code
def yL_areHoursRight : MethodName := ⟨RL, "areHoursRight", "(LIceBells;I)Z"⟩
abbrev cL_law : ByteArray := code
def yL_law : MethodName := ⟨RL, "law", "([I)Z"⟩
abbrev vwCl : List vw_C := [(RJ0, TJ0, 4), (RJ4, TJ4, 4), (RJx00060, TJx00060, 6), (RJx7c733, TJx7c733, 6), (RX1, TX1, 3), (RX2, TX2, 5), (RX3, TX3, 3), (RX5, TX5, 6), (RX6, TX6, 8), (RX7, TX7, 6), (RX8, TX8, 3), (RX9, TX9, 11)]
