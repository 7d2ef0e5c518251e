def RX0 : String := "BitumenNeedle$Drum"
def TX0 : u_T := fun k => match k with
  | 0 => ("BitumenNeedle$Drum", "softness", "I", false)
  | 1 => ("BitumenNeedle$Drum", "days", "I", false)
  | _ => ("BitumenNeedle$Drum", "grade", "I", false)
def tyX0 : Nat → FieldType := fun k => match k with
  | 0 => .int
  | 1 => .int
  | _ => .int
theorem nmX0 : ∀ a, a < 3 → ∀ b, b < 3 → a ≠ b → (TX0 a).2.1 ≠ (TX0 b).2.1 := by decide +kernel
theorem tyX0_ok : ∀ k, k < 3 → parseFieldDescriptor (TX0 k).2.2.1 = some (tyX0 k) := by decide +kernel
abbrev cX0_init : ByteArray := prog_2_method_1_code
def yX0_init : MethodName := ⟨RX0, "<init>", "()V"⟩
abbrev cX0_fill : ByteArray := prog_2_method_2_code
def yX0_fill : MethodName := ⟨RX0, "fill", "(I)V"⟩
abbrev cX0_copyFrom : ByteArray := prog_2_method_3_code
def yX0_copyFrom : MethodName := ⟨RX0, "copyFrom", "(LBitumenNeedle$Drum;)V"⟩
abbrev cX0_hardness : ByteArray := prog_2_method_4_code
def yX0_hardness : MethodName := ⟨RX0, "hardness", "()I"⟩
def RX1 : String := "BitumenNeedle$History"
def TX1 : u_T := fun k => match k with
  | 0 => ("BitumenNeedle$History", "saved", "[LBitumenNeedle$Lab;", true)
  | 1 => ("BitumenNeedle$History", "snapshot", "LBitumenNeedle$Lab;", true)
  | 2 => ("BitumenNeedle$History", "count", "I", false)
  | _ => ("BitumenNeedle$History", "kept", "Z", false)
def tyX1 : Nat → FieldType := fun k => match k with
  | 0 => .array (.object "BitumenNeedle$Lab")
  | 1 => .object "BitumenNeedle$Lab"
  | 2 => .int
  | _ => .boolean
theorem nmX1 : ∀ a, a < 4 → ∀ b, b < 4 → a ≠ b → (TX1 a).2.1 ≠ (TX1 b).2.1 := by decide +kernel
theorem tyX1_ok : ∀ k, k < 4 → parseFieldDescriptor (TX1 k).2.2.1 = some (tyX1 k) := by decide +kernel
abbrev cX1_init : ByteArray := prog_3_method_1_code
def yX1_init : MethodName := ⟨RX1, "<init>", "()V"⟩
abbrev cX1_save : ByteArray := prog_3_method_2_code
def yX1_save : MethodName := ⟨RX1, "save", "(LBitumenNeedle$Lab;)V"⟩
abbrev cX1_dropOldest : ByteArray := prog_3_method_3_code
def yX1_dropOldest : MethodName := ⟨RX1, "dropOldest", "()V"⟩
abbrev cX1_goBack : ByteArray := prog_3_method_4_code
def yX1_goBack : MethodName := ⟨RX1, "goBack", "(LBitumenNeedle$Lab;)V"⟩
def RX2 : String := "BitumenNeedle$Lab"
def TX2 : u_T := fun k => match k with
  | 0 => ("BitumenNeedle$Lab", "drums", "[LBitumenNeedle$Drum;", true)
  | 1 => ("BitumenNeedle$Lab", "samples", "[LBitumenNeedle$Specimen;", true)
  | 2 => ("BitumenNeedle$Lab", "needles", "[LBitumenNeedle$Needle;", true)
  | 3 => ("BitumenNeedle$Lab", "degrees", "[I", true)
  | 4 => ("BitumenNeedle$Lab", "settings", "[I", true)
  | 5 => ("BitumenNeedle$Lab", "drumCount", "I", false)
  | 6 => ("BitumenNeedle$Lab", "sampleCount", "I", false)
  | 7 => ("BitumenNeedle$Lab", "minutes", "I", false)
  | 8 => ("BitumenNeedle$Lab", "renewed", "I", false)
  | 9 => ("BitumenNeedle$Lab", "stopPart", "I", false)
  | _ => ("BitumenNeedle$Lab", "stopReason", "I", false)
def tyX2 : Nat → FieldType := fun k => match k with
  | 0 => .array (.object "BitumenNeedle$Drum")
  | 1 => .array (.object "BitumenNeedle$Specimen")
  | 2 => .array (.object "BitumenNeedle$Needle")
  | 3 => .array .int
  | 4 => .array .int
  | 5 => .int
  | 6 => .int
  | 7 => .int
  | 8 => .int
  | 9 => .int
  | _ => .int
theorem nmX2 : ∀ a, a < 11 → ∀ b, b < 11 → a ≠ b → (TX2 a).2.1 ≠ (TX2 b).2.1 := by decide +kernel
theorem tyX2_ok : ∀ k, k < 11 → parseFieldDescriptor (TX2 k).2.2.1 = some (tyX2 k) := by decide +kernel
abbrev cX2_init : ByteArray := prog_4_method_1_code
def yX2_init : MethodName := ⟨RX2, "<init>", "()V"⟩
abbrev cX2_copyFrom : ByteArray := prog_4_method_2_code
def yX2_copyFrom : MethodName := ⟨RX2, "copyFrom", "(LBitumenNeedle$Lab;)V"⟩
abbrev cX2_hasDrum : ByteArray := prog_4_method_3_code
def yX2_hasDrum : MethodName := ⟨RX2, "hasDrum", "(I)Z"⟩
abbrev cX2_hasSample : ByteArray := prog_4_method_4_code
def yX2_hasSample : MethodName := ⟨RX2, "hasSample", "(I)Z"⟩
abbrev cX2_addDrum : ByteArray := prog_4_method_5_code
def yX2_addDrum : MethodName := ⟨RX2, "addDrum", "(I)I"⟩
abbrev cX2_ageDrums : ByteArray := prog_4_method_6_code
def yX2_ageDrums : MethodName := ⟨RX2, "ageDrums", "(I)I"⟩
abbrev cX2_whyNotTaken : ByteArray := prog_4_method_7_code
def yX2_whyNotTaken : MethodName := ⟨RX2, "whyNotTaken", "(I)I"⟩
abbrev cX2_take : ByteArray := prog_4_method_8_code
def yX2_take : MethodName := ⟨RX2, "take", "(I)I"⟩
abbrev cX2_throwAway : ByteArray := prog_4_method_9_code
def yX2_throwAway : MethodName := ⟨RX2, "throwAway", "(I)I"⟩
abbrev cX2_samplesIn : ByteArray := prog_4_method_10_code
def yX2_samplesIn : MethodName := ⟨RX2, "samplesIn", "(I)I"⟩
abbrev cX2_hasRoomFor : ByteArray := prog_4_method_11_code
def yX2_hasRoomFor : MethodName := ⟨RX2, "hasRoomFor", "(II)Z"⟩
abbrev cX2_whyNotLaid : ByteArray := prog_4_method_12_code
def yX2_whyNotLaid : MethodName := ⟨RX2, "whyNotLaid", "(II)I"⟩
abbrev cX2_lay : ByteArray := prog_4_method_13_code
def yX2_lay : MethodName := ⟨RX2, "lay", "(II)I"⟩
abbrev cX2_degreeAround : ByteArray := prog_4_method_14_code
def yX2_degreeAround : MethodName := ⟨RX2, "degreeAround", "(I)I"⟩
abbrev cX2_passMinutes : ByteArray := prog_4_method_15_code
def yX2_passMinutes : MethodName := ⟨RX2, "passMinutes", "(I)V"⟩
abbrev cX2_samplesAsTheirBath : ByteArray := prog_4_method_16_code
def yX2_samplesAsTheirBath : MethodName := ⟨RX2, "samplesAsTheirBath", "()I"⟩
abbrev cX2_depth : ByteArray := prog_4_method_17_code
def yX2_depth : MethodName := ⟨RX2, "depth", "(IIII)I"⟩
abbrev cX2_whyNotSunk : ByteArray := prog_4_method_18_code
def yX2_whyNotSunk : MethodName := ⟨RX2, "whyNotSunk", "(II)I"⟩
abbrev cX2_read : ByteArray := prog_4_method_19_code
def yX2_read : MethodName := ⟨RX2, "read", "(IIII)I"⟩
abbrev cX2_whyNotSoftened : ByteArray := prog_4_method_20_code
def yX2_whyNotSoftened : MethodName := ⟨RX2, "whyNotSoftened", "(I)I"⟩
abbrev cX2_minutesIn : ByteArray := prog_4_method_21_code
def yX2_minutesIn : MethodName := ⟨RX2, "minutesIn", "(II)I"⟩
abbrev cX2_minutesToReady : ByteArray := prog_4_method_22_code
def yX2_minutesToReady : MethodName := ⟨RX2, "minutesToReady", "(I)I"⟩
abbrev cX2_quickestBath : ByteArray := prog_4_method_23_code
def yX2_quickestBath : MethodName := ⟨RX2, "quickestBath", "(I)I"⟩
abbrev cX2_greatestDifferenceIn : ByteArray := prog_4_method_24_code
def yX2_greatestDifferenceIn : MethodName := ⟨RX2, "greatestDifferenceIn", "(I)I"⟩
abbrev cX2_bathNumber : ByteArray := prog_4_method_25_code
def yX2_bathNumber : MethodName := ⟨RX2, "bathNumber", "(II)I"⟩
abbrev cX2_samplesWithPenetration : ByteArray := prog_4_method_26_code
def yX2_samplesWithPenetration : MethodName := ⟨RX2, "samplesWithPenetration", "()I"⟩
abbrev cX2_readingsSoFar : ByteArray := prog_4_method_27_code
def yX2_readingsSoFar : MethodName := ⟨RX2, "readingsSoFar", "()I"⟩
abbrev cX2_bentNeedles : ByteArray := prog_4_method_28_code
def yX2_bentNeedles : MethodName := ⟨RX2, "bentNeedles", "()I"⟩
abbrev cX2_soldDrums : ByteArray := prog_4_method_29_code
def yX2_soldDrums : MethodName := ⟨RX2, "soldDrums", "()I"⟩
abbrev cX2_total : ByteArray := prog_4_method_30_code
def yX2_total : MethodName := ⟨RX2, "total", "(I)I"⟩
def RX3 : String := "BitumenNeedle$Needle"
def TX3 : u_T := fun k => match k with
  | 0 => ("BitumenNeedle$Needle", "wear", "I", false)
  | 1 => ("BitumenNeedle$Needle", "bent", "Z", false)
  | _ => ("BitumenNeedle$Needle", "readings", "I", false)
def tyX3 : Nat → FieldType := fun k => match k with
  | 0 => .int
  | 1 => .boolean
  | _ => .int
theorem nmX3 : ∀ a, a < 3 → ∀ b, b < 3 → a ≠ b → (TX3 a).2.1 ≠ (TX3 b).2.1 := by decide +kernel
theorem tyX3_ok : ∀ k, k < 3 → parseFieldDescriptor (TX3 k).2.2.1 = some (tyX3 k) := by decide +kernel
abbrev cX3_init : ByteArray := prog_5_method_1_code
def yX3_init : MethodName := ⟨RX3, "<init>", "()V"⟩
abbrev cX3_copyFrom : ByteArray := prog_5_method_2_code
def yX3_copyFrom : MethodName := ⟨RX3, "copyFrom", "(LBitumenNeedle$Needle;)V"⟩
abbrev cX3_makeNew : ByteArray := prog_5_method_3_code
def yX3_makeNew : MethodName := ⟨RX3, "makeNew", "()I"⟩
abbrev cX3_wearBy : ByteArray := prog_5_method_4_code
def yX3_wearBy : MethodName := ⟨RX3, "wearBy", "(I)V"⟩
abbrev cX3_number : ByteArray := prog_5_method_5_code
def yX3_number : MethodName := ⟨RX3, "number", "(I)I"⟩
def RX4 : String := "BitumenNeedle$OrderText"
def TX4 : u_T := fun k => match k with
  | 0 => ("BitumenNeedle$OrderText", "characters", "[C", true)
  | 1 => ("BitumenNeedle$OrderText", "part", "LBitumenNeedle$Part;", true)
  | 2 => ("BitumenNeedle$OrderText", "length", "I", false)
  | _ => ("BitumenNeedle$OrderText", "place", "I", false)
def tyX4 : Nat → FieldType := fun k => match k with
  | 0 => .array .char
  | 1 => .object "BitumenNeedle$Part"
  | 2 => .int
  | _ => .int
theorem nmX4 : ∀ a, a < 4 → ∀ b, b < 4 → a ≠ b → (TX4 a).2.1 ≠ (TX4 b).2.1 := by decide +kernel
theorem tyX4_ok : ∀ k, k < 4 → parseFieldDescriptor (TX4 k).2.2.1 = some (tyX4 k) := by decide +kernel
abbrev cX4_init : ByteArray := prog_6_method_1_code
def yX4_init : MethodName := ⟨RX4, "<init>", "()V"⟩
def RX5 : String := "BitumenNeedle$Part"
def TX5 : u_T := fun k => match k with
  | 0 => ("BitumenNeedle$Part", "letter", "I", false)
  | 1 => ("BitumenNeedle$Part", "slots", "Ljava/lang/String;", false)
  | 2 => ("BitumenNeedle$Part", "slot", "I", false)
  | 3 => ("BitumenNeedle$Part", "taken", "I", false)
  | _ => ("BitumenNeedle$Part", "values", "[I", true)
def tyX5 : Nat → FieldType := fun k => match k with
  | 0 => .int
  | 1 => .object "java/lang/String"
  | 2 => .int
  | 3 => .int
  | _ => .array .int
theorem nmX5 : ∀ a, a < 5 → ∀ b, b < 5 → a ≠ b → (TX5 a).2.1 ≠ (TX5 b).2.1 := by decide +kernel
theorem tyX5_ok : ∀ k, k < 5 → parseFieldDescriptor (TX5 k).2.2.1 = some (tyX5 k) := by decide +kernel
abbrev cX5_init : ByteArray := prog_7_method_1_code
def yX5_init : MethodName := ⟨RX5, "<init>", "()V"⟩
def RX6 : String := "BitumenNeedle$Specimen"
def TX6 : u_T := fun k => match k with
  | 0 => ("BitumenNeedle$Specimen", "drum", "I", false)
  | 1 => ("BitumenNeedle$Specimen", "hardness", "I", false)
  | 2 => ("BitumenNeedle$Specimen", "degree", "I", false)
  | 3 => ("BitumenNeedle$Specimen", "bath", "I", false)
  | 4 => ("BitumenNeedle$Specimen", "softening", "I", false)
  | 5 => ("BitumenNeedle$Specimen", "readings", "I", false)
  | _ => ("BitumenNeedle$Specimen", "marks", "[I", true)
def tyX6 : Nat → FieldType := fun k => match k with
  | 0 => .int
  | 1 => .int
  | 2 => .int
  | 3 => .int
  | 4 => .int
  | 5 => .int
  | _ => .array .int
theorem nmX6 : ∀ a, a < 7 → ∀ b, b < 7 → a ≠ b → (TX6 a).2.1 ≠ (TX6 b).2.1 := by decide +kernel
theorem tyX6_ok : ∀ k, k < 7 → parseFieldDescriptor (TX6 k).2.2.1 = some (tyX6 k) := by decide +kernel
abbrev cX6_init : ByteArray := prog_8_method_1_code
def yX6_init : MethodName := ⟨RX6, "<init>", "()V"⟩
abbrev cX6_begin : ByteArray := prog_8_method_2_code
def yX6_begin : MethodName := ⟨RX6, "begin", "(II)V"⟩
abbrev cX6_copyFrom : ByteArray := prog_8_method_3_code
def yX6_copyFrom : MethodName := ⟨RX6, "copyFrom", "(LBitumenNeedle$Specimen;)V"⟩
abbrev cX6_mark : ByteArray := prog_8_method_4_code
def yX6_mark : MethodName := ⟨RX6, "mark", "(II)I"⟩
abbrev cX6_write : ByteArray := prog_8_method_5_code
def yX6_write : MethodName := ⟨RX6, "write", "(IIII)V"⟩
abbrev cX6_depthUnder : ByteArray := prog_8_method_6_code
def yX6_depthUnder : MethodName := ⟨RX6, "depthUnder", "(III)I"⟩
abbrev cX6_whyNoPenetration : ByteArray := prog_8_method_7_code
def yX6_whyNoPenetration : MethodName := ⟨RX6, "whyNoPenetration", "(I)I"⟩
abbrev cX6_penetration : ByteArray := prog_8_method_8_code
def yX6_penetration : MethodName := ⟨RX6, "penetration", "(I)I"⟩
abbrev cX6_latestNeedles : ByteArray := prog_8_method_9_code
def yX6_latestNeedles : MethodName := ⟨RX6, "latestNeedles", "()I"⟩
abbrev cX6_soften : ByteArray := prog_8_method_10_code
def yX6_soften : MethodName := ⟨RX6, "soften", "()I"⟩
abbrev cX6_number : ByteArray := prog_8_method_11_code
def yX6_number : MethodName := ⟨RX6, "number", "(II)I"⟩
def RX7 : String := "BitumenNeedle$Trade"
def TX7 : u_T := fun k => match k with
  | _ => ("", "", "", false)
def tyX7 : Nat → FieldType := fun k => match k with
  | _ => .int
theorem nmX7 : ∀ a, a < 0 → ∀ b, b < 0 → a ≠ b → (TX7 a).2.1 ≠ (TX7 b).2.1 := by decide +kernel
theorem tyX7_ok : ∀ k, k < 0 → parseFieldDescriptor (TX7 k).2.2.1 = some (tyX7 k) := by decide +kernel
abbrev cX7_samplesOf : ByteArray := prog_9_method_2_code
def yX7_samplesOf : MethodName := ⟨RX7, "samplesOf", "(LBitumenNeedle$Lab;I)I"⟩
abbrev cX7_meanPenetration : ByteArray := prog_9_method_3_code
def yX7_meanPenetration : MethodName := ⟨RX7, "meanPenetration", "(LBitumenNeedle$Lab;I)I"⟩
abbrev cX7_meanSoftening : ByteArray := prog_9_method_4_code
def yX7_meanSoftening : MethodName := ⟨RX7, "meanSoftening", "(LBitumenNeedle$Lab;I)I"⟩
abbrev cX7_meanByReadings : ByteArray := prog_9_method_5_code
def yX7_meanByReadings : MethodName := ⟨RX7, "meanByReadings", "(LBitumenNeedle$Lab;I)I"⟩
abbrev cX7_index : ByteArray := prog_9_method_6_code
def yX7_index : MethodName := ⟨RX7, "index", "(III)I"⟩
abbrev cX7_shownIndex : ByteArray := prog_9_method_7_code
def yX7_shownIndex : MethodName := ⟨RX7, "shownIndex", "(LBitumenNeedle$Lab;II)I"⟩
abbrev cX7_samplesWithPenetration : ByteArray := prog_9_method_8_code
def yX7_samplesWithPenetration : MethodName := ⟨RX7, "samplesWithPenetration", "(LBitumenNeedle$Lab;I)I"⟩
abbrev cX7_needlesRead : ByteArray := prog_9_method_9_code
def yX7_needlesRead : MethodName := ⟨RX7, "needlesRead", "(LBitumenNeedle$Lab;I)I"⟩
abbrev cX7_whyNotSold : ByteArray := prog_9_method_10_code
def yX7_whyNotSold : MethodName := ⟨RX7, "whyNotSold", "(LBitumenNeedle$Lab;I)I"⟩
abbrev cX7_close : ByteArray := prog_9_method_11_code
def yX7_close : MethodName := ⟨RX7, "close", "(LBitumenNeedle$Lab;I)I"⟩
abbrev cX7_number : ByteArray := prog_9_method_12_code
def yX7_number : MethodName := ⟨RX7, "number", "(LBitumenNeedle$Lab;II)I"⟩
def RX8 : String := "BitumenNeedle"
def TX8 : u_T := fun k => match k with
  | 0 => ("BitumenNeedle", "lab", "LBitumenNeedle$Lab;", true)
  | 1 => ("BitumenNeedle", "history", "LBitumenNeedle$History;", true)
  | _ => ("BitumenNeedle", "text", "LBitumenNeedle$OrderText;", true)
def tyX8 : Nat → FieldType := fun k => match k with
  | 0 => .object "BitumenNeedle$Lab"
  | 1 => .object "BitumenNeedle$History"
  | _ => .object "BitumenNeedle$OrderText"
theorem nmX8 : ∀ a, a < 3 → ∀ b, b < 3 → a ≠ b → (TX8 a).2.1 ≠ (TX8 b).2.1 := by decide +kernel
theorem tyX8_ok : ∀ k, k < 3 → parseFieldDescriptor (TX8 k).2.2.1 = some (tyX8 k) := by decide +kernel
abbrev cX8_init : ByteArray := prog_1_method_1_code
def yX8_init : MethodName := ⟨RX8, "<init>", "()V"⟩
abbrev cX8_drum : ByteArray := prog_1_method_2_code
def yX8_drum : MethodName := ⟨RX8, "drum", "(I)I"⟩
abbrev cX8_age : ByteArray := prog_1_method_3_code
def yX8_age : MethodName := ⟨RX8, "age", "(I)I"⟩
abbrev cX8_sample : ByteArray := prog_1_method_4_code
def yX8_sample : MethodName := ⟨RX8, "sample", "(I)I"⟩
abbrev cX8_toss : ByteArray := prog_1_method_5_code
def yX8_toss : MethodName := ⟨RX8, "toss", "(I)I"⟩
abbrev cX8_bath : ByteArray := prog_1_method_6_code
def yX8_bath : MethodName := ⟨RX8, "bath", "(II)I"⟩
abbrev cX8_warm : ByteArray := prog_1_method_7_code
def yX8_warm : MethodName := ⟨RX8, "warm", "(II)I"⟩
abbrev cX8_pass : ByteArray := prog_1_method_8_code
def yX8_pass : MethodName := ⟨RX8, "pass", "(I)I"⟩
abbrev cX8_sink : ByteArray := prog_1_method_9_code
def yX8_sink : MethodName := ⟨RX8, "sink", "(IIII)I"⟩
abbrev cX8_renew : ByteArray := prog_1_method_10_code
def yX8_renew : MethodName := ⟨RX8, "renew", "(I)I"⟩
abbrev cX8_ring : ByteArray := prog_1_method_11_code
def yX8_ring : MethodName := ⟨RX8, "ring", "(I)I"⟩
abbrev cX8_sell : ByteArray := prog_1_method_12_code
def yX8_sell : MethodName := ⟨RX8, "sell", "(I)I"⟩
abbrev cX8_set : ByteArray := prog_1_method_13_code
def yX8_set : MethodName := ⟨RX8, "set", "(II)I"⟩
abbrev cX8_stopped : ByteArray := prog_1_method_18_code
def yX8_stopped : MethodName := ⟨RX8, "stopped", "(I)I"⟩
abbrev cX8_undo : ByteArray := prog_1_method_19_code
def yX8_undo : MethodName := ⟨RX8, "undo", "()I"⟩
abbrev cX8_keep : ByteArray := prog_1_method_20_code
def yX8_keep : MethodName := ⟨RX8, "keep", "()I"⟩
abbrev cX8_restore : ByteArray := prog_1_method_21_code
def yX8_restore : MethodName := ⟨RX8, "restore", "()I"⟩
abbrev cX8_drumOf : ByteArray := prog_1_method_22_code
def yX8_drumOf : MethodName := ⟨RX8, "drumOf", "(II)I"⟩
abbrev cX8_sampleOf : ByteArray := prog_1_method_23_code
def yX8_sampleOf : MethodName := ⟨RX8, "sampleOf", "(II)I"⟩
abbrev cX8_reading : ByteArray := prog_1_method_24_code
def yX8_reading : MethodName := ⟨RX8, "reading", "(III)I"⟩
abbrev cX8_needle : ByteArray := prog_1_method_25_code
def yX8_needle : MethodName := ⟨RX8, "needle", "(II)I"⟩
abbrev cX8_bathOf : ByteArray := prog_1_method_26_code
def yX8_bathOf : MethodName := ⟨RX8, "bathOf", "(II)I"⟩
abbrev cX8_count : ByteArray := prog_1_method_27_code
def yX8_count : MethodName := ⟨RX8, "count", "(I)I"⟩
abbrev cX8_noSink : ByteArray := prog_1_method_28_code
def yX8_noSink : MethodName := ⟨RX8, "noSink", "(II)I"⟩
abbrev cX8_noSale : ByteArray := prog_1_method_29_code
def yX8_noSale : MethodName := ⟨RX8, "noSale", "(I)I"⟩
abbrev cX8_ifSunk : ByteArray := prog_1_method_30_code
def yX8_ifSunk : MethodName := ⟨RX8, "ifSunk", "(IIII)I"⟩
abbrev cX8_secondsTo : ByteArray := prog_1_method_31_code
def yX8_secondsTo : MethodName := ⟨RX8, "secondsTo", "(IIII)I"⟩
abbrev cX8_readyIn : ByteArray := prog_1_method_32_code
def yX8_readyIn : MethodName := ⟨RX8, "readyIn", "(I)I"⟩
abbrev cX8_bestBath : ByteArray := prog_1_method_33_code
def yX8_bestBath : MethodName := ⟨RX8, "bestBath", "(I)I"⟩
abbrev cX8_readShare : ByteArray := prog_1_method_34_code
def yX8_readShare : MethodName := ⟨RX8, "readShare", "()D"⟩
abbrev cX8_mindNumber : ByteArray := prog_1_method_36_code
def yX8_mindNumber : MethodName := ⟨RX8, "mindNumber", "(II)V"⟩
abbrev cX8_mindRange : ByteArray := prog_1_method_37_code
def yX8_mindRange : MethodName := ⟨RX8, "mindRange", "(III)V"⟩
abbrev cX8_refuseFor : ByteArray := prog_1_method_38_code
def yX8_refuseFor : MethodName := ⟨RX8, "refuseFor", "(I)V"⟩
abbrev cX8_divided : ByteArray := prog_1_method_45_code
def yX8_divided : MethodName := ⟨RX8, "divided", "(II)I"⟩
abbrev cX8_degreeNext : ByteArray := prog_1_method_46_code
def yX8_degreeNext : MethodName := ⟨RX8, "degreeNext", "(II)I"⟩
def RX9 : String := "BitumenNeedleModel"
def TX9 : u_T := fun k => match k with
  | _ => ("", "", "", false)
def tyX9 : Nat → FieldType := fun k => match k with
  | _ => .int
theorem nmX9 : ∀ a, a < 0 → ∀ b, b < 0 → a ≠ b → (TX9 a).2.1 ≠ (TX9 b).2.1 := by decide +kernel
theorem tyX9_ok : ∀ k, k < 0 → parseFieldDescriptor (TX9 k).2.2.1 = some (tyX9 k) := by decide +kernel
def RJx8e188 : String := "java/lang/Cloneable"
def TJx8e188 : u_T := fun k => match k with
  | _ => ("", "", "", false)
def tyJx8e188 : Nat → FieldType := fun k => match k with
  | _ => .int
theorem nmJx8e188 : ∀ a, a < 0 → ∀ b, b < 0 → a ≠ b → (TJx8e188 a).2.1 ≠ (TJx8e188 b).2.1 := by decide +kernel
theorem tyJx8e188_ok : ∀ k, k < 0 → parseFieldDescriptor (TJx8e188 k).2.2.1 = some (tyJx8e188 k) := by decide +kernel
def RJ6 : String := "java/lang/Integer"
def TJ6 : u_T := fun k => match k with
  | _ => ("", "", "", false)
def tyJ6 : Nat → FieldType := fun k => match k with
  | _ => .int
theorem nmJ6 : ∀ a, a < 0 → ∀ b, b < 0 → a ≠ b → (TJ6 a).2.1 ≠ (TJ6 b).2.1 := by decide +kernel
theorem tyJ6_ok : ∀ k, k < 0 → parseFieldDescriptor (TJ6 k).2.2.1 = some (tyJ6 k) := by decide +kernel
abbrev cJ6_bitCount_0f7a4 : ByteArray := prog_17_method_49_code
def yJ6_bitCount_0f7a4 : MethodName := ⟨RJ6, "bitCount", "(I)I"⟩
def RJ9 : String := "java/lang/Math"
def TJ9 : u_T := fun k => match k with
  | _ => ("", "", "", false)
def tyJ9 : Nat → FieldType := fun k => match k with
  | _ => .int
theorem nmJ9 : ∀ a, a < 0 → ∀ b, b < 0 → a ≠ b → (TJ9 a).2.1 ≠ (TJ9 b).2.1 := by decide +kernel
theorem tyJ9_ok : ∀ k, k < 0 → parseFieldDescriptor (TJ9 k).2.2.1 = some (tyJ9 k) := by decide +kernel
abbrev cJ9_floorDiv_7cf53 : ByteArray := prog_18_method_47_code
def yJ9_floorDiv_7cf53 : MethodName := ⟨RJ9, "floorDiv", "(II)I"⟩
abbrev cJ9_abs_0f7a4 : ByteArray := prog_18_method_59_code
def yJ9_abs_0f7a4 : MethodName := ⟨RJ9, "abs", "(I)I"⟩
abbrev cJ9_max_7cf53 : ByteArray := prog_18_method_65_code
def yJ9_max_7cf53 : MethodName := ⟨RJ9, "max", "(II)I"⟩
abbrev cJ9_min_7cf53 : ByteArray := prog_18_method_69_code
def yJ9_min_7cf53 : MethodName := ⟨RJ9, "min", "(II)I"⟩
def RJ0 : String := "java/lang/String"
def TJ0 : u_T := fun k => match k with
  | _ => ("", "", "", false)
def tyJ0 : Nat → FieldType := fun k => match k with
  | _ => .int
theorem nmJ0 : ∀ a, a < 0 → ∀ b, b < 0 → a ≠ b → (TJ0 a).2.1 ≠ (TJ0 b).2.1 := by decide +kernel
theorem tyJ0_ok : ∀ k, k < 0 → parseFieldDescriptor (TJ0 k).2.2.1 = some (tyJ0 k) := by decide +kernel
def RJ10 : String := "java/lang/System"
def TJ10 : u_T := fun k => match k with
  | _ => ("", "", "", false)
def tyJ10 : Nat → FieldType := fun k => match k with
  | _ => .int
theorem nmJ10 : ∀ a, a < 0 → ∀ b, b < 0 → a ≠ b → (TJ10 a).2.1 ≠ (TJ10 b).2.1 := by decide +kernel
theorem tyJ10_ok : ∀ k, k < 0 → parseFieldDescriptor (TJ10 k).2.2.1 = some (tyJ10 k) := by decide +kernel
def RL : String := "BitumenNeedleLaw"
abbrev cL_cell : ByteArray := method_2_code
def yL_cell : MethodName := ⟨RL, "cell", "([II)I"⟩
abbrev cL_up : ByteArray := method_3_code
def yL_up : MethodName := ⟨RL, "up", "(II)I"⟩
abbrev cL_bits : ByteArray := method_4_code
def yL_bits : MethodName := ⟨RL, "bits", "(I)I"⟩
abbrev cL_looks : ByteArray := method_5_code
def yL_looks : MethodName := ⟨RL, "looks", "(LBitumenNeedle;)J"⟩
abbrev cL_act : ByteArray := method_6_code
def yL_act : MethodName := ⟨RL, "act", "(LBitumenNeedle;II)I"⟩
abbrev cL_isSample : ByteArray := method_7_code
def yL_isSample : MethodName := ⟨RL, "isSample", "(LBitumenNeedle;I)Z"⟩
abbrev cL_isDrum : ByteArray := method_8_code
def yL_isDrum : MethodName := ⟨RL, "isDrum", "(LBitumenNeedle;I)Z"⟩
abbrev cL_holds : ByteArray := method_9_code
def yL_holds : MethodName := ⟨RL, "holds", "(LBitumenNeedle;)Z"⟩
abbrev cL_isAhead : ByteArray := method_10_code
def yL_isAhead : MethodName := ⟨RL, "isAhead", "(LBitumenNeedle;III)Z"⟩
abbrev cL_law : ByteArray := code
def yL_law : MethodName := ⟨RL, "law", "([I)Z"⟩
abbrev vwCl : List vw_C := [(RX0, TX0, 3), (RX1, TX1, 4), (RX2, TX2, 11), (RX3, TX3, 3), (RX4, TX4, 4), (RX5, TX5, 5), (RX6, TX6, 7), (RX8, TX8, 3)]
