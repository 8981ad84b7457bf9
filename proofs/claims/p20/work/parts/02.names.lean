def RX0 : String := "NinePortraits$Acts"
def TX0 : u_T := fun k => match k with
  | 0 => ("NinePortraits$Acts", "rows", "[I", true)
  | 1 => ("NinePortraits$Acts", "place", "I", false)
  | _ => ("NinePortraits$Acts", "count", "I", false)
def tyX0 : Nat → FieldType := fun k => match k with
  | 0 => .array .int
  | 1 => .int
  | _ => .int
theorem nmX0 : ∀ a, a < 3 → ∀ b, b < 3 → a ≠ b → (TX0 a).2.1 ≠ (TX0 b).2.1 := by decide +kernel
theorem tyX0_ok : ∀ k, k < 3 → parseFieldDescriptor (TX0 k).2.2.1 = some (tyX0 k) := by decide +kernel
abbrev cX0_keep : ByteArray := prog_2_method_2_code
def yX0_keep : MethodName := ⟨RX0, "keep", "(LNinePortraits$State;)V"⟩
abbrev cX0_takeBack : ByteArray := prog_2_method_3_code
def yX0_takeBack : MethodName := ⟨RX0, "takeBack", "(LNinePortraits$State;)Z"⟩
abbrev cX0_forget : ByteArray := prog_2_method_4_code
def yX0_forget : MethodName := ⟨RX0, "forget", "()V"⟩
def RX1 : String := "NinePortraits$Court"
def TX1 : u_T := fun k => match k with
  | 0 => ("NinePortraits$Court", "rules", "[I", true)
  | 1 => ("NinePortraits$Court", "brideParts", "[I", true)
  | 2 => ("NinePortraits$Court", "painterParts", "[I", true)
  | 3 => ("NinePortraits$Court", "brides", "I", false)
  | _ => ("NinePortraits$Court", "painters", "I", false)
def tyX1 : Nat → FieldType := fun k => match k with
  | 0 => .array .int
  | 1 => .array .int
  | 2 => .array .int
  | 3 => .int
  | _ => .int
theorem nmX1 : ∀ a, a < 5 → ∀ b, b < 5 → a ≠ b → (TX1 a).2.1 ≠ (TX1 b).2.1 := by decide +kernel
theorem tyX1_ok : ∀ k, k < 5 → parseFieldDescriptor (TX1 k).2.2.1 = some (tyX1 k) := by decide +kernel
abbrev cX1_firstPurse : ByteArray := prog_3_method_3_code
def yX1_firstPurse : MethodName := ⟨RX1, "firstPurse", "()I"⟩
abbrev cX1_wantOfFace : ByteArray := prog_3_method_4_code
def yX1_wantOfFace : MethodName := ⟨RX1, "wantOfFace", "()I"⟩
abbrev cX1_wantOfDowry : ByteArray := prog_3_method_5_code
def yX1_wantOfDowry : MethodName := ⟨RX1, "wantOfDowry", "()I"⟩
abbrev cX1_ofBride : ByteArray := prog_3_method_6_code
def yX1_ofBride : MethodName := ⟨RX1, "ofBride", "(II)I"⟩
abbrev cX1_ofPainter : ByteArray := prog_3_method_7_code
def yX1_ofPainter : MethodName := ⟨RX1, "ofPainter", "(II)I"⟩
abbrev cX1_faceOf : ByteArray := prog_3_method_8_code
def yX1_faceOf : MethodName := ⟨RX1, "faceOf", "(I)I"⟩
abbrev cX1_dowryOf : ByteArray := prog_3_method_9_code
def yX1_dowryOf : MethodName := ⟨RX1, "dowryOf", "(I)I"⟩
abbrev cX1_wartsOf : ByteArray := prog_3_method_10_code
def yX1_wartsOf : MethodName := ⟨RX1, "wartsOf", "(I)I"⟩
abbrev cX1_skillOf : ByteArray := prog_3_method_11_code
def yX1_skillOf : MethodName := ⟨RX1, "skillOf", "(I)I"⟩
abbrev cX1_feeOf : ByteArray := prog_3_method_12_code
def yX1_feeOf : MethodName := ⟨RX1, "feeOf", "(I)I"⟩
abbrev cX1_kindOf : ByteArray := prog_3_method_13_code
def yX1_kindOf : MethodName := ⟨RX1, "kindOf", "(I)I"⟩
abbrev cX1_worthWith : ByteArray := prog_3_method_14_code
def yX1_worthWith : MethodName := ⟨RX1, "worthWith", "(II)I"⟩
abbrev cX1_trueWorth : ByteArray := prog_3_method_15_code
def yX1_trueWorth : MethodName := ⟨RX1, "trueWorth", "(I)I"⟩
abbrev cX1_topBride : ByteArray := prog_3_method_16_code
def yX1_topBride : MethodName := ⟨RX1, "topBride", "(I)I"⟩
abbrev cX1_cheapPainter : ByteArray := prog_3_method_17_code
def yX1_cheapPainter : MethodName := ⟨RX1, "cheapPainter", "()I"⟩
abbrev cX1_rankByFee : ByteArray := prog_3_method_18_code
def yX1_rankByFee : MethodName := ⟨RX1, "rankByFee", "(I)I"⟩
def RX2 : String := "NinePortraits$CourtReader"
def TX2 : u_T := fun k => match k with
  | 0 => ("NinePortraits$CourtReader", "tape", "LNinePortraits$Tape;", false)
  | 1 => ("NinePortraits$CourtReader", "court", "LNinePortraits$Court;", false)
  | _ => ("NinePortraits$CourtReader", "hasRules", "Z", false)
def tyX2 : Nat → FieldType := fun k => match k with
  | 0 => .object "NinePortraits$Tape"
  | 1 => .object "NinePortraits$Court"
  | _ => .boolean
theorem nmX2 : ∀ a, a < 3 → ∀ b, b < 3 → a ≠ b → (TX2 a).2.1 ≠ (TX2 b).2.1 := by decide +kernel
theorem tyX2_ok : ∀ k, k < 3 → parseFieldDescriptor (TX2 k).2.2.1 = some (tyX2 k) := by decide +kernel
def RX3 : String := "NinePortraits$Draws"
def TX3 : u_T := fun k => match k with
  | _ => ("NinePortraits$Draws", "x", "J", false)
def tyX3 : Nat → FieldType := fun k => match k with
  | _ => .long
theorem nmX3 : ∀ a, a < 1 → ∀ b, b < 1 → a ≠ b → (TX3 a).2.1 ≠ (TX3 b).2.1 := by decide +kernel
theorem tyX3_ok : ∀ k, k < 1 → parseFieldDescriptor (TX3 k).2.2.1 = some (tyX3 k) := by decide +kernel
abbrev cX3_begin : ByteArray := prog_5_method_2_code
def yX3_begin : MethodName := ⟨RX3, "begin", "(J)V"⟩
abbrev cX3_below : ByteArray := prog_5_method_3_code
def yX3_below : MethodName := ⟨RX3, "below", "(I)I"⟩
def RX4 : String := "NinePortraits$Law"
def TX4 : u_T := fun k => match k with
  | _ => ("NinePortraits$Law", "steps", "[I", true)
def tyX4 : Nat → FieldType := fun k => match k with
  | _ => .array .int
theorem nmX4 : ∀ a, a < 1 → ∀ b, b < 1 → a ≠ b → (TX4 a).2.1 ≠ (TX4 b).2.1 := by decide +kernel
theorem tyX4_ok : ∀ k, k < 1 → parseFieldDescriptor (TX4 k).2.2.1 = some (tyX4 k) := by decide +kernel
abbrev cX4_answer : ByteArray := prog_6_method_2_code
def yX4_answer : MethodName := ⟨RX4, "answer", "([I[I)I"⟩
abbrev cX4_joined : ByteArray := prog_6_method_3_code
def yX4_joined : MethodName := ⟨RX4, "joined", "(III)I"⟩
def RX5 : String := "NinePortraits$LawReader"
def TX5 : u_T := fun k => match k with
  | 0 => ("NinePortraits$LawReader", "steps", "[I", true)
  | 1 => ("NinePortraits$LawReader", "size", "I", false)
  | _ => ("NinePortraits$LawReader", "tape", "LNinePortraits$Tape;", false)
def tyX5 : Nat → FieldType := fun k => match k with
  | 0 => .array .int
  | 1 => .int
  | _ => .object "NinePortraits$Tape"
theorem nmX5 : ∀ a, a < 3 → ∀ b, b < 3 → a ≠ b → (TX5 a).2.1 ≠ (TX5 b).2.1 := by decide +kernel
theorem tyX5_ok : ∀ k, k < 3 → parseFieldDescriptor (TX5 k).2.2.1 = some (tyX5 k) := by decide +kernel
def RX6 : String := "NinePortraits$Mind"
def TX6 : u_T := fun k => match k with
  | 0 => ("NinePortraits$Mind", "court", "LNinePortraits$Court;", true)
  | 1 => ("NinePortraits$Mind", "state", "LNinePortraits$State;", true)
  | 2 => ("NinePortraits$Mind", "studio", "LNinePortraits$Studio;", true)
  | 3 => ("NinePortraits$Mind", "weights", "[J", true)
  | 4 => ("NinePortraits$Mind", "total", "J", false)
  | 5 => ("NinePortraits$Mind", "likelyFace", "I", false)
  | 6 => ("NinePortraits$Mind", "views", "[I", true)
  | 7 => ("NinePortraits$Mind", "alike", "[I", true)
  | _ => ("NinePortraits$Mind", "tellers", "[I", true)
def tyX6 : Nat → FieldType := fun k => match k with
  | 0 => .object "NinePortraits$Court"
  | 1 => .object "NinePortraits$State"
  | 2 => .object "NinePortraits$Studio"
  | 3 => .array .long
  | 4 => .long
  | 5 => .int
  | 6 => .array .int
  | 7 => .array .int
  | _ => .array .int
theorem nmX6 : ∀ a, a < 9 → ∀ b, b < 9 → a ≠ b → (TX6 a).2.1 ≠ (TX6 b).2.1 := by decide +kernel
theorem tyX6_ok : ∀ k, k < 9 → parseFieldDescriptor (TX6 k).2.2.1 = some (tyX6 k) := by decide +kernel
def RX7 : String := "NinePortraits$State"
def TX7 : u_T := fun k => match k with
  | 0 => ("NinePortraits$State", "pays", "[I", true)
  | 1 => ("NinePortraits$State", "fears", "[I", true)
  | 2 => ("NinePortraits$State", "portraits", "[I", true)
  | 3 => ("NinePortraits$State", "painted", "I", false)
  | 4 => ("NinePortraits$State", "letters", "I", false)
  | 5 => ("NinePortraits$State", "shoes", "I", false)
  | 6 => ("NinePortraits$State", "wed", "I", false)
  | 7 => ("NinePortraits$State", "purse", "I", false)
  | _ => ("NinePortraits$State", "month", "I", false)
def tyX7 : Nat → FieldType := fun k => match k with
  | 0 => .array .int
  | 1 => .array .int
  | 2 => .array .int
  | 3 => .int
  | 4 => .int
  | 5 => .int
  | 6 => .int
  | 7 => .int
  | _ => .int
theorem nmX7 : ∀ a, a < 9 → ∀ b, b < 9 → a ≠ b → (TX7 a).2.1 ≠ (TX7 b).2.1 := by decide +kernel
theorem tyX7_ok : ∀ k, k < 9 → parseFieldDescriptor (TX7 k).2.2.1 = some (tyX7 k) := by decide +kernel
abbrev cX7_begin : ByteArray := prog_9_method_2_code
def yX7_begin : MethodName := ⟨RX7, "begin", "(LNinePortraits$Court;)V"⟩
abbrev cX7_become : ByteArray := prog_9_method_3_code
def yX7_become : MethodName := ⟨RX7, "become", "(LNinePortraits$State;)V"⟩
abbrev cX7_writeRow : ByteArray := prog_9_method_4_code
def yX7_writeRow : MethodName := ⟨RX7, "writeRow", "([II)V"⟩
abbrev cX7_readRow : ByteArray := prog_9_method_5_code
def yX7_readRow : MethodName := ⟨RX7, "readRow", "([II)V"⟩
abbrev cX7_passMonth : ByteArray := prog_9_method_6_code
def yX7_passMonth : MethodName := ⟨RX7, "passMonth", "()V"⟩
abbrev cX7_hang : ByteArray := prog_9_method_7_code
def yX7_hang : MethodName := ⟨RX7, "hang", "(III)V"⟩
abbrev cX7_ofPortrait : ByteArray := prog_9_method_8_code
def yX7_ofPortrait : MethodName := ⟨RX7, "ofPortrait", "(II)I"⟩
abbrev cX7_latestBy : ByteArray := prog_9_method_9_code
def yX7_latestBy : MethodName := ⟨RX7, "latestBy", "(I)I"⟩
abbrev cX7_portraitsOf : ByteArray := prog_9_method_10_code
def yX7_portraitsOf : MethodName := ⟨RX7, "portraitsOf", "(I)I"⟩
abbrev cX7_shownTogether : ByteArray := prog_9_method_11_code
def yX7_shownTogether : MethodName := ⟨RX7, "shownTogether", "(I)I"⟩
def RX8 : String := "NinePortraits$Studio"
def TX8 : u_T := fun k => match k with
  | 0 => ("NinePortraits$Studio", "oneLooks", "[I", true)
  | 1 => ("NinePortraits$Studio", "otherLooks", "[I", true)
  | 2 => ("NinePortraits$Studio", "court", "LNinePortraits$Court;", true)
  | 3 => ("NinePortraits$Studio", "state", "LNinePortraits$State;", true)
  | 4 => ("NinePortraits$Studio", "letters", "[I", true)
  | 5 => ("NinePortraits$Studio", "stack", "[I", true)
  | _ => ("NinePortraits$Studio", "law", "LNinePortraits$Law;", false)
def tyX8 : Nat → FieldType := fun k => match k with
  | 0 => .array .int
  | 1 => .array .int
  | 2 => .object "NinePortraits$Court"
  | 3 => .object "NinePortraits$State"
  | 4 => .array .int
  | 5 => .array .int
  | _ => .object "NinePortraits$Law"
theorem nmX8 : ∀ a, a < 7 → ∀ b, b < 7 → a ≠ b → (TX8 a).2.1 ≠ (TX8 b).2.1 := by decide +kernel
theorem tyX8_ok : ∀ k, k < 7 → parseFieldDescriptor (TX8 k).2.2.1 = some (tyX8 k) := by decide +kernel
abbrev cX8_flatteryFor : ByteArray := prog_10_method_2_code
def yX8_flatteryFor : MethodName := ⟨RX8, "flatteryFor", "(II)I"⟩
abbrev cX8_lookOf : ByteArray := prog_10_method_3_code
def yX8_lookOf : MethodName := ⟨RX8, "lookOf", "(IIII)I"⟩
abbrev cX8_showOf : ByteArray := prog_10_method_4_code
def yX8_showOf : MethodName := ⟨RX8, "showOf", "(III)I"⟩
def RX9 : String := "NinePortraits$Tape"
def TX9 : u_T := fun k => match k with
  | 0 => ("NinePortraits$Tape", "bytes", "[I", true)
  | 1 => ("NinePortraits$Tape", "length", "I", false)
  | _ => ("NinePortraits$Tape", "at", "I", false)
def tyX9 : Nat → FieldType := fun k => match k with
  | 0 => .array .int
  | 1 => .int
  | _ => .int
theorem nmX9 : ∀ a, a < 3 → ∀ b, b < 3 → a ≠ b → (TX9 a).2.1 ≠ (TX9 b).2.1 := by decide +kernel
theorem tyX9_ok : ∀ k, k < 3 → parseFieldDescriptor (TX9 k).2.2.1 = some (tyX9 k) := by decide +kernel
abbrev cX9_add : ByteArray := prog_11_method_2_code
def yX9_add : MethodName := ⟨RX9, "add", "(I)V"⟩
abbrev cX9_peek : ByteArray := prog_11_method_3_code
def yX9_peek : MethodName := ⟨RX9, "peek", "()I"⟩
abbrev cX9_takes : ByteArray := prog_11_method_4_code
def yX9_takes : MethodName := ⟨RX9, "takes", "(I)Z"⟩
abbrev cX9_number : ByteArray := prog_11_method_5_code
def yX9_number : MethodName := ⟨RX9, "number", "(II)I"⟩
def RX10 : String := "NinePortraits"
def TX10 : u_T := fun k => match k with
  | 0 => ("NinePortraits", "tape", "LNinePortraits$Tape;", true)
  | 1 => ("NinePortraits", "courtReader", "LNinePortraits$CourtReader;", true)
  | 2 => ("NinePortraits", "lawReader", "LNinePortraits$LawReader;", true)
  | 3 => ("NinePortraits", "draft", "LNinePortraits$Court;", true)
  | 4 => ("NinePortraits", "court", "LNinePortraits$Court;", true)
  | 5 => ("NinePortraits", "laws", "[LNinePortraits$Law;", true)
  | 6 => ("NinePortraits", "state", "LNinePortraits$State;", true)
  | 7 => ("NinePortraits", "kept", "LNinePortraits$State;", true)
  | 8 => ("NinePortraits", "acts", "LNinePortraits$Acts;", true)
  | 9 => ("NinePortraits", "studio", "LNinePortraits$Studio;", true)
  | 10 => ("NinePortraits", "mind", "LNinePortraits$Mind;", true)
  | 11 => ("NinePortraits", "draws", "LNinePortraits$Draws;", true)
  | 12 => ("NinePortraits", "refused", "[I", true)
  | 13 => ("NinePortraits", "lawCount", "I", false)
  | 14 => ("NinePortraits", "lawThatHolds", "I", false)
  | 15 => ("NinePortraits", "bribery", "I", false)
  | _ => ("NinePortraits", "hasImage", "Z", false)
def tyX10 : Nat → FieldType := fun k => match k with
  | 0 => .object "NinePortraits$Tape"
  | 1 => .object "NinePortraits$CourtReader"
  | 2 => .object "NinePortraits$LawReader"
  | 3 => .object "NinePortraits$Court"
  | 4 => .object "NinePortraits$Court"
  | 5 => .array (.object "NinePortraits$Law")
  | 6 => .object "NinePortraits$State"
  | 7 => .object "NinePortraits$State"
  | 8 => .object "NinePortraits$Acts"
  | 9 => .object "NinePortraits$Studio"
  | 10 => .object "NinePortraits$Mind"
  | 11 => .object "NinePortraits$Draws"
  | 12 => .array .int
  | 13 => .int
  | 14 => .int
  | 15 => .int
  | _ => .boolean
theorem nmX10 : ∀ a, a < 17 → ∀ b, b < 17 → a ≠ b → (TX10 a).2.1 ≠ (TX10 b).2.1 := by decide +kernel
theorem tyX10_ok : ∀ k, k < 17 → parseFieldDescriptor (TX10 k).2.2.1 = some (tyX10 k) := by decide +kernel
abbrev cX10_gain : ByteArray := prog_1_method_41_code
def yX10_gain : MethodName := ⟨RX10, "gain", "(III)I"⟩
abbrev cX10_hasCourt : ByteArray := prog_1_method_64_code
def yX10_hasCourt : MethodName := ⟨RX10, "hasCourt", "()Z"⟩
abbrev cX10_isBride : ByteArray := prog_1_method_65_code
def yX10_isBride : MethodName := ⟨RX10, "isBride", "(I)Z"⟩
abbrev cX10_isPainter : ByteArray := prog_1_method_66_code
def yX10_isPainter : MethodName := ⟨RX10, "isPainter", "(I)Z"⟩
abbrev cX10_isFace : ByteArray := prog_1_method_69_code
def yX10_isFace : MethodName := ⟨RX10, "isFace", "(I)Z"⟩
abbrev cX10_isDigit : ByteArray := prog_1_method_70_code
def yX10_isDigit : MethodName := ⟨RX10, "isDigit", "(I)Z"⟩
abbrev cX10_bit : ByteArray := prog_1_method_71_code
def yX10_bit : MethodName := ⟨RX10, "bit", "(II)I"⟩
def RX11 : String := "NinePortraitsModel"
def TX11 : u_T := fun k => match k with
  | 0 => ("NinePortraitsModel", "thrown", "I", false)
  | 1 => ("NinePortraitsModel", "tape", "[I", true)
  | 2 => ("NinePortraitsModel", "size", "I", false)
  | 3 => ("NinePortraitsModel", "at", "I", false)
  | 4 => ("NinePortraitsModel", "wrong", "I", false)
  | 5 => ("NinePortraitsModel", "deep", "I", false)
  | 6 => ("NinePortraitsModel", "code", "[I", true)
  | 7 => ("NinePortraitsModel", "value", "[I", true)
  | 8 => ("NinePortraitsModel", "codes", "[I", true)
  | 9 => ("NinePortraitsModel", "clauses", "[I", true)
  | 10 => ("NinePortraitsModel", "testFrom", "[I", true)
  | 11 => ("NinePortraitsModel", "sumFrom", "[I", true)
  | 12 => ("NinePortraitsModel", "sumTo", "[I", true)
  | 13 => ("NinePortraitsModel", "laws", "I", false)
  | 14 => ("NinePortraitsModel", "text", "I", false)
  | 15 => ("NinePortraitsModel", "letters", "[I", true)
  | 16 => ("NinePortraitsModel", "stack", "[I", true)
  | 17 => ("NinePortraitsModel", "readRule", "[I", true)
  | 18 => ("NinePortraitsModel", "readBride", "[I", true)
  | 19 => ("NinePortraitsModel", "readPainter", "[I", true)
  | 20 => ("NinePortraitsModel", "readBrides", "I", false)
  | 21 => ("NinePortraitsModel", "readPainters", "I", false)
  | 22 => ("NinePortraitsModel", "rule", "[I", true)
  | 23 => ("NinePortraitsModel", "bride", "[I", true)
  | 24 => ("NinePortraitsModel", "painter", "[I", true)
  | 25 => ("NinePortraitsModel", "brides", "I", false)
  | 26 => ("NinePortraitsModel", "painters", "I", false)
  | 27 => ("NinePortraitsModel", "now", "[I", true)
  | 28 => ("NinePortraitsModel", "refused", "[I", true)
  | 29 => ("NinePortraitsModel", "holding", "I", false)
  | 30 => ("NinePortraitsModel", "bribes", "I", false)
  | 31 => ("NinePortraitsModel", "kept", "[I", true)
  | 32 => ("NinePortraitsModel", "acts", "I", false)
  | 33 => ("NinePortraitsModel", "draws", "J", false)
  | 34 => ("NinePortraitsModel", "beliefs", "[I", true)
  | 35 => ("NinePortraitsModel", "sendRow", "I", false)
  | 36 => ("NinePortraitsModel", "sendFees", "I", false)
  | 37 => ("NinePortraitsModel", "askedBy", "[I", true)
  | 38 => ("NinePortraitsModel", "holdsOne", "[I", true)
  | 39 => ("NinePortraitsModel", "image", "[I", true)
  | _ => ("NinePortraitsModel", "hasImage", "Z", false)
def tyX11 : Nat → FieldType := fun k => match k with
  | 0 => .int
  | 1 => .array .int
  | 2 => .int
  | 3 => .int
  | 4 => .int
  | 5 => .int
  | 6 => .array .int
  | 7 => .array .int
  | 8 => .array .int
  | 9 => .array .int
  | 10 => .array .int
  | 11 => .array .int
  | 12 => .array .int
  | 13 => .int
  | 14 => .int
  | 15 => .array .int
  | 16 => .array .int
  | 17 => .array .int
  | 18 => .array .int
  | 19 => .array .int
  | 20 => .int
  | 21 => .int
  | 22 => .array .int
  | 23 => .array .int
  | 24 => .array .int
  | 25 => .int
  | 26 => .int
  | 27 => .array .int
  | 28 => .array .int
  | 29 => .int
  | 30 => .int
  | 31 => .array .int
  | 32 => .int
  | 33 => .long
  | 34 => .array .int
  | 35 => .int
  | 36 => .int
  | 37 => .array .int
  | 38 => .array .int
  | 39 => .array .int
  | _ => .boolean
theorem nmX11 : ∀ a, a < 41 → ∀ b, b < 41 → a ≠ b → (TX11 a).2.1 ≠ (TX11 b).2.1 := by decide +kernel
theorem tyX11_ok : ∀ k, k < 41 → parseFieldDescriptor (TX11 k).2.2.1 = some (tyX11 k) := by decide +kernel
def RL : String := "NinePortraitsLaw"
abbrev vwCl : List vw_C := [(RX0, TX0, 3), (RX1, TX1, 5), (RX2, TX2, 3), (RX3, TX3, 1), (RX4, TX4, 1), (RX5, TX5, 3), (RX6, TX6, 9), (RX7, TX7, 9), (RX8, TX8, 7), (RX9, TX9, 3), (RX10, TX10, 17), (RX11, TX11, 41)]
