section
/-! names, fields, types, codes: as the printed NAMES of this claim has them (its law and pool left out); the words of all methods in one list -/
def RX0 : String := "OffForSecond$Pitches"
def TX0 : u_T := fun k => match k with
  | 0 => ("OffForSecond$Pitches", "kind", "[I", true)
  | 1 => ("OffForSecond$Pitches", "m", "[I", true)
  | 2 => ("OffForSecond$Pitches", "weight", "[I", true)
  | 3 => ("OffForSecond$Pitches", "thrown", "[I", true)
  | _ => ("OffForSecond$Pitches", "size", "I", false)
def tyX0 : Nat → FieldType := fun k => match k with
  | 0 => .array .int
  | 1 => .array .int
  | 2 => .array .int
  | 3 => .array .int
  | _ => .int
abbrev wsX00 : List Cond := u_ws RX0 TX0 5
theorem nmX0 : ∀ a, a < 5 → ∀ b, b < 5 → a ≠ b → (TX0 a).2.1 ≠ (TX0 b).2.1 := by decide +kernel
theorem tyX0_ok : ∀ k, k < 5 → parseFieldDescriptor (TX0 k).2.2.1 = some (tyX0 k) := by decide +kernel
abbrev cX0_init : ByteArray := prog_2_method_1_code
def yX0_init : MethodName := ⟨RX0, "<init>", "()V"⟩
abbrev cX0_add : ByteArray := prog_2_method_2_code
def yX0_add : MethodName := ⟨RX0, "add", "(II)I"⟩
abbrev cX0_allWeights : ByteArray := prog_2_method_3_code
def yX0_allWeights : MethodName := ⟨RX0, "allWeights", "()I"⟩
abbrev cX0_byWeight : ByteArray := prog_2_method_4_code
def yX0_byWeight : MethodName := ⟨RX0, "byWeight", "(I)I"⟩
abbrev cX0_takes : ByteArray := prog_2_method_5_code
def yX0_takes : MethodName := ⟨RX0, "takes", "(LOffForSecond$Pitches;)V"⟩
def RX1 : String := "OffForSecond$Reader"
def TX1 : u_T := fun k => match k with
  | 0 => ("OffForSecond$Reader", "draft", "LOffForSecond$Text;", true)
  | 1 => ("OffForSecond$Reader", "signs", "[I", true)
  | 2 => ("OffForSecond$Reader", "height", "I", false)
  | 3 => ("OffForSecond$Reader", "open", "I", false)
  | 4 => ("OffForSecond$Reader", "groups", "I", false)
  | 5 => ("OffForSecond$Reader", "digits", "I", false)
  | _ => ("OffForSecond$Reader", "wantsOne", "Z", false)
def tyX1 : Nat → FieldType := fun k => match k with
  | 0 => .object "OffForSecond$Text"
  | 1 => .array .int
  | 2 => .int
  | 3 => .int
  | 4 => .int
  | 5 => .int
  | _ => .boolean
abbrev wsX10 : List Cond := u_ws RX1 TX1 7
theorem nmX1 : ∀ a, a < 7 → ∀ b, b < 7 → a ≠ b → (TX1 a).2.1 ≠ (TX1 b).2.1 := by decide +kernel
theorem tyX1_ok : ∀ k, k < 7 → parseFieldDescriptor (TX1 k).2.2.1 = some (tyX1 k) := by decide +kernel
abbrev cX1_init : ByteArray := prog_3_method_1_code
def yX1_init : MethodName := ⟨RX1, "<init>", "()V"⟩
abbrev cX1_faultOf : ByteArray := prog_3_method_2_code
def yX1_faultOf : MethodName := ⟨RX1, "faultOf", "([BII)I"⟩
abbrev cX1_begins : ByteArray := prog_3_method_3_code
def yX1_begins : MethodName := ⟨RX1, "begins", "(II)Z"⟩
abbrev cX1_continues : ByteArray := prog_3_method_4_code
def yX1_continues : MethodName := ⟨RX1, "continues", "(I)Z"⟩
abbrev cX1_lengthens : ByteArray := prog_3_method_5_code
def yX1_lengthens : MethodName := ⟨RX1, "lengthens", "(I)Z"⟩
abbrev cX1_closes : ByteArray := prog_3_method_6_code
def yX1_closes : MethodName := ⟨RX1, "closes", "()Z"⟩
abbrev cX1_settle : ByteArray := prog_3_method_7_code
def yX1_settle : MethodName := ⟨RX1, "settle", "(I)V"⟩
abbrev cX1_park : ByteArray := prog_3_method_8_code
def yX1_park : MethodName := ⟨RX1, "park", "(I)V"⟩
abbrev cX1_isNumeral : ByteArray := prog_3_method_9_code
def yX1_isNumeral : MethodName := ⟨RX1, "isNumeral", "(I)Z"⟩
abbrev cX1_rankOf : ByteArray := prog_3_method_10_code
def yX1_rankOf : MethodName := ⟨RX1, "rankOf", "(I)I"⟩
def RX2 : String := "OffForSecond$Runners"
def TX2 : u_T := fun k => match k with
  | 0 => ("OffForSecond$Runners", "start", "[I", true)
  | 1 => ("OffForSecond$Runners", "pace", "[I", true)
  | 2 => ("OffForSecond$Runners", "lead", "[I", true)
  | 3 => ("OffForSecond$Runners", "stolen", "[I", true)
  | 4 => ("OffForSecond$Runners", "caught", "[I", true)
  | _ => ("OffForSecond$Runners", "size", "I", false)
def tyX2 : Nat → FieldType := fun k => match k with
  | 0 => .array .int
  | 1 => .array .int
  | 2 => .array .int
  | 3 => .array .int
  | 4 => .array .int
  | _ => .int
abbrev wsX20 : List Cond := u_ws RX2 TX2 6
theorem nmX2 : ∀ a, a < 6 → ∀ b, b < 6 → a ≠ b → (TX2 a).2.1 ≠ (TX2 b).2.1 := by decide +kernel
theorem tyX2_ok : ∀ k, k < 6 → parseFieldDescriptor (TX2 k).2.2.1 = some (tyX2 k) := by decide +kernel
abbrev cX2_init : ByteArray := prog_4_method_1_code
def yX2_init : MethodName := ⟨RX2, "<init>", "()V"⟩
abbrev cX2_add : ByteArray := prog_4_method_2_code
def yX2_add : MethodName := ⟨RX2, "add", "(II)I"⟩
abbrev cX2_runFrom : ByteArray := prog_4_method_3_code
def yX2_runFrom : MethodName := ⟨RX2, "runFrom", "(II)I"⟩
abbrev cX2_backFrom : ByteArray := prog_4_method_4_code
def yX2_backFrom : MethodName := ⟨RX2, "backFrom", "(II)I"⟩
abbrev cX2_takes : ByteArray := prog_4_method_5_code
def yX2_takes : MethodName := ⟨RX2, "takes", "(LOffForSecond$Runners;)V"⟩
def RX3 : String := "OffForSecond$Scene"
def TX3 : u_T := fun k => match k with
  | 0 => ("OffForSecond$Scene", "pitches", "LOffForSecond$Pitches;", true)
  | 1 => ("OffForSecond$Scene", "runners", "LOffForSecond$Runners;", true)
  | 2 => ("OffForSecond$Scene", "airText", "LOffForSecond$Text;", true)
  | 3 => ("OffForSecond$Scene", "gainText", "LOffForSecond$Text;", true)
  | 4 => ("OffForSecond$Scene", "tape", "[B", true)
  | 5 => ("OffForSecond$Scene", "taped", "I", false)
  | 6 => ("OffForSecond$Scene", "waiting", "[I", true)
  | 7 => ("OffForSecond$Scene", "waits", "I", false)
  | 8 => ("OffForSecond$Scene", "lift", "I", false)
  | 9 => ("OffForSecond$Scene", "pop", "I", false)
  | 10 => ("OffForSecond$Scene", "wet", "I", false)
  | 11 => ("OffForSecond$Scene", "outs", "I", false)
  | 12 => ("OffForSecond$Scene", "innings", "I", false)
  | 13 => ("OffForSecond$Scene", "worth", "I", false)
  | _ => ("OffForSecond$Scene", "z", "I", false)
def tyX3 : Nat → FieldType := fun k => match k with
  | 0 => .object "OffForSecond$Pitches"
  | 1 => .object "OffForSecond$Runners"
  | 2 => .object "OffForSecond$Text"
  | 3 => .object "OffForSecond$Text"
  | 4 => .array .byte
  | 5 => .int
  | 6 => .array .int
  | 7 => .int
  | 8 => .int
  | 9 => .int
  | 10 => .int
  | 11 => .int
  | 12 => .int
  | 13 => .int
  | _ => .int
abbrev wsX30 : List Cond := u_ws RX3 TX3 15
theorem nmX3 : ∀ a, a < 15 → ∀ b, b < 15 → a ≠ b → (TX3 a).2.1 ≠ (TX3 b).2.1 := by decide +kernel
theorem tyX3_ok : ∀ k, k < 15 → parseFieldDescriptor (TX3 k).2.2.1 = some (tyX3 k) := by decide +kernel
abbrev cX3_init : ByteArray := prog_5_method_1_code
def yX3_init : MethodName := ⟨RX3, "<init>", "()V"⟩
abbrev cX3_takes : ByteArray := prog_5_method_2_code
def yX3_takes : MethodName := ⟨RX3, "takes", "(LOffForSecond$Scene;)V"⟩
abbrev cX3_change : ByteArray := prog_5_method_3_code
def yX3_change : MethodName := ⟨RX3, "change", "(II)I"⟩
abbrev cX3_textOf : ByteArray := prog_5_method_4_code
def yX3_textOf : MethodName := ⟨RX3, "textOf", "(I)LOffForSecond$Text;"⟩
abbrev cX3_gives : ByteArray := prog_5_method_5_code
def yX3_gives : MethodName := ⟨RX3, "gives", "(IIII)I"⟩
abbrev cX3_airByKind : ByteArray := prog_5_method_6_code
def yX3_airByKind : MethodName := ⟨RX3, "airByKind", "(I)I"⟩
abbrev cX3_air : ByteArray := prog_5_method_7_code
def yX3_air : MethodName := ⟨RX3, "air", "(I)I"⟩
abbrev cX3_costs : ByteArray := prog_5_method_8_code
def yX3_costs : MethodName := ⟨RX3, "costs", "(I)I"⟩
abbrev cX3_isPicked : ByteArray := prog_5_method_9_code
def yX3_isPicked : MethodName := ⟨RX3, "isPicked", "(II)Z"⟩
abbrev cX3_marginFrom : ByteArray := prog_5_method_10_code
def yX3_marginFrom : MethodName := ⟨RX3, "marginFrom", "(III)I"⟩
abbrev cX3_gainOf : ByteArray := prog_5_method_11_code
def yX3_gainOf : MethodName := ⟨RX3, "gainOf", "(I)I"⟩
abbrev cX3_gainFrom : ByteArray := prog_5_method_12_code
def yX3_gainFrom : MethodName := ⟨RX3, "gainFrom", "(III)I"⟩
abbrev cX3_weighedGains : ByteArray := prog_5_method_13_code
def yX3_weighedGains : MethodName := ⟨RX3, "weighedGains", "(II)I"⟩
abbrev cX3_safeWeights : ByteArray := prog_5_method_14_code
def yX3_safeWeights : MethodName := ⟨RX3, "safeWeights", "(II)I"⟩
abbrev cX3_safePitches : ByteArray := prog_5_method_15_code
def yX3_safePitches : MethodName := ⟨RX3, "safePitches", "(II)I"⟩
abbrev cX3_goes : ByteArray := prog_5_method_16_code
def yX3_goes : MethodName := ⟨RX3, "goes", "(II)Z"⟩
abbrev cX3_isOut : ByteArray := prog_5_method_17_code
def yX3_isOut : MethodName := ⟨RX3, "isOut", "(I)V"⟩
abbrev cX3_draw : ByteArray := prog_5_method_18_code
def yX3_draw : MethodName := ⟨RX3, "draw", "()I"⟩
abbrev cX3_isSafeByDraws : ByteArray := prog_5_method_19_code
def yX3_isSafeByDraws : MethodName := ⟨RX3, "isSafeByDraws", "()Z"⟩
abbrev cX3_held : ByteArray := prog_5_method_20_code
def yX3_held : MethodName := ⟨RX3, "held", "(III)I"⟩
abbrev cX3_oneMore : ByteArray := prog_5_method_21_code
def yX3_oneMore : MethodName := ⟨RX3, "oneMore", "(I)I"⟩
def RX4 : String := "OffForSecond$Sheets"
def TX4 : u_T := fun k => match k with
  | 0 => ("OffForSecond$Sheets", "bits", "[I", true)
  | 1 => ("OffForSecond$Sheets", "size", "[I", true)
  | _ => ("OffForSecond$Sheets", "numbers", "[I", true)
def tyX4 : Nat → FieldType := fun k => match k with
  | 0 => .array .int
  | 1 => .array .int
  | _ => .array .int
abbrev wsX40 : List Cond := u_ws RX4 TX4 3
theorem nmX4 : ∀ a, a < 3 → ∀ b, b < 3 → a ≠ b → (TX4 a).2.1 ≠ (TX4 b).2.1 := by decide +kernel
theorem tyX4_ok : ∀ k, k < 3 → parseFieldDescriptor (TX4 k).2.2.1 = some (tyX4 k) := by decide +kernel
abbrev cX4_init : ByteArray := prog_6_method_1_code
def yX4_init : MethodName := ⟨RX4, "<init>", "()V"⟩
abbrev cX4_isMissing : ByteArray := prog_6_method_2_code
def yX4_isMissing : MethodName := ⟨RX4, "isMissing", "(I)Z"⟩
abbrev cX4_lay : ByteArray := prog_6_method_3_code
def yX4_lay : MethodName := ⟨RX4, "lay", "(III)V"⟩
abbrev cX4_standsAt : ByteArray := prog_6_method_4_code
def yX4_standsAt : MethodName := ⟨RX4, "standsAt", "(III)Z"⟩
abbrev cX4_read : ByteArray := prog_6_method_5_code
def yX4_read : MethodName := ⟨RX4, "read", "(II)I"⟩
abbrev cX4_write : ByteArray := prog_6_method_6_code
def yX4_write : MethodName := ⟨RX4, "write", "(III)V"⟩
abbrev cX4_copy : ByteArray := prog_6_method_7_code
def yX4_copy : MethodName := ⟨RX4, "copy", "(IIIII)V"⟩
def RX5 : String := "OffForSecond$Text"
def TX5 : u_T := fun k => match k with
  | 0 => ("OffForSecond$Text", "steps", "[I", true)
  | 1 => ("OffForSecond$Text", "stack", "[I", true)
  | 2 => ("OffForSecond$Text", "size", "I", false)
  | _ => ("OffForSecond$Text", "isThere", "Z", false)
def tyX5 : Nat → FieldType := fun k => match k with
  | 0 => .array .int
  | 1 => .array .int
  | 2 => .int
  | _ => .boolean
abbrev wsX50 : List Cond := u_ws RX5 TX5 4
theorem nmX5 : ∀ a, a < 4 → ∀ b, b < 4 → a ≠ b → (TX5 a).2.1 ≠ (TX5 b).2.1 := by decide +kernel
theorem tyX5_ok : ∀ k, k < 4 → parseFieldDescriptor (TX5 k).2.2.1 = some (tyX5 k) := by decide +kernel
abbrev cX5_init : ByteArray := prog_7_method_1_code
def yX5_init : MethodName := ⟨RX5, "<init>", "()V"⟩
abbrev cX5_takes : ByteArray := prog_7_method_2_code
def yX5_takes : MethodName := ⟨RX5, "takes", "(LOffForSecond$Text;)V"⟩
abbrev cX5_add : ByteArray := prog_7_method_3_code
def yX5_add : MethodName := ⟨RX5, "add", "(I)V"⟩
abbrev cX5_work : ByteArray := prog_7_method_4_code
def yX5_work : MethodName := ⟨RX5, "work", "(III)I"⟩
abbrev cX5_named : ByteArray := prog_7_method_5_code
def yX5_named : MethodName := ⟨RX5, "named", "(IIII)I"⟩
abbrev cX5_joined : ByteArray := prog_7_method_6_code
def yX5_joined : MethodName := ⟨RX5, "joined", "(III)I"⟩
def RX6 : String := "OffForSecond$Throat"
def TX6 : u_T := fun k => match k with
  | 0 => ("OffForSecond$Throat", "trace", "[I", true)
  | 1 => ("OffForSecond$Throat", "traced", "I", false)
  | 2 => ("OffForSecond$Throat", "parted", "Z", false)
  | 3 => ("OffForSecond$Throat", "k", "I", false)
  | 4 => ("OffForSecond$Throat", "m", "I", false)
  | _ => ("OffForSecond$Throat", "kind", "I", false)
def tyX6 : Nat → FieldType := fun k => match k with
  | 0 => .array .int
  | 1 => .int
  | 2 => .boolean
  | 3 => .int
  | 4 => .int
  | _ => .int
abbrev wsX60 : List Cond := u_ws RX6 TX6 6
theorem nmX6 : ∀ a, a < 6 → ∀ b, b < 6 → a ≠ b → (TX6 a).2.1 ≠ (TX6 b).2.1 := by decide +kernel
theorem tyX6_ok : ∀ k, k < 6 → parseFieldDescriptor (TX6 k).2.2.1 = some (tyX6 k) := by decide +kernel
abbrev cX6_init : ByteArray := prog_8_method_1_code
def yX6_init : MethodName := ⟨RX6, "<init>", "()V"⟩
abbrev cX6_speak : ByteArray := prog_8_method_2_code
def yX6_speak : MethodName := ⟨RX6, "speak", "(IIIII)I"⟩
abbrev cX6_say : ByteArray := prog_8_method_3_code
def yX6_say : MethodName := ⟨RX6, "say", "(IIII)I"⟩
abbrev cX6_partsOfCurve : ByteArray := prog_8_method_4_code
def yX6_partsOfCurve : MethodName := ⟨RX6, "partsOfCurve", "(II)I"⟩
abbrev cX6_parts : ByteArray := prog_8_method_5_code
def yX6_parts : MethodName := ⟨RX6, "parts", "(I)I"⟩
abbrev cX6_begin : ByteArray := prog_8_method_6_code
def yX6_begin : MethodName := ⟨RX6, "begin", "(I)V"⟩
abbrev cX6_bodyOf : ByteArray := prog_8_method_7_code
def yX6_bodyOf : MethodName := ⟨RX6, "bodyOf", "(II)I"⟩
def RX7 : String := "OffForSecond"
def TX7 : u_T := fun k => match k with
  | 0 => ("OffForSecond", "scene", "LOffForSecond$Scene;", true)
  | 1 => ("OffForSecond", "kept", "LOffForSecond$Scene;", true)
  | 2 => ("OffForSecond", "reader", "LOffForSecond$Reader;", true)
  | 3 => ("OffForSecond", "sheets", "LOffForSecond$Sheets;", true)
  | 4 => ("OffForSecond", "throat", "LOffForSecond$Throat;", true)
  | 5 => ("OffForSecond", "errors", "[I", true)
  | _ => ("OffForSecond", "images", "I", false)
def tyX7 : Nat → FieldType := fun k => match k with
  | 0 => .object "OffForSecond$Scene"
  | 1 => .object "OffForSecond$Scene"
  | 2 => .object "OffForSecond$Reader"
  | 3 => .object "OffForSecond$Sheets"
  | 4 => .object "OffForSecond$Throat"
  | 5 => .array .int
  | _ => .int
abbrev wsX70 : List Cond := u_ws RX7 TX7 7
theorem nmX7 : ∀ a, a < 7 → ∀ b, b < 7 → a ≠ b → (TX7 a).2.1 ≠ (TX7 b).2.1 := by decide +kernel
theorem tyX7_ok : ∀ k, k < 7 → parseFieldDescriptor (TX7 k).2.2.1 = some (tyX7 k) := by decide +kernel
abbrev cX7_init : ByteArray := prog_1_method_1_code
def yX7_init : MethodName := ⟨RX7, "<init>", "()V"⟩
abbrev cX7_pitch : ByteArray := prog_1_method_2_code
def yX7_pitch : MethodName := ⟨RX7, "pitch", "(II)I"⟩
abbrev cX7_pitchIs : ByteArray := prog_1_method_3_code
def yX7_pitchIs : MethodName := ⟨RX7, "pitchIs", "(II)I"⟩
abbrev cX7_become : ByteArray := prog_1_method_4_code
def yX7_become : MethodName := ⟨RX7, "become", "(II)I"⟩
abbrev cX7_as : ByteArray := prog_1_method_5_code
def yX7_as : MethodName := ⟨RX7, "as", "(II)I"⟩
abbrev cX7_weighs : ByteArray := prog_1_method_6_code
def yX7_weighs : MethodName := ⟨RX7, "weighs", "(II)I"⟩
abbrev cX7_runner : ByteArray := prog_1_method_7_code
def yX7_runner : MethodName := ⟨RX7, "runner", "(II)I"⟩
abbrev cX7_runnerIs : ByteArray := prog_1_method_8_code
def yX7_runnerIs : MethodName := ⟨RX7, "runnerIs", "(II)I"⟩
abbrev cX7_leads : ByteArray := prog_1_method_9_code
def yX7_leads : MethodName := ⟨RX7, "leads", "(II)I"⟩
abbrev cX7_set : ByteArray := prog_1_method_10_code
def yX7_set : MethodName := ⟨RX7, "set", "(II)I"⟩
abbrev cX7_steal : ByteArray := prog_1_method_11_code
def yX7_steal : MethodName := ⟨RX7, "steal", "(II)I"⟩
abbrev cX7_over : ByteArray := prog_1_method_12_code
def yX7_over : MethodName := ⟨RX7, "over", "(I)I"⟩
abbrev cX7_feed : ByteArray := prog_1_method_13_code
def yX7_feed : MethodName := ⟨RX7, "feed", "(JI)I"⟩
abbrev cX7_text : ByteArray := prog_1_method_14_code
def yX7_text : MethodName := ⟨RX7, "text", "(I)I"⟩
abbrev cX7_untell : ByteArray := prog_1_method_15_code
def yX7_untell : MethodName := ⟨RX7, "untell", "(I)I"⟩
abbrev cX7_law : ByteArray := prog_1_method_16_code
def yX7_law : MethodName := ⟨RX7, "law", "(IIII)I"⟩
abbrev cX7_margin : ByteArray := prog_1_method_17_code
def yX7_margin : MethodName := ⟨RX7, "margin", "(III)I"⟩
abbrev cX7_leadFor : ByteArray := prog_1_method_18_code
def yX7_leadFor : MethodName := ⟨RX7, "leadFor", "(II)I"⟩
abbrev cX7_bestLead : ByteArray := prog_1_method_19_code
def yX7_bestLead : MethodName := ⟨RX7, "bestLead", "(II)I"⟩
abbrev cX7_odds : ByteArray := prog_1_method_20_code
def yX7_odds : MethodName := ⟨RX7, "odds", "(II)I"⟩
abbrev cX7_go : ByteArray := prog_1_method_21_code
def yX7_go : MethodName := ⟨RX7, "go", "(II)I"⟩
abbrev cX7_duel : ByteArray := prog_1_method_22_code
def yX7_duel : MethodName := ⟨RX7, "duel", "(IIII)I"⟩
abbrev cX7_surely : ByteArray := prog_1_method_23_code
def yX7_surely : MethodName := ⟨RX7, "surely", "(II)I"⟩
abbrev cX7_fits : ByteArray := prog_1_method_24_code
def yX7_fits : MethodName := ⟨RX7, "fits", "(III)I"⟩
abbrev cX7_loose : ByteArray := prog_1_method_25_code
def yX7_loose : MethodName := ⟨RX7, "loose", "(I)I"⟩
abbrev cX7_seed : ByteArray := prog_1_method_26_code
def yX7_seed : MethodName := ⟨RX7, "seed", "(I)I"⟩
abbrev cX7_voice : ByteArray := prog_1_method_27_code
def yX7_voice : MethodName := ⟨RX7, "voice", "(III)I"⟩
abbrev cX7_body : ByteArray := prog_1_method_28_code
def yX7_body : MethodName := ⟨RX7, "body", "(I)I"⟩
abbrev cX7_sheet : ByteArray := prog_1_method_29_code
def yX7_sheet : MethodName := ⟨RX7, "sheet", "(III)I"⟩
abbrev cX7_put : ByteArray := prog_1_method_30_code
def yX7_put : MethodName := ⟨RX7, "put", "(III)I"⟩
abbrev cX7_move : ByteArray := prog_1_method_31_code
def yX7_move : MethodName := ⟨RX7, "move", "(IIIII)I"⟩
abbrev cX7_weightsBy : ByteArray := prog_1_method_32_code
def yX7_weightsBy : MethodName := ⟨RX7, "weightsBy", "(I)I"⟩
abbrev cX7_judge : ByteArray := prog_1_method_33_code
def yX7_judge : MethodName := ⟨RX7, "judge", "(I)I"⟩
abbrev cX7_image : ByteArray := prog_1_method_34_code
def yX7_image : MethodName := ⟨RX7, "image", "()I"⟩
abbrev cX7_restore : ByteArray := prog_1_method_35_code
def yX7_restore : MethodName := ⟨RX7, "restore", "()I"⟩
abbrev cX7_tell : ByteArray := prog_1_method_36_code
def yX7_tell : MethodName := ⟨RX7, "tell", "(I)I"⟩
abbrev cX7_check : ByteArray := prog_1_method_37_code
def yX7_check : MethodName := ⟨RX7, "check", "()I"⟩
abbrev cX7_count : ByteArray := prog_1_method_38_code
def yX7_count : MethodName := ⟨RX7, "count", "(I)I"⟩
abbrev cX7_told : ByteArray := prog_1_method_39_code
def yX7_told : MethodName := ⟨RX7, "told", "(I)I"⟩
abbrev cX7_error : ByteArray := prog_1_method_40_code
def yX7_error : MethodName := ⟨RX7, "error", "(I)I"⟩
abbrev cX7_isPitch : ByteArray := prog_1_method_41_code
def yX7_isPitch : MethodName := ⟨RX7, "isPitch", "(I)Z"⟩
abbrev cX7_isRunner : ByteArray := prog_1_method_42_code
def yX7_isRunner : MethodName := ⟨RX7, "isRunner", "(I)Z"⟩
abbrev cX7_within : ByteArray := prog_1_method_43_code
def yX7_within : MethodName := ⟨RX7, "within", "(III)Z"⟩
abbrev cX7_isDigit : ByteArray := prog_1_method_44_code
def yX7_isDigit : MethodName := ⟨RX7, "isDigit", "(I)Z"⟩
abbrev cX7_isKindAndM : ByteArray := prog_1_method_45_code
def yX7_isKindAndM : MethodName := ⟨RX7, "isKindAndM", "(I)Z"⟩
abbrev cX7_isFeet : ByteArray := prog_1_method_46_code
def yX7_isFeet : MethodName := ⟨RX7, "isFeet", "(I)Z"⟩
abbrev cX7_isUse : ByteArray := prog_1_method_47_code
def yX7_isUse : MethodName := ⟨RX7, "isUse", "(I)Z"⟩
abbrev cX7_isSheet : ByteArray := prog_1_method_48_code
def yX7_isSheet : MethodName := ⟨RX7, "isSheet", "(I)Z"⟩
abbrev cX7_mostOfSetting : ByteArray := prog_1_method_49_code
def yX7_mostOfSetting : MethodName := ⟨RX7, "mostOfSetting", "(I)I"⟩
abbrev cX7_isUnder : ByteArray := prog_1_method_50_code
def yX7_isUnder : MethodName := ⟨RX7, "isUnder", "(II)Z"⟩
abbrev cX7_fitsFrom : ByteArray := prog_1_method_51_code
def yX7_fitsFrom : MethodName := ⟨RX7, "fitsFrom", "(III)Z"⟩
abbrev cX7_partOf : ByteArray := prog_1_method_52_code
def yX7_partOf : MethodName := ⟨RX7, "partOf", "(III)I"⟩
abbrev cX7_commonOf : ByteArray := prog_1_method_53_code
def yX7_commonOf : MethodName := ⟨RX7, "commonOf", "(II)I"⟩
def RX8 : String := "OffForSecondModel"
def TX8 : u_T := fun k => match k with
  | 0 => ("OffForSecondModel", "row", "[I", true)
  | 1 => ("OffForSecondModel", "kept", "[I", true)
  | 2 => ("OffForSecondModel", "images", "I", false)
  | 3 => ("OffForSecondModel", "errors", "[I", true)
  | 4 => ("OffForSecondModel", "bitsOf", "[I", true)
  | 5 => ("OffForSecondModel", "sizeOf", "[I", true)
  | 6 => ("OffForSecondModel", "cells", "[I", true)
  | 7 => ("OffForSecondModel", "act", "[I", true)
  | 8 => ("OffForSecondModel", "with", "[I", true)
  | 9 => ("OffForSecondModel", "facts", "[I", true)
  | 10 => ("OffForSecondModel", "pile", "[I", true)
  | 11 => ("OffForSecondModel", "laid", "I", false)
  | 12 => ("OffForSecondModel", "here", "I", false)
  | 13 => ("OffForSecondModel", "opened", "I", false)
  | 14 => ("OffForSecondModel", "bad", "Z", false)
  | 15 => ("OffForSecondModel", "using", "I", false)
  | 16 => ("OffForSecondModel", "trace", "[I", true)
  | 17 => ("OffForSecondModel", "traced", "I", false)
  | _ => ("OffForSecondModel", "isParted", "Z", false)
def tyX8 : Nat → FieldType := fun k => match k with
  | 0 => .array .int
  | 1 => .array .int
  | 2 => .int
  | 3 => .array .int
  | 4 => .array .int
  | 5 => .array .int
  | 6 => .array .int
  | 7 => .array .int
  | 8 => .array .int
  | 9 => .array .int
  | 10 => .array .int
  | 11 => .int
  | 12 => .int
  | 13 => .int
  | 14 => .boolean
  | 15 => .int
  | 16 => .array .int
  | 17 => .int
  | _ => .boolean
abbrev wsX80 : List Cond := u_ws RX8 TX8 19
theorem nmX8 : ∀ a, a < 19 → ∀ b, b < 19 → a ≠ b → (TX8 a).2.1 ≠ (TX8 b).2.1 := by decide +kernel
theorem tyX8_ok : ∀ k, k < 19 → parseFieldDescriptor (TX8 k).2.2.1 = some (tyX8 k) := by decide +kernel
abbrev cX8_init : ByteArray := prog_10_method_1_code
def yX8_init : MethodName := ⟨RX8, "<init>", "()V"⟩
abbrev cX8_error : ByteArray := prog_10_method_2_code
def yX8_error : MethodName := ⟨RX8, "error", "(I)I"⟩
abbrev cX8_in : ByteArray := prog_10_method_3_code
def yX8_in : MethodName := ⟨RX8, "in", "(III)Z"⟩
abbrev cX8_held : ByteArray := prog_10_method_4_code
def yX8_held : MethodName := ⟨RX8, "held", "(III)I"⟩
abbrev cX8_copyAll : ByteArray := prog_10_method_5_code
def yX8_copyAll : MethodName := ⟨RX8, "copyAll", "([I[I)V"⟩
abbrev cX8_isPitch : ByteArray := prog_10_method_6_code
def yX8_isPitch : MethodName := ⟨RX8, "isPitch", "(I)Z"⟩
abbrev cX8_isRunner : ByteArray := prog_10_method_7_code
def yX8_isRunner : MethodName := ⟨RX8, "isRunner", "(I)Z"⟩
abbrev cX8_isLead : ByteArray := prog_10_method_8_code
def yX8_isLead : MethodName := ⟨RX8, "isLead", "(I)Z"⟩
abbrev cX8_becomes : ByteArray := prog_10_method_9_code
def yX8_becomes : MethodName := ⟨RX8, "becomes", "(II)I"⟩
abbrev cX8_of : ByteArray := prog_10_method_10_code
def yX8_of : MethodName := ⟨RX8, "of", "(II)I"⟩
abbrev cX8_about : ByteArray := prog_10_method_11_code
def yX8_about : MethodName := ⟨RX8, "about", "(II)I"⟩
abbrev cX8_lets : ByteArray := prog_10_method_12_code
def yX8_lets : MethodName := ⟨RX8, "lets", "(III)V"⟩
abbrev cX8_plainAir : ByteArray := prog_10_method_13_code
def yX8_plainAir : MethodName := ⟨RX8, "plainAir", "(I)I"⟩
abbrev cX8_airOf : ByteArray := prog_10_method_14_code
def yX8_airOf : MethodName := ⟨RX8, "airOf", "(I)I"⟩
abbrev cX8_costsOf : ByteArray := prog_10_method_15_code
def yX8_costsOf : MethodName := ⟨RX8, "costsOf", "(I)I"⟩
abbrev cX8_runFrom : ByteArray := prog_10_method_16_code
def yX8_runFrom : MethodName := ⟨RX8, "runFrom", "(II)I"⟩
abbrev cX8_isPickedAt : ByteArray := prog_10_method_17_code
def yX8_isPickedAt : MethodName := ⟨RX8, "isPickedAt", "(II)Z"⟩
abbrev cX8_marginOf : ByteArray := prog_10_method_18_code
def yX8_marginOf : MethodName := ⟨RX8, "marginOf", "(III)I"⟩
abbrev cX8_isSafe : ByteArray := prog_10_method_19_code
def yX8_isSafe : MethodName := ⟨RX8, "isSafe", "(III)Z"⟩
abbrev cX8_gainOf : ByteArray := prog_10_method_20_code
def yX8_gainOf : MethodName := ⟨RX8, "gainOf", "(III)I"⟩
abbrev cX8_isKm : ByteArray := prog_10_method_21_code
def yX8_isKm : MethodName := ⟨RX8, "isKm", "(I)Z"⟩
abbrev cX8_pitch : ByteArray := prog_10_method_22_code
def yX8_pitch : MethodName := ⟨RX8, "pitch", "(II)I"⟩
abbrev cX8_pitchIs : ByteArray := prog_10_method_23_code
def yX8_pitchIs : MethodName := ⟨RX8, "pitchIs", "(II)I"⟩
abbrev cX8_become : ByteArray := prog_10_method_24_code
def yX8_become : MethodName := ⟨RX8, "become", "(II)I"⟩
abbrev cX8_as : ByteArray := prog_10_method_25_code
def yX8_as : MethodName := ⟨RX8, "as", "(II)I"⟩
abbrev cX8_weighs : ByteArray := prog_10_method_26_code
def yX8_weighs : MethodName := ⟨RX8, "weighs", "(II)I"⟩
abbrev cX8_runner : ByteArray := prog_10_method_27_code
def yX8_runner : MethodName := ⟨RX8, "runner", "(II)I"⟩
abbrev cX8_runnerIs : ByteArray := prog_10_method_28_code
def yX8_runnerIs : MethodName := ⟨RX8, "runnerIs", "(II)I"⟩
abbrev cX8_leads : ByteArray := prog_10_method_29_code
def yX8_leads : MethodName := ⟨RX8, "leads", "(II)I"⟩
abbrev cX8_set : ByteArray := prog_10_method_30_code
def yX8_set : MethodName := ⟨RX8, "set", "(II)I"⟩
abbrev cX8_more : ByteArray := prog_10_method_31_code
def yX8_more : MethodName := ⟨RX8, "more", "(I)V"⟩
abbrev cX8_isOut : ByteArray := prog_10_method_32_code
def yX8_isOut : MethodName := ⟨RX8, "isOut", "(I)V"⟩
abbrev cX8_goes : ByteArray := prog_10_method_33_code
def yX8_goes : MethodName := ⟨RX8, "goes", "(II)Z"⟩
abbrev cX8_steal : ByteArray := prog_10_method_34_code
def yX8_steal : MethodName := ⟨RX8, "steal", "(II)I"⟩
abbrev cX8_over : ByteArray := prog_10_method_35_code
def yX8_over : MethodName := ⟨RX8, "over", "(I)I"⟩
abbrev cX8_feed : ByteArray := prog_10_method_36_code
def yX8_feed : MethodName := ⟨RX8, "feed", "(JI)I"⟩
abbrev cX8_look : ByteArray := prog_10_method_37_code
def yX8_look : MethodName := ⟨RX8, "look", "()I"⟩
abbrev cX8_lays : ByteArray := prog_10_method_38_code
def yX8_lays : MethodName := ⟨RX8, "lays", "(II)V"⟩
abbrev cX8_nameOf : ByteArray := prog_10_method_39_code
def yX8_nameOf : MethodName := ⟨RX8, "nameOf", "(I)I"⟩
abbrev cX8_number : ByteArray := prog_10_method_40_code
def yX8_number : MethodName := ⟨RX8, "number", "()V"⟩
abbrev cX8_opens : ByteArray := prog_10_method_41_code
def yX8_opens : MethodName := ⟨RX8, "opens", "(I)V"⟩
abbrev cX8_one : ByteArray := prog_10_method_42_code
def yX8_one : MethodName := ⟨RX8, "one", "()V"⟩
abbrev cX8_times : ByteArray := prog_10_method_43_code
def yX8_times : MethodName := ⟨RX8, "times", "()V"⟩
abbrev cX8_sum : ByteArray := prog_10_method_44_code
def yX8_sum : MethodName := ⟨RX8, "sum", "()V"⟩
abbrev cX8_compares : ByteArray := prog_10_method_45_code
def yX8_compares : MethodName := ⟨RX8, "compares", "()V"⟩
abbrev cX8_all : ByteArray := prog_10_method_46_code
def yX8_all : MethodName := ⟨RX8, "all", "()V"⟩
abbrev cX8_any : ByteArray := prog_10_method_47_code
def yX8_any : MethodName := ⟨RX8, "any", "()V"⟩
abbrev cX8_text : ByteArray := prog_10_method_48_code
def yX8_text : MethodName := ⟨RX8, "text", "(I)I"⟩
abbrev cX8_untell : ByteArray := prog_10_method_49_code
def yX8_untell : MethodName := ⟨RX8, "untell", "(I)I"⟩
abbrev cX8_twoOf : ByteArray := prog_10_method_50_code
def yX8_twoOf : MethodName := ⟨RX8, "twoOf", "(III)I"⟩
abbrev cX8_works : ByteArray := prog_10_method_51_code
def yX8_works : MethodName := ⟨RX8, "works", "(I)I"⟩
abbrev cX8_gives : ByteArray := prog_10_method_52_code
def yX8_gives : MethodName := ⟨RX8, "gives", "(IIII)I"⟩
abbrev cX8_law : ByteArray := prog_10_method_53_code
def yX8_law : MethodName := ⟨RX8, "law", "(IIII)I"⟩
abbrev cX8_margin : ByteArray := prog_10_method_54_code
def yX8_margin : MethodName := ⟨RX8, "margin", "(III)I"⟩
abbrev cX8_leadFor : ByteArray := prog_10_method_55_code
def yX8_leadFor : MethodName := ⟨RX8, "leadFor", "(II)I"⟩
abbrev cX8_gainsFrom : ByteArray := prog_10_method_56_code
def yX8_gainsFrom : MethodName := ⟨RX8, "gainsFrom", "(II)I"⟩
abbrev cX8_bestLead : ByteArray := prog_10_method_57_code
def yX8_bestLead : MethodName := ⟨RX8, "bestLead", "(II)I"⟩
abbrev cX8_weights : ByteArray := prog_10_method_58_code
def yX8_weights : MethodName := ⟨RX8, "weights", "()I"⟩
abbrev cX8_partOf : ByteArray := prog_10_method_59_code
def yX8_partOf : MethodName := ⟨RX8, "partOf", "(III)I"⟩
abbrev cX8_odds : ByteArray := prog_10_method_60_code
def yX8_odds : MethodName := ⟨RX8, "odds", "(II)I"⟩
abbrev cX8_go : ByteArray := prog_10_method_61_code
def yX8_go : MethodName := ⟨RX8, "go", "(II)I"⟩
abbrev cX8_lesser : ByteArray := prog_10_method_62_code
def yX8_lesser : MethodName := ⟨RX8, "lesser", "(II)I"⟩
abbrev cX8_greater : ByteArray := prog_10_method_63_code
def yX8_greater : MethodName := ⟨RX8, "greater", "(II)I"⟩
abbrev cX8_duel : ByteArray := prog_10_method_64_code
def yX8_duel : MethodName := ⟨RX8, "duel", "(IIII)I"⟩
abbrev cX8_surely : ByteArray := prog_10_method_65_code
def yX8_surely : MethodName := ⟨RX8, "surely", "(II)I"⟩
abbrev cX8_isSo : ByteArray := prog_10_method_66_code
def yX8_isSo : MethodName := ⟨RX8, "isSo", "(III)Z"⟩
abbrev cX8_fits : ByteArray := prog_10_method_67_code
def yX8_fits : MethodName := ⟨RX8, "fits", "(III)I"⟩
abbrev cX8_draw : ByteArray := prog_10_method_68_code
def yX8_draw : MethodName := ⟨RX8, "draw", "()I"⟩
abbrev cX8_drawn : ByteArray := prog_10_method_69_code
def yX8_drawn : MethodName := ⟨RX8, "drawn", "()Z"⟩
abbrev cX8_loose : ByteArray := prog_10_method_70_code
def yX8_loose : MethodName := ⟨RX8, "loose", "(I)I"⟩
abbrev cX8_seed : ByteArray := prog_10_method_71_code
def yX8_seed : MethodName := ⟨RX8, "seed", "(I)I"⟩
abbrev cX8_begins : ByteArray := prog_10_method_72_code
def yX8_begins : MethodName := ⟨RX8, "begins", "(I)V"⟩
abbrev cX8_plainHisses : ByteArray := prog_10_method_73_code
def yX8_plainHisses : MethodName := ⟨RX8, "plainHisses", "(II)I"⟩
abbrev cX8_curveHisses : ByteArray := prog_10_method_74_code
def yX8_curveHisses : MethodName := ⟨RX8, "curveHisses", "(II)I"⟩
abbrev cX8_hisses : ByteArray := prog_10_method_75_code
def yX8_hisses : MethodName := ⟨RX8, "hisses", "(II)I"⟩
abbrev cX8_plainDrops : ByteArray := prog_10_method_76_code
def yX8_plainDrops : MethodName := ⟨RX8, "plainDrops", "(II)I"⟩
abbrev cX8_hardDrops : ByteArray := prog_10_method_77_code
def yX8_hardDrops : MethodName := ⟨RX8, "hardDrops", "(II)I"⟩
abbrev cX8_drops : ByteArray := prog_10_method_78_code
def yX8_drops : MethodName := ⟨RX8, "drops", "(II)I"⟩
abbrev cX8_plainThuds : ByteArray := prog_10_method_79_code
def yX8_plainThuds : MethodName := ⟨RX8, "plainThuds", "(II)I"⟩
abbrev cX8_thuds : ByteArray := prog_10_method_80_code
def yX8_thuds : MethodName := ⟨RX8, "thuds", "(II)I"⟩
abbrev cX8_plainParts : ByteArray := prog_10_method_81_code
def yX8_plainParts : MethodName := ⟨RX8, "plainParts", "(II)I"⟩
abbrev cX8_partsBy : ByteArray := prog_10_method_82_code
def yX8_partsBy : MethodName := ⟨RX8, "partsBy", "(II)I"⟩
abbrev cX8_voice : ByteArray := prog_10_method_83_code
def yX8_voice : MethodName := ⟨RX8, "voice", "(III)I"⟩
abbrev cX8_body : ByteArray := prog_10_method_84_code
def yX8_body : MethodName := ⟨RX8, "body", "(I)I"⟩
abbrev cX8_isSheet : ByteArray := prog_10_method_85_code
def yX8_isSheet : MethodName := ⟨RX8, "isSheet", "(I)Z"⟩
abbrev cX8_sheet : ByteArray := prog_10_method_86_code
def yX8_sheet : MethodName := ⟨RX8, "sheet", "(III)I"⟩
abbrev cX8_notThere : ByteArray := prog_10_method_87_code
def yX8_notThere : MethodName := ⟨RX8, "notThere", "(I)I"⟩
abbrev cX8_put : ByteArray := prog_10_method_88_code
def yX8_put : MethodName := ⟨RX8, "put", "(III)I"⟩
abbrev cX8_notMoved : ByteArray := prog_10_method_89_code
def yX8_notMoved : MethodName := ⟨RX8, "notMoved", "(IIIII)I"⟩
abbrev cX8_move : ByteArray := prog_10_method_90_code
def yX8_move : MethodName := ⟨RX8, "move", "(IIIII)I"⟩
abbrev cX8_weightsBy : ByteArray := prog_10_method_91_code
def yX8_weightsBy : MethodName := ⟨RX8, "weightsBy", "(I)I"⟩
abbrev cX8_judge : ByteArray := prog_10_method_92_code
def yX8_judge : MethodName := ⟨RX8, "judge", "(I)I"⟩
abbrev cX8_image : ByteArray := prog_10_method_93_code
def yX8_image : MethodName := ⟨RX8, "image", "()I"⟩
abbrev cX8_restore : ByteArray := prog_10_method_94_code
def yX8_restore : MethodName := ⟨RX8, "restore", "()I"⟩
abbrev cX8_tell : ByteArray := prog_10_method_95_code
def yX8_tell : MethodName := ⟨RX8, "tell", "(I)I"⟩
abbrev cX8_check : ByteArray := prog_10_method_96_code
def yX8_check : MethodName := ⟨RX8, "check", "()I"⟩
abbrev cX8_count : ByteArray := prog_10_method_97_code
def yX8_count : MethodName := ⟨RX8, "count", "(I)I"⟩
abbrev cX8_told : ByteArray := prog_10_method_98_code
def yX8_told : MethodName := ⟨RX8, "told", "(I)I"⟩
def RJ6 : String := "java/lang/Integer"
def TJ6 : u_T := fun k => match k with
  | _ => ("", "", "", false)
def tyJ6 : Nat → FieldType := fun k => match k with
  | _ => .int
abbrev wsJ60 : List Cond := u_ws RJ6 TJ6 0
theorem nmJ6 : ∀ a, a < 0 → ∀ b, b < 0 → a ≠ b → (TJ6 a).2.1 ≠ (TJ6 b).2.1 := by decide +kernel
theorem tyJ6_ok : ∀ k, k < 0 → parseFieldDescriptor (TJ6 k).2.2.1 = some (tyJ6 k) := by decide +kernel
abbrev cJ6_bitCount_0f7a4 : ByteArray := prog_11_method_49_code
def yJ6_bitCount_0f7a4 : MethodName := ⟨RJ6, "bitCount", "(I)I"⟩
def RJ9 : String := "java/lang/Math"
def TJ9 : u_T := fun k => match k with
  | _ => ("", "", "", false)
def tyJ9 : Nat → FieldType := fun k => match k with
  | _ => .int
abbrev wsJ90 : List Cond := u_ws RJ9 TJ9 0
theorem nmJ9 : ∀ a, a < 0 → ∀ b, b < 0 → a ≠ b → (TJ9 a).2.1 ≠ (TJ9 b).2.1 := by decide +kernel
theorem tyJ9_ok : ∀ k, k < 0 → parseFieldDescriptor (TJ9 k).2.2.1 = some (tyJ9 k) := by decide +kernel
abbrev cJ9_abs_0f7a4 : ByteArray := prog_12_method_59_code
def yJ9_abs_0f7a4 : MethodName := ⟨RJ9, "abs", "(I)I"⟩
abbrev cJ9_max_7cf53 : ByteArray := prog_12_method_65_code
def yJ9_max_7cf53 : MethodName := ⟨RJ9, "max", "(II)I"⟩
abbrev cJ9_min_7cf53 : ByteArray := prog_12_method_69_code
def yJ9_min_7cf53 : MethodName := ⟨RJ9, "min", "(II)I"⟩
def RJ10 : String := "java/lang/System"
def TJ10 : u_T := fun k => match k with
  | _ => ("", "", "", false)
def tyJ10 : Nat → FieldType := fun k => match k with
  | _ => .int
abbrev wsJ100 : List Cond := u_ws RJ10 TJ10 0
theorem nmJ10 : ∀ a, a < 0 → ∀ b, b < 0 → a ≠ b → (TJ10 a).2.1 ≠ (TJ10 b).2.1 := by decide +kernel
theorem tyJ10_ok : ∀ k, k < 0 → parseFieldDescriptor (TJ10 k).2.2.1 = some (tyJ10 k) := by decide +kernel
abbrev vwCl : List vw_C := [(RX0, TX0, 5), (RX1, TX1, 7), (RX2, TX2, 6), (RX3, TX3, 15), (RX4, TX4, 3), (RX5, TX5, 4), (RX6, TX6, 6), (RX7, TX7, 7), (RX8, TX8, 19)]
def AL_u : List Cond := wsX00 ++ wsX10 ++ wsX20 ++ wsX30 ++ wsX40 ++ wsX50 ++ wsX60 ++ wsX70 ++ wsX80
def AL_0 : List Cond := [.arrayClass .byte, .arrayClass .int, .classLink RX1 9 RX5, .classLink RX3 18 RX2, .classLink RX3 25 RX5, .classLink RX3 9 RX0, .classLink RX7 19 RX1, .classLink RX7 26 RX4, .classLink RX7 33 RX6, .classLink RX7 7 RX3, .code Lib.Math.abs.name Lib.Math.abs.code 1 (some .int), .code Lib.Math.max.name Lib.Math.max.code 2 (some .int), .code Lib.Math.min.name Lib.Math.min.code 2 (some .int), .code objectInit ⟨#[0xb1]⟩ 1 none, .code yJ6_bitCount_0f7a4 cJ6_bitCount_0f7a4 1 (some .int), .code yJ9_abs_0f7a4 cJ9_abs_0f7a4 1 (some .int), .code yJ9_max_7cf53 cJ9_max_7cf53 2 (some .int), .code yJ9_min_7cf53 cJ9_min_7cf53 2 (some .int), .code yX0_add cX0_add 4 (some .int), .code yX0_allWeights cX0_allWeights 3 (some .int), .code yX0_byWeight cX0_byWeight 4 (some .int), .code yX0_init cX0_init 1 none, .code yX0_takes cX0_takes 2 none, .code yX1_begins cX1_begins 4 (some .boolean), .code yX1_closes cX1_closes 1 (some .boolean)]
def AL_1 : List Cond := [.code yX1_continues cX1_continues 3 (some .boolean), .code yX1_faultOf cX1_faultOf 7 (some .int), .code yX1_init cX1_init 1 none, .code yX1_isNumeral cX1_isNumeral 1 (some .boolean), .code yX1_lengthens cX1_lengthens 3 (some .boolean), .code yX1_park cX1_park 2 none, .code yX1_rankOf cX1_rankOf 1 (some .int), .code yX1_settle cX1_settle 2 none, .code yX2_add cX2_add 4 (some .int), .code yX2_backFrom cX2_backFrom 3 (some .int), .code yX2_init cX2_init 1 none, .code yX2_runFrom cX2_runFrom 3 (some .int), .code yX2_takes cX2_takes 2 none, .code yX3_air cX3_air 2 (some .int), .code yX3_airByKind cX3_airByKind 4 (some .int), .code yX3_change cX3_change 4 (some .int), .code yX3_costs cX3_costs 2 (some .int), .code yX3_draw cX3_draw 1 (some .int), .code yX3_gainFrom cX3_gainFrom 4 (some .int), .code yX3_gainOf cX3_gainOf 2 (some .int), .code yX3_gives cX3_gives 6 (some .int), .code yX3_goes cX3_goes 4 (some .boolean), .code yX3_held cX3_held 3 (some .int), .code yX3_init cX3_init 1 none, .code yX3_isOut cX3_isOut 2 none]
def AL_2 : List Cond := [.code yX3_isPicked cX3_isPicked 3 (some .boolean), .code yX3_isSafeByDraws cX3_isSafeByDraws 4 (some .boolean), .code yX3_marginFrom cX3_marginFrom 4 (some .int), .code yX3_oneMore cX3_oneMore 1 (some .int), .code yX3_safePitches cX3_safePitches 5 (some .int), .code yX3_safeWeights cX3_safeWeights 5 (some .int), .code yX3_takes cX3_takes 2 none, .code yX3_textOf cX3_textOf 2 (some (.object "OffForSecond$Text")), .code yX3_weighedGains cX3_weighedGains 5 (some .int), .code yX4_copy cX4_copy 6 none, .code yX4_init cX4_init 1 none, .code yX4_isMissing cX4_isMissing 2 (some .boolean), .code yX4_lay cX4_lay 5 none, .code yX4_read cX4_read 3 (some .int), .code yX4_standsAt cX4_standsAt 4 (some .boolean), .code yX4_write cX4_write 5 none, .code yX5_add cX5_add 2 none, .code yX5_init cX5_init 1 none, .code yX5_joined cX5_joined 3 (some .int), .code yX5_named cX5_named 4 (some .int), .code yX5_takes cX5_takes 2 none, .code yX5_work cX5_work 7 (some .int), .code yX6_begin cX6_begin 2 none, .code yX6_bodyOf cX6_bodyOf 5 (some .int), .code yX6_init cX6_init 1 none]
def AL_3 : List Cond := [.code yX6_parts cX6_parts 3 (some .int), .code yX6_partsOfCurve cX6_partsOfCurve 4 (some .int), .code yX6_say cX6_say 7 (some .int), .code yX6_speak cX6_speak 6 (some .int), .code yX7_as cX7_as 3 (some .int), .code yX7_become cX7_become 4 (some .int), .code yX7_bestLead cX7_bestLead 7 (some .int), .code yX7_body cX7_body 2 (some .int), .code yX7_check cX7_check 3 (some .int), .code yX7_commonOf cX7_commonOf 6 (some .int), .code yX7_count cX7_count 2 (some .int), .code yX7_duel cX7_duel 12 (some .int), .code yX7_error cX7_error 2 (some .int), .code yX7_feed cX7_feed 5 (some .int), .code yX7_fits cX7_fits 7 (some .int), .code yX7_fitsFrom cX7_fitsFrom 7 (some .boolean), .code yX7_go cX7_go 4 (some .int), .code yX7_image cX7_image 1 (some .int), .code yX7_init cX7_init 1 none, .code yX7_isDigit cX7_isDigit 1 (some .boolean), .code yX7_isFeet cX7_isFeet 1 (some .boolean), .code yX7_isKindAndM cX7_isKindAndM 1 (some .boolean), .code yX7_isPitch cX7_isPitch 2 (some .boolean), .code yX7_isRunner cX7_isRunner 2 (some .boolean), .code yX7_isSheet cX7_isSheet 1 (some .boolean)]
def AL_4 : List Cond := [.code yX7_isUnder cX7_isUnder 4 (some .boolean), .code yX7_isUse cX7_isUse 1 (some .boolean), .code yX7_judge cX7_judge 4 (some .int), .code yX7_law cX7_law 5 (some .int), .code yX7_leadFor cX7_leadFor 4 (some .int), .code yX7_leads cX7_leads 4 (some .int), .code yX7_loose cX7_loose 4 (some .int), .code yX7_margin cX7_margin 4 (some .int), .code yX7_mostOfSetting cX7_mostOfSetting 1 (some .int), .code yX7_move cX7_move 6 (some .int), .code yX7_odds cX7_odds 4 (some .int), .code yX7_over cX7_over 2 (some .int), .code yX7_partOf cX7_partOf 4 (some .int), .code yX7_pitch cX7_pitch 3 (some .int), .code yX7_pitchIs cX7_pitchIs 3 (some .int), .code yX7_put cX7_put 4 (some .int), .code yX7_restore cX7_restore 1 (some .int), .code yX7_runner cX7_runner 3 (some .int), .code yX7_runnerIs cX7_runnerIs 4 (some .int), .code yX7_seed cX7_seed 3 (some .int), .code yX7_set cX7_set 3 (some .int), .code yX7_sheet cX7_sheet 4 (some .int), .code yX7_steal cX7_steal 3 (some .int), .code yX7_surely cX7_surely 4 (some .int), .code yX7_tell cX7_tell 2 (some .int)]
def AL_5 : List Cond := [.code yX7_text cX7_text 3 (some .int), .code yX7_told cX7_told 2 (some .int), .code yX7_untell cX7_untell 4 (some .int), .code yX7_voice cX7_voice 5 (some .int), .code yX7_weighs cX7_weighs 4 (some .int), .code yX7_weightsBy cX7_weightsBy 5 (some .int), .code yX7_within cX7_within 3 (some .boolean), .code yX8_about cX8_about 3 (some .int), .code yX8_airOf cX8_airOf 2 (some .int), .code yX8_all cX8_all 1 none, .code yX8_any cX8_any 1 none, .code yX8_as cX8_as 5 (some .int), .code yX8_become cX8_become 3 (some .int), .code yX8_becomes cX8_becomes 4 (some .int), .code yX8_begins cX8_begins 2 none, .code yX8_bestLead cX8_bestLead 8 (some .int), .code yX8_body cX8_body 2 (some .int), .code yX8_check cX8_check 3 (some .int), .code yX8_compares cX8_compares 2 none, .code yX8_copyAll cX8_copyAll 3 none, .code yX8_costsOf cX8_costsOf 2 (some .int), .code yX8_count cX8_count 2 (some .int), .code yX8_curveHisses cX8_curveHisses 3 (some .int), .code yX8_draw cX8_draw 1 (some .int), .code yX8_drawn cX8_drawn 6 (some .boolean)]
def AL_6 : List Cond := [.code yX8_drops cX8_drops 3 (some .int), .code yX8_duel cX8_duel 11 (some .int), .code yX8_error cX8_error 2 (some .int), .code yX8_feed cX8_feed 5 (some .int), .code yX8_fits cX8_fits 8 (some .int), .code yX8_gainOf cX8_gainOf 5 (some .int), .code yX8_gainsFrom cX8_gainsFrom 5 (some .int), .code yX8_gives cX8_gives 7 (some .int), .code yX8_go cX8_go 4 (some .int), .code yX8_goes cX8_goes 5 (some .boolean), .code yX8_greater cX8_greater 2 (some .int), .code yX8_hardDrops cX8_hardDrops 3 (some .int), .code yX8_held cX8_held 3 (some .int), .code yX8_hisses cX8_hisses 3 (some .int), .code yX8_image cX8_image 1 (some .int), .code yX8_in cX8_in 3 (some .boolean), .code yX8_init cX8_init 1 none, .code yX8_isKm cX8_isKm 1 (some .boolean), .code yX8_isLead cX8_isLead 1 (some .boolean), .code yX8_isOut cX8_isOut 2 none, .code yX8_isPickedAt cX8_isPickedAt 3 (some .boolean), .code yX8_isPitch cX8_isPitch 2 (some .boolean), .code yX8_isRunner cX8_isRunner 2 (some .boolean), .code yX8_isSafe cX8_isSafe 4 (some .boolean), .code yX8_isSheet cX8_isSheet 1 (some .boolean)]
def AL_7 : List Cond := [.code yX8_isSo cX8_isSo 6 (some .boolean), .code yX8_judge cX8_judge 4 (some .int), .code yX8_law cX8_law 5 (some .int), .code yX8_lays cX8_lays 3 none, .code yX8_leadFor cX8_leadFor 4 (some .int), .code yX8_leads cX8_leads 3 (some .int), .code yX8_lesser cX8_lesser 2 (some .int), .code yX8_lets cX8_lets 4 none, .code yX8_look cX8_look 1 (some .int), .code yX8_loose cX8_loose 4 (some .int), .code yX8_margin cX8_margin 4 (some .int), .code yX8_marginOf cX8_marginOf 4 (some .int), .code yX8_more cX8_more 2 none, .code yX8_move cX8_move 9 (some .int), .code yX8_nameOf cX8_nameOf 2 (some .int), .code yX8_notMoved cX8_notMoved 7 (some .int), .code yX8_notThere cX8_notThere 2 (some .int), .code yX8_number cX8_number 3 none, .code yX8_odds cX8_odds 6 (some .int), .code yX8_of cX8_of 3 (some .int), .code yX8_one cX8_one 3 none, .code yX8_opens cX8_opens 2 none, .code yX8_over cX8_over 3 (some .int), .code yX8_partOf cX8_partOf 6 (some .int), .code yX8_partsBy cX8_partsBy 4 (some .int)]
def AL_8 : List Cond := [.code yX8_pitch cX8_pitch 4 (some .int), .code yX8_pitchIs cX8_pitchIs 3 (some .int), .code yX8_plainAir cX8_plainAir 4 (some .int), .code yX8_plainDrops cX8_plainDrops 3 (some .int), .code yX8_plainHisses cX8_plainHisses 3 (some .int), .code yX8_plainParts cX8_plainParts 4 (some .int), .code yX8_plainThuds cX8_plainThuds 3 (some .int), .code yX8_put cX8_put 5 (some .int), .code yX8_restore cX8_restore 1 (some .int), .code yX8_runFrom cX8_runFrom 3 (some .int), .code yX8_runner cX8_runner 4 (some .int), .code yX8_runnerIs cX8_runnerIs 4 (some .int), .code yX8_seed cX8_seed 2 (some .int), .code yX8_set cX8_set 4 (some .int), .code yX8_sheet cX8_sheet 5 (some .int), .code yX8_steal cX8_steal 3 (some .int), .code yX8_sum cX8_sum 2 none, .code yX8_surely cX8_surely 7 (some .int), .code yX8_tell cX8_tell 2 (some .int), .code yX8_text cX8_text 4 (some .int), .code yX8_thuds cX8_thuds 3 (some .int), .code yX8_times cX8_times 2 none, .code yX8_told cX8_told 2 (some .int), .code yX8_twoOf cX8_twoOf 3 (some .int), .code yX8_untell cX8_untell 2 (some .int)]
def AL_9 : List Cond := [.code yX8_voice cX8_voice 5 (some .int), .code yX8_weighs cX8_weighs 3 (some .int), .code yX8_weights cX8_weights 3 (some .int), .code yX8_weightsBy cX8_weightsBy 4 (some .int), .code yX8_works cX8_works 5 (some .int), .constant RJ6 265 (1431655765), .constant RJ6 266 (858993459), .constant RJ6 267 (252645135), .constant RX3 156 (1103515245), .constant RX4 21 (65535), .constant RX7 299 (-1000000000), .constant RX8 185 (-1000000002), .constant RX8 192 (-1000000003), .constant RX8 208 (1103515245), .constant RX8 255 (-1000000006), .constant RX8 43 (-1000000000), .constant RX8 77 (-1000000001), .constant RX8 81 (-1000000004), .constant RX8 91 (-1000000005), .constantLong RX8 125 (255), .fieldLink RX0 15 "OffForSecond$Pitches" "m" "[I", .fieldLink RX0 18 "OffForSecond$Pitches" "weight" "[I", .fieldLink RX0 21 "OffForSecond$Pitches" "thrown" "[I", .fieldLink RX0 24 "OffForSecond$Pitches" "size" "I", .fieldLink RX0 9 "OffForSecond$Pitches" "kind" "[I"]
def AL_10 : List Cond := [.fieldLink RX1 12 "OffForSecond$Reader" "draft" "LOffForSecond$Text;", .fieldLink RX1 18 "OffForSecond$Reader" "signs" "[I", .fieldLink RX1 22 "OffForSecond$Reader" "height" "I", .fieldLink RX1 26 "OffForSecond$Reader" "open" "I", .fieldLink RX1 29 "OffForSecond$Reader" "groups" "I", .fieldLink RX1 32 "OffForSecond$Reader" "digits" "I", .fieldLink RX1 35 "OffForSecond$Reader" "wantsOne" "Z", .fieldLink RX1 39 "OffForSecond$Text" "size" "I", .fieldLink RX1 42 "OffForSecond$Text" "isThere" "Z", .fieldLink RX1 81 "OffForSecond$Text" "steps" "[I", .fieldLink RX2 15 "OffForSecond$Runners" "pace" "[I", .fieldLink RX2 18 "OffForSecond$Runners" "lead" "[I", .fieldLink RX2 21 "OffForSecond$Runners" "stolen" "[I", .fieldLink RX2 24 "OffForSecond$Runners" "caught" "[I", .fieldLink RX2 27 "OffForSecond$Runners" "size" "I", .fieldLink RX2 9 "OffForSecond$Runners" "start" "[I", .fieldLink RX3 101 "OffForSecond$Pitches" "kind" "[I", .fieldLink RX3 104 "OffForSecond$Pitches" "thrown" "[I", .fieldLink RX3 12 "OffForSecond$Scene" "pitches" "LOffForSecond$Pitches;", .fieldLink RX3 131 "OffForSecond$Pitches" "size" "I", .fieldLink RX3 134 "OffForSecond$Pitches" "weight" "[I", .fieldLink RX3 140 "OffForSecond$Runners" "lead" "[I", .fieldLink RX3 150 "OffForSecond$Runners" "stolen" "[I", .fieldLink RX3 153 "OffForSecond$Runners" "caught" "[I", .fieldLink RX3 161 "OffForSecond$Runners" "size" "I"]
def AL_11 : List Cond := [.fieldLink RX3 21 "OffForSecond$Scene" "runners" "LOffForSecond$Runners;", .fieldLink RX3 28 "OffForSecond$Scene" "airText" "LOffForSecond$Text;", .fieldLink RX3 32 "OffForSecond$Scene" "gainText" "LOffForSecond$Text;", .fieldLink RX3 35 "OffForSecond$Scene" "tape" "[B", .fieldLink RX3 39 "OffForSecond$Scene" "taped" "I", .fieldLink RX3 43 "OffForSecond$Scene" "waiting" "[I", .fieldLink RX3 47 "OffForSecond$Scene" "waits" "I", .fieldLink RX3 50 "OffForSecond$Scene" "lift" "I", .fieldLink RX3 53 "OffForSecond$Scene" "pop" "I", .fieldLink RX3 56 "OffForSecond$Scene" "wet" "I", .fieldLink RX3 59 "OffForSecond$Scene" "outs" "I", .fieldLink RX3 62 "OffForSecond$Scene" "innings" "I", .fieldLink RX3 65 "OffForSecond$Scene" "worth" "I", .fieldLink RX3 68 "OffForSecond$Scene" "z" "I", .fieldLink RX3 87 "OffForSecond$Text" "isThere" "Z", .fieldLink RX3 98 "OffForSecond$Pitches" "m" "[I", .fieldLink RX4 15 "OffForSecond$Sheets" "size" "[I", .fieldLink RX4 18 "OffForSecond$Sheets" "numbers" "[I", .fieldLink RX4 9 "OffForSecond$Sheets" "bits" "[I", .fieldLink RX5 15 "OffForSecond$Text" "stack" "[I", .fieldLink RX5 18 "OffForSecond$Text" "size" "I", .fieldLink RX5 22 "OffForSecond$Text" "isThere" "Z", .fieldLink RX5 9 "OffForSecond$Text" "steps" "[I", .fieldLink RX6 15 "OffForSecond$Throat" "traced" "I", .fieldLink RX6 19 "OffForSecond$Throat" "parted" "Z"]
def AL_12 : List Cond := [.fieldLink RX6 23 "OffForSecond$Throat" "k" "I", .fieldLink RX6 26 "OffForSecond$Throat" "m" "I", .fieldLink RX6 29 "OffForSecond$Throat" "kind" "I", .fieldLink RX6 9 "OffForSecond$Throat" "trace" "[I", .fieldLink RX7 10 "OffForSecond" "scene" "LOffForSecond$Scene;", .fieldLink RX7 101 "OffForSecond$Scene" "runners" "LOffForSecond$Runners;", .fieldLink RX7 105 "OffForSecond$Runners" "size" "I", .fieldLink RX7 112 "OffForSecond$Runners" "lead" "[I", .fieldLink RX7 115 "OffForSecond$Runners" "start" "[I", .fieldLink RX7 118 "OffForSecond$Runners" "pace" "[I", .fieldLink RX7 121 "OffForSecond$Runners" "stolen" "[I", .fieldLink RX7 124 "OffForSecond$Runners" "caught" "[I", .fieldLink RX7 149 "OffForSecond$Scene" "taped" "I", .fieldLink RX7 152 "OffForSecond$Scene" "tape" "[B", .fieldLink RX7 16 "OffForSecond" "kept" "LOffForSecond$Scene;", .fieldLink RX7 167 "OffForSecond$Reader" "draft" "LOffForSecond$Text;", .fieldLink RX7 177 "OffForSecond$Text" "isThere" "Z", .fieldLink RX7 22 "OffForSecond" "reader" "LOffForSecond$Reader;", .fieldLink RX7 234 "OffForSecond$Scene" "z" "I", .fieldLink RX7 241 "OffForSecond$Throat" "parted" "Z", .fieldLink RX7 244 "OffForSecond$Throat" "traced" "I", .fieldLink RX7 247 "OffForSecond$Throat" "trace" "[I", .fieldLink RX7 260 "OffForSecond$Sheets" "bits" "[I", .fieldLink RX7 267 "OffForSecond$Sheets" "size" "[I", .fieldLink RX7 275 "OffForSecond$Scene" "innings" "I"]
def AL_13 : List Cond := [.fieldLink RX7 278 "OffForSecond$Scene" "waits" "I", .fieldLink RX7 281 "OffForSecond$Scene" "waiting" "[I", .fieldLink RX7 284 "OffForSecond$Scene" "outs" "I", .fieldLink RX7 287 "OffForSecond$Scene" "worth" "I", .fieldLink RX7 29 "OffForSecond" "sheets" "LOffForSecond$Sheets;", .fieldLink RX7 290 "OffForSecond$Scene" "lift" "I", .fieldLink RX7 293 "OffForSecond$Scene" "pop" "I", .fieldLink RX7 296 "OffForSecond$Scene" "wet" "I", .fieldLink RX7 300 "OffForSecond" "ABOVE" "[I", .fieldLink RX7 36 "OffForSecond" "throat" "LOffForSecond$Throat;", .fieldLink RX7 40 "OffForSecond" "errors" "[I", .fieldLink RX7 44 "OffForSecond" "images" "I", .fieldLink RX7 59 "OffForSecond$Scene" "pitches" "LOffForSecond$Pitches;", .fieldLink RX7 63 "OffForSecond$Pitches" "size" "I", .fieldLink RX7 75 "OffForSecond$Pitches" "kind" "[I", .fieldLink RX7 78 "OffForSecond$Pitches" "m" "[I", .fieldLink RX7 81 "OffForSecond$Pitches" "weight" "[I", .fieldLink RX7 84 "OffForSecond$Pitches" "thrown" "[I", .fieldLink RX8 127 "OffForSecondModel" "here" "I", .fieldLink RX8 13 "OffForSecondModel" "kept" "[I", .fieldLink RX8 131 "OffForSecondModel" "laid" "I", .fieldLink RX8 134 "OffForSecondModel" "using" "I", .fieldLink RX8 141 "OffForSecondModel" "bad" "Z", .fieldLink RX8 149 "OffForSecondModel" "opened" "I", .fieldLink RX8 16 "OffForSecondModel" "errors" "[I"]
def AL_14 : List Cond := [.fieldLink RX8 19 "OffForSecondModel" "bitsOf" "[I", .fieldLink RX8 216 "OffForSecondModel" "traced" "I", .fieldLink RX8 22 "OffForSecondModel" "sizeOf" "[I", .fieldLink RX8 243 "OffForSecondModel" "isParted" "Z", .fieldLink RX8 25 "OffForSecondModel" "cells" "[I", .fieldLink RX8 267 "OffForSecondModel" "images" "I", .fieldLink RX8 28 "OffForSecondModel" "act" "[I", .fieldLink RX8 31 "OffForSecondModel" "with" "[I", .fieldLink RX8 34 "OffForSecondModel" "facts" "[I", .fieldLink RX8 37 "OffForSecondModel" "pile" "[I", .fieldLink RX8 40 "OffForSecondModel" "trace" "[I", .fieldLink RX8 9 "OffForSecondModel" "row" "[I", .initialized "java/lang/Math", .initialized "java/lang/System", .initialized RJ6, .initialized RX0, .initialized RX1, .initialized RX2, .initialized RX3, .initialized RX4, .initialized RX5, .initialized RX6, .initialized RX7, .initialized RX8, .instanceMethod objectInit]
def AL_15 : List Cond := [.instanceMethod yX0_add, .instanceMethod yX0_allWeights, .instanceMethod yX0_byWeight, .instanceMethod yX0_init, .instanceMethod yX0_takes, .instanceMethod yX1_begins, .instanceMethod yX1_closes, .instanceMethod yX1_continues, .instanceMethod yX1_faultOf, .instanceMethod yX1_init, .instanceMethod yX1_lengthens, .instanceMethod yX1_park, .instanceMethod yX1_settle, .instanceMethod yX2_add, .instanceMethod yX2_backFrom, .instanceMethod yX2_init, .instanceMethod yX2_runFrom, .instanceMethod yX2_takes, .instanceMethod yX3_air, .instanceMethod yX3_airByKind, .instanceMethod yX3_change, .instanceMethod yX3_costs, .instanceMethod yX3_draw, .instanceMethod yX3_gainFrom, .instanceMethod yX3_gainOf]
def AL_16 : List Cond := [.instanceMethod yX3_gives, .instanceMethod yX3_goes, .instanceMethod yX3_init, .instanceMethod yX3_isOut, .instanceMethod yX3_isPicked, .instanceMethod yX3_isSafeByDraws, .instanceMethod yX3_marginFrom, .instanceMethod yX3_safePitches, .instanceMethod yX3_safeWeights, .instanceMethod yX3_takes, .instanceMethod yX3_textOf, .instanceMethod yX3_weighedGains, .instanceMethod yX4_copy, .instanceMethod yX4_init, .instanceMethod yX4_isMissing, .instanceMethod yX4_lay, .instanceMethod yX4_read, .instanceMethod yX4_standsAt, .instanceMethod yX4_write, .instanceMethod yX5_add, .instanceMethod yX5_init, .instanceMethod yX5_takes, .instanceMethod yX5_work, .instanceMethod yX6_begin, .instanceMethod yX6_init]
def AL_17 : List Cond := [.instanceMethod yX6_parts, .instanceMethod yX6_partsOfCurve, .instanceMethod yX6_say, .instanceMethod yX6_speak, .instanceMethod yX7_as, .instanceMethod yX7_become, .instanceMethod yX7_bestLead, .instanceMethod yX7_body, .instanceMethod yX7_check, .instanceMethod yX7_count, .instanceMethod yX7_duel, .instanceMethod yX7_error, .instanceMethod yX7_feed, .instanceMethod yX7_fits, .instanceMethod yX7_fitsFrom, .instanceMethod yX7_go, .instanceMethod yX7_image, .instanceMethod yX7_init, .instanceMethod yX7_isPitch, .instanceMethod yX7_isRunner, .instanceMethod yX7_judge, .instanceMethod yX7_law, .instanceMethod yX7_leadFor, .instanceMethod yX7_leads, .instanceMethod yX7_loose]
def AL_18 : List Cond := [.instanceMethod yX7_margin, .instanceMethod yX7_move, .instanceMethod yX7_odds, .instanceMethod yX7_over, .instanceMethod yX7_pitch, .instanceMethod yX7_pitchIs, .instanceMethod yX7_put, .instanceMethod yX7_restore, .instanceMethod yX7_runner, .instanceMethod yX7_runnerIs, .instanceMethod yX7_seed, .instanceMethod yX7_set, .instanceMethod yX7_sheet, .instanceMethod yX7_steal, .instanceMethod yX7_surely, .instanceMethod yX7_tell, .instanceMethod yX7_text, .instanceMethod yX7_told, .instanceMethod yX7_untell, .instanceMethod yX7_voice, .instanceMethod yX7_weighs, .instanceMethod yX7_weightsBy, .instanceMethod yX8_about, .instanceMethod yX8_airOf, .instanceMethod yX8_all]
def AL_19 : List Cond := [.instanceMethod yX8_any, .instanceMethod yX8_as, .instanceMethod yX8_become, .instanceMethod yX8_becomes, .instanceMethod yX8_begins, .instanceMethod yX8_bestLead, .instanceMethod yX8_body, .instanceMethod yX8_check, .instanceMethod yX8_compares, .instanceMethod yX8_costsOf, .instanceMethod yX8_count, .instanceMethod yX8_curveHisses, .instanceMethod yX8_draw, .instanceMethod yX8_drawn, .instanceMethod yX8_drops, .instanceMethod yX8_duel, .instanceMethod yX8_error, .instanceMethod yX8_feed, .instanceMethod yX8_fits, .instanceMethod yX8_gainOf, .instanceMethod yX8_gainsFrom, .instanceMethod yX8_gives, .instanceMethod yX8_go, .instanceMethod yX8_goes, .instanceMethod yX8_hardDrops]
def AL_20 : List Cond := [.instanceMethod yX8_hisses, .instanceMethod yX8_image, .instanceMethod yX8_init, .instanceMethod yX8_isOut, .instanceMethod yX8_isPickedAt, .instanceMethod yX8_isPitch, .instanceMethod yX8_isRunner, .instanceMethod yX8_isSafe, .instanceMethod yX8_isSo, .instanceMethod yX8_judge, .instanceMethod yX8_law, .instanceMethod yX8_lays, .instanceMethod yX8_leadFor, .instanceMethod yX8_leads, .instanceMethod yX8_lets, .instanceMethod yX8_look, .instanceMethod yX8_loose, .instanceMethod yX8_margin, .instanceMethod yX8_marginOf, .instanceMethod yX8_more, .instanceMethod yX8_move, .instanceMethod yX8_nameOf, .instanceMethod yX8_notMoved, .instanceMethod yX8_notThere, .instanceMethod yX8_number]
def AL_21 : List Cond := [.instanceMethod yX8_odds, .instanceMethod yX8_of, .instanceMethod yX8_one, .instanceMethod yX8_opens, .instanceMethod yX8_over, .instanceMethod yX8_partsBy, .instanceMethod yX8_pitch, .instanceMethod yX8_pitchIs, .instanceMethod yX8_plainAir, .instanceMethod yX8_plainDrops, .instanceMethod yX8_plainHisses, .instanceMethod yX8_plainParts, .instanceMethod yX8_plainThuds, .instanceMethod yX8_put, .instanceMethod yX8_restore, .instanceMethod yX8_runFrom, .instanceMethod yX8_runner, .instanceMethod yX8_runnerIs, .instanceMethod yX8_seed, .instanceMethod yX8_set, .instanceMethod yX8_sheet, .instanceMethod yX8_steal, .instanceMethod yX8_sum, .instanceMethod yX8_surely, .instanceMethod yX8_tell]
def AL_22 : List Cond := [.instanceMethod yX8_text, .instanceMethod yX8_thuds, .instanceMethod yX8_times, .instanceMethod yX8_told, .instanceMethod yX8_untell, .instanceMethod yX8_voice, .instanceMethod yX8_weighs, .instanceMethod yX8_weights, .instanceMethod yX8_weightsBy, .instanceMethod yX8_works, .instantiable RX0 5, .instantiable RX1 7, .instantiable RX2 6, .instantiable RX3 15, .instantiable RX4 3, .instantiable RX5 4, .instantiable RX6 6, .instantiable RX7 7, .instantiable RX8 19, .methodLink RX0 28 arraycopyName, .methodLink RX0 3 objectInit, .methodLink RX1 3 objectInit, .methodLink RX1 45 yX1_begins, .methodLink RX1 49 yX1_continues, .methodLink RX1 53 yX1_settle]
def AL_23 : List Cond := [.methodLink RX1 57 yX1_park, .methodLink RX1 60 yX1_isNumeral, .methodLink RX1 63 yX5_add, .methodLink RX1 70 yX1_lengthens, .methodLink RX1 73 yX1_closes, .methodLink RX1 77 yX1_rankOf, .methodLink RX2 3 objectInit, .methodLink RX2 31 arraycopyName, .methodLink RX3 107 yX3_airByKind, .methodLink RX3 111 yX3_gives, .methodLink RX3 115 yX2_backFrom, .methodLink RX3 119 yX3_air, .methodLink RX3 122 yX2_runFrom, .methodLink RX3 125 yX3_marginFrom, .methodLink RX3 128 yX3_gainOf, .methodLink RX3 137 yX3_gainFrom, .methodLink RX3 143 yX3_oneMore, .methodLink RX3 146 yX3_isOut, .methodLink RX3 157 yX0_allWeights, .methodLink RX3 162 yX3_draw, .methodLink RX3 165 yX0_byWeight, .methodLink RX3 168 yX3_isPicked, .methodLink RX3 172 yX3_goes, .methodLink RX3 175 Lib.Math.min.name, .methodLink RX3 180 Lib.Math.max.name]
def AL_24 : List Cond := [.methodLink RX3 3 objectInit, .methodLink RX3 71 yX0_takes, .methodLink RX3 75 yX2_takes, .methodLink RX3 78 yX5_takes, .methodLink RX3 81 arraycopyName, .methodLink RX3 91 yX5_work, .methodLink RX3 95 yX3_held, .methodLink RX4 22 arraycopyName, .methodLink RX4 3 objectInit, .methodLink RX5 26 arraycopyName, .methodLink RX5 3 objectInit, .methodLink RX5 32 yX5_named, .methodLink RX5 36 yX5_joined, .methodLink RX6 3 objectInit, .methodLink RX6 32 yX6_say, .methodLink RX6 36 yX6_bodyOf, .methodLink RX6 40 yX6_begin, .methodLink RX6 44 yX6_parts, .methodLink RX6 48 yX6_partsOfCurve, .methodLink RX7 1 objectInit, .methodLink RX7 108 yX2_add, .methodLink RX7 109 yX7_isRunner, .methodLink RX7 127 yX2_runFrom, .methodLink RX7 130 yX3_isPicked, .methodLink RX7 133 yX7_isFeet]
def AL_25 : List Cond := [.methodLink RX7 136 yX7_mostOfSetting, .methodLink RX7 139 yX3_change, .methodLink RX7 142 yX3_goes, .methodLink RX7 145 yX3_isOut, .methodLink RX7 156 yX7_isUse, .methodLink RX7 159 yX1_faultOf, .methodLink RX7 163 yX3_textOf, .methodLink RX7 171 yX5_takes, .methodLink RX7 181 yX3_gives, .methodLink RX7 185 yX3_marginFrom, .methodLink RX7 189 yX3_weighedGains, .methodLink RX7 192 yX0_allWeights, .methodLink RX7 196 yX3_safeWeights, .methodLink RX7 199 yX7_partOf, .methodLink RX7 202 yX3_gainFrom, .methodLink RX7 205 Lib.Math.min.name, .methodLink RX7 210 Lib.Math.max.name, .methodLink RX7 213 yX3_safePitches, .methodLink RX7 216 yJ6_bitCount_0f7a4, .methodLink RX7 221 yX7_isSheet, .methodLink RX7 224 yX4_isMissing, .methodLink RX7 227 yX7_fitsFrom, .methodLink RX7 230 yX3_isSafeByDraws, .methodLink RX7 237 yX6_speak, .methodLink RX7 250 yX4_lay]
def AL_26 : List Cond := [.methodLink RX7 254 yX4_standsAt, .methodLink RX7 257 yX4_write, .methodLink RX7 263 yX4_copy, .methodLink RX7 269 yX4_read, .methodLink RX7 272 yX3_takes, .methodLink RX7 303 Lib.Math.abs.name, .methodLink RX7 306 yX7_commonOf, .methodLink RX7 48 yX7_isKindAndM, .methodLink RX7 52 yX7_isDigit, .methodLink RX7 55 yX7_error, .methodLink RX7 68 yX0_add, .methodLink RX7 72 yX7_isPitch, .methodLink RX7 87 yX3_air, .methodLink RX7 90 yX3_costs, .methodLink RX7 93 yX7_within, .methodLink RX7 97 yX7_isUnder, .methodLink RX8 103 yX8_isLead, .methodLink RX8 106 yX8_held, .methodLink RX8 109 yX8_more, .methodLink RX8 113 yX8_isSafe, .methodLink RX8 116 yX8_gainOf, .methodLink RX8 119 yX8_isOut, .methodLink RX8 122 yX8_goes, .methodLink RX8 137 yX8_look, .methodLink RX8 145 yX8_lays]
def AL_27 : List Cond := [.methodLink RX8 152 yX8_one, .methodLink RX8 155 yX8_any, .methodLink RX8 158 yX8_nameOf, .methodLink RX8 161 yX8_opens, .methodLink RX8 164 yX8_number, .methodLink RX8 167 yX8_times, .methodLink RX8 170 yX8_sum, .methodLink RX8 173 yX8_compares, .methodLink RX8 176 yX8_all, .methodLink RX8 179 yX8_twoOf, .methodLink RX8 182 yX8_works, .methodLink RX8 186 yX8_gainsFrom, .methodLink RX8 189 yX8_weights, .methodLink RX8 193 yX8_partOf, .methodLink RX8 196 yX8_lesser, .methodLink RX8 199 yX8_greater, .methodLink RX8 202 yX8_isSheet, .methodLink RX8 205 yX8_isSo, .methodLink RX8 209 yX8_draw, .methodLink RX8 212 yX8_drawn, .methodLink RX8 219 yX8_begins, .methodLink RX8 222 yX8_plainHisses, .methodLink RX8 225 yX8_curveHisses, .methodLink RX8 228 yX8_hisses, .methodLink RX8 231 yX8_plainDrops]
def AL_28 : List Cond := [.methodLink RX8 234 yX8_hardDrops, .methodLink RX8 237 yX8_drops, .methodLink RX8 240 yX8_plainThuds, .methodLink RX8 246 yX8_plainParts, .methodLink RX8 249 yX8_thuds, .methodLink RX8 252 yX8_partsBy, .methodLink RX8 256 yX8_notThere, .methodLink RX8 259 yX8_notMoved, .methodLink RX8 263 yX8_copyAll, .methodLink RX8 3 objectInit, .methodLink RX8 44 yX8_in, .methodLink RX8 48 yX8_of, .methodLink RX8 52 yX8_plainAir, .methodLink RX8 56 yX8_gives, .methodLink RX8 60 yX8_about, .methodLink RX8 63 yX8_airOf, .methodLink RX8 66 yX8_runFrom, .methodLink RX8 69 yX8_marginOf, .methodLink RX8 73 yX8_isKm, .methodLink RX8 78 yX8_error, .methodLink RX8 82 yX8_isPitch, .methodLink RX8 85 yX8_costsOf, .methodLink RX8 88 yX8_becomes, .methodLink RX8 92 yX8_lets, .methodLink RX8 96 yX8_isRunner]
def AL_29 : List Cond := [.methodLink RX8 99 yX8_isPickedAt, .native arraycopyName, .selects RX0 yX0_add yX0_add, .selects RX0 yX0_allWeights yX0_allWeights, .selects RX0 yX0_byWeight yX0_byWeight, .selects RX0 yX0_takes yX0_takes, .selects RX1 yX1_begins yX1_begins, .selects RX1 yX1_closes yX1_closes, .selects RX1 yX1_continues yX1_continues, .selects RX1 yX1_faultOf yX1_faultOf, .selects RX1 yX1_lengthens yX1_lengthens, .selects RX1 yX1_park yX1_park, .selects RX1 yX1_settle yX1_settle, .selects RX2 yX2_add yX2_add, .selects RX2 yX2_backFrom yX2_backFrom, .selects RX2 yX2_runFrom yX2_runFrom, .selects RX2 yX2_takes yX2_takes, .selects RX3 yX3_air yX3_air, .selects RX3 yX3_airByKind yX3_airByKind, .selects RX3 yX3_change yX3_change, .selects RX3 yX3_costs yX3_costs, .selects RX3 yX3_draw yX3_draw, .selects RX3 yX3_gainFrom yX3_gainFrom, .selects RX3 yX3_gainOf yX3_gainOf, .selects RX3 yX3_gives yX3_gives]
def AL_30 : List Cond := [.selects RX3 yX3_goes yX3_goes, .selects RX3 yX3_isOut yX3_isOut, .selects RX3 yX3_isPicked yX3_isPicked, .selects RX3 yX3_isSafeByDraws yX3_isSafeByDraws, .selects RX3 yX3_marginFrom yX3_marginFrom, .selects RX3 yX3_safePitches yX3_safePitches, .selects RX3 yX3_safeWeights yX3_safeWeights, .selects RX3 yX3_takes yX3_takes, .selects RX3 yX3_textOf yX3_textOf, .selects RX3 yX3_weighedGains yX3_weighedGains, .selects RX4 yX4_copy yX4_copy, .selects RX4 yX4_isMissing yX4_isMissing, .selects RX4 yX4_lay yX4_lay, .selects RX4 yX4_read yX4_read, .selects RX4 yX4_standsAt yX4_standsAt, .selects RX4 yX4_write yX4_write, .selects RX5 yX5_add yX5_add, .selects RX5 yX5_takes yX5_takes, .selects RX5 yX5_work yX5_work, .selects RX6 yX6_begin yX6_begin, .selects RX6 yX6_parts yX6_parts, .selects RX6 yX6_partsOfCurve yX6_partsOfCurve, .selects RX6 yX6_say yX6_say, .selects RX6 yX6_speak yX6_speak, .selects RX7 yX7_as yX7_as]
def AL_31 : List Cond := [.selects RX7 yX7_become yX7_become, .selects RX7 yX7_bestLead yX7_bestLead, .selects RX7 yX7_body yX7_body, .selects RX7 yX7_check yX7_check, .selects RX7 yX7_count yX7_count, .selects RX7 yX7_duel yX7_duel, .selects RX7 yX7_error yX7_error, .selects RX7 yX7_feed yX7_feed, .selects RX7 yX7_fits yX7_fits, .selects RX7 yX7_fitsFrom yX7_fitsFrom, .selects RX7 yX7_go yX7_go, .selects RX7 yX7_image yX7_image, .selects RX7 yX7_isPitch yX7_isPitch, .selects RX7 yX7_isRunner yX7_isRunner, .selects RX7 yX7_judge yX7_judge, .selects RX7 yX7_law yX7_law, .selects RX7 yX7_leadFor yX7_leadFor, .selects RX7 yX7_leads yX7_leads, .selects RX7 yX7_loose yX7_loose, .selects RX7 yX7_margin yX7_margin, .selects RX7 yX7_move yX7_move, .selects RX7 yX7_odds yX7_odds, .selects RX7 yX7_over yX7_over, .selects RX7 yX7_pitch yX7_pitch, .selects RX7 yX7_pitchIs yX7_pitchIs]
def AL_32 : List Cond := [.selects RX7 yX7_put yX7_put, .selects RX7 yX7_restore yX7_restore, .selects RX7 yX7_runner yX7_runner, .selects RX7 yX7_runnerIs yX7_runnerIs, .selects RX7 yX7_seed yX7_seed, .selects RX7 yX7_set yX7_set, .selects RX7 yX7_sheet yX7_sheet, .selects RX7 yX7_steal yX7_steal, .selects RX7 yX7_surely yX7_surely, .selects RX7 yX7_tell yX7_tell, .selects RX7 yX7_text yX7_text, .selects RX7 yX7_told yX7_told, .selects RX7 yX7_untell yX7_untell, .selects RX7 yX7_voice yX7_voice, .selects RX7 yX7_weighs yX7_weighs, .selects RX7 yX7_weightsBy yX7_weightsBy, .selects RX8 yX8_about yX8_about, .selects RX8 yX8_airOf yX8_airOf, .selects RX8 yX8_all yX8_all, .selects RX8 yX8_any yX8_any, .selects RX8 yX8_as yX8_as, .selects RX8 yX8_become yX8_become, .selects RX8 yX8_becomes yX8_becomes, .selects RX8 yX8_begins yX8_begins, .selects RX8 yX8_bestLead yX8_bestLead]
def AL_33 : List Cond := [.selects RX8 yX8_body yX8_body, .selects RX8 yX8_check yX8_check, .selects RX8 yX8_compares yX8_compares, .selects RX8 yX8_costsOf yX8_costsOf, .selects RX8 yX8_count yX8_count, .selects RX8 yX8_curveHisses yX8_curveHisses, .selects RX8 yX8_draw yX8_draw, .selects RX8 yX8_drawn yX8_drawn, .selects RX8 yX8_drops yX8_drops, .selects RX8 yX8_duel yX8_duel, .selects RX8 yX8_error yX8_error, .selects RX8 yX8_feed yX8_feed, .selects RX8 yX8_fits yX8_fits, .selects RX8 yX8_gainOf yX8_gainOf, .selects RX8 yX8_gainsFrom yX8_gainsFrom, .selects RX8 yX8_gives yX8_gives, .selects RX8 yX8_go yX8_go, .selects RX8 yX8_goes yX8_goes, .selects RX8 yX8_hardDrops yX8_hardDrops, .selects RX8 yX8_hisses yX8_hisses, .selects RX8 yX8_image yX8_image, .selects RX8 yX8_isOut yX8_isOut, .selects RX8 yX8_isPickedAt yX8_isPickedAt, .selects RX8 yX8_isPitch yX8_isPitch, .selects RX8 yX8_isRunner yX8_isRunner]
def AL_34 : List Cond := [.selects RX8 yX8_isSafe yX8_isSafe, .selects RX8 yX8_isSo yX8_isSo, .selects RX8 yX8_judge yX8_judge, .selects RX8 yX8_law yX8_law, .selects RX8 yX8_lays yX8_lays, .selects RX8 yX8_leadFor yX8_leadFor, .selects RX8 yX8_leads yX8_leads, .selects RX8 yX8_lets yX8_lets, .selects RX8 yX8_look yX8_look, .selects RX8 yX8_loose yX8_loose, .selects RX8 yX8_margin yX8_margin, .selects RX8 yX8_marginOf yX8_marginOf, .selects RX8 yX8_more yX8_more, .selects RX8 yX8_move yX8_move, .selects RX8 yX8_nameOf yX8_nameOf, .selects RX8 yX8_notMoved yX8_notMoved, .selects RX8 yX8_notThere yX8_notThere, .selects RX8 yX8_number yX8_number, .selects RX8 yX8_odds yX8_odds, .selects RX8 yX8_of yX8_of, .selects RX8 yX8_one yX8_one, .selects RX8 yX8_opens yX8_opens, .selects RX8 yX8_over yX8_over, .selects RX8 yX8_partsBy yX8_partsBy, .selects RX8 yX8_pitch yX8_pitch]
def AL_35 : List Cond := [.selects RX8 yX8_pitchIs yX8_pitchIs, .selects RX8 yX8_plainAir yX8_plainAir, .selects RX8 yX8_plainDrops yX8_plainDrops, .selects RX8 yX8_plainHisses yX8_plainHisses, .selects RX8 yX8_plainParts yX8_plainParts, .selects RX8 yX8_plainThuds yX8_plainThuds, .selects RX8 yX8_put yX8_put, .selects RX8 yX8_restore yX8_restore, .selects RX8 yX8_runFrom yX8_runFrom, .selects RX8 yX8_runner yX8_runner, .selects RX8 yX8_runnerIs yX8_runnerIs, .selects RX8 yX8_seed yX8_seed, .selects RX8 yX8_set yX8_set, .selects RX8 yX8_sheet yX8_sheet, .selects RX8 yX8_steal yX8_steal, .selects RX8 yX8_sum yX8_sum, .selects RX8 yX8_surely yX8_surely, .selects RX8 yX8_tell yX8_tell, .selects RX8 yX8_text yX8_text, .selects RX8 yX8_thuds yX8_thuds, .selects RX8 yX8_times yX8_times, .selects RX8 yX8_told yX8_told, .selects RX8 yX8_untell yX8_untell, .selects RX8 yX8_voice yX8_voice, .selects RX8 yX8_weighs yX8_weighs]
def AL_36 : List Cond := [.selects RX8 yX8_weights yX8_weights, .selects RX8 yX8_weightsBy yX8_weightsBy, .selects RX8 yX8_works yX8_works, .static Lib.Math.abs.name, .static Lib.Math.max.name, .static Lib.Math.min.name, .static arraycopyName, .static yJ6_bitCount_0f7a4, .static yX1_isNumeral, .static yX1_rankOf, .static yX3_held, .static yX3_oneMore, .static yX5_joined, .static yX5_named, .static yX6_bodyOf, .static yX7_commonOf, .static yX7_isDigit, .static yX7_isFeet, .static yX7_isKindAndM, .static yX7_isSheet, .static yX7_isUnder, .static yX7_isUse, .static yX7_mostOfSetting, .static yX7_partOf, .static yX7_within]
def AL_37 : List Cond := [.static yX8_copyAll, .static yX8_greater, .static yX8_held, .static yX8_in, .static yX8_isKm, .static yX8_isLead, .static yX8_isSheet, .static yX8_lesser, .static yX8_partOf, .static yX8_twoOf]
def ALL : List Cond := AL_u ++ (AL_0 ++ (AL_1 ++ (AL_2 ++ (AL_3 ++ (AL_4 ++ (AL_5 ++ (AL_6 ++ (AL_7 ++ (AL_8 ++ (AL_9 ++ (AL_10 ++ (AL_11 ++ (AL_12 ++ (AL_13 ++ (AL_14 ++ (AL_15 ++ (AL_16 ++ (AL_17 ++ (AL_18 ++ (AL_19 ++ (AL_20 ++ (AL_21 ++ (AL_22 ++ (AL_23 ++ (AL_24 ++ (AL_25 ++ (AL_26 ++ (AL_27 ++ (AL_28 ++ (AL_29 ++ (AL_30 ++ (AL_31 ++ (AL_32 ++ (AL_33 ++ (AL_34 ++ (AL_35 ++ (AL_36 ++ (AL_37))))))))))))))))))))))))))))))))))))))
set_option maxRecDepth 100000 in
theorem ALL_good : ALL.all goodWord = true := by decide +kernel
theorem AL_inu : ∀ w ∈ AL_u, w ∈ ALL := fun _ h => List.mem_append_left _ h
theorem AL_in0 : ∀ w ∈ AL_0, w ∈ ALL := fun _ h => List.mem_append_right _ (List.mem_append_left _ h)
theorem AL_in1 : ∀ w ∈ AL_1, w ∈ ALL := fun _ h => List.mem_append_right _ (List.mem_append_right _ (List.mem_append_left _ h))
theorem AL_in2 : ∀ w ∈ AL_2, w ∈ ALL := fun _ h => List.mem_append_right _ (List.mem_append_right _ (List.mem_append_right _ (List.mem_append_left _ h)))
theorem AL_in3 : ∀ w ∈ AL_3, w ∈ ALL := fun _ h => List.mem_append_right _ (List.mem_append_right _ (List.mem_append_right _ (List.mem_append_right _ (List.mem_append_left _ h))))
theorem AL_in4 : ∀ w ∈ AL_4, w ∈ ALL := fun _ h => List.mem_append_right _ (List.mem_append_right _ (List.mem_append_right _ (List.mem_append_right _ (List.mem_append_right _ (List.mem_append_left _ h)))))
theorem AL_in5 : ∀ w ∈ AL_5, w ∈ ALL := fun _ h => List.mem_append_right _ (List.mem_append_right _ (List.mem_append_right _ (List.mem_append_right _ (List.mem_append_right _ (List.mem_append_right _ (List.mem_append_left _ h))))))
theorem AL_in6 : ∀ w ∈ AL_6, w ∈ ALL := fun _ h => List.mem_append_right _ (List.mem_append_right _ (List.mem_append_right _ (List.mem_append_right _ (List.mem_append_right _ (List.mem_append_right _ (List.mem_append_right _ (List.mem_append_left _ h)))))))
theorem AL_in7 : ∀ w ∈ AL_7, w ∈ ALL := fun _ h => List.mem_append_right _ (List.mem_append_right _ (List.mem_append_right _ (List.mem_append_right _ (List.mem_append_right _ (List.mem_append_right _ (List.mem_append_right _ (List.mem_append_right _ (List.mem_append_left _ h))))))))
theorem AL_in8 : ∀ w ∈ AL_8, w ∈ ALL := fun _ h => List.mem_append_right _ (List.mem_append_right _ (List.mem_append_right _ (List.mem_append_right _ (List.mem_append_right _ (List.mem_append_right _ (List.mem_append_right _ (List.mem_append_right _ (List.mem_append_right _ (List.mem_append_left _ h)))))))))
theorem AL_in9 : ∀ w ∈ AL_9, w ∈ ALL := fun _ h => List.mem_append_right _ (List.mem_append_right _ (List.mem_append_right _ (List.mem_append_right _ (List.mem_append_right _ (List.mem_append_right _ (List.mem_append_right _ (List.mem_append_right _ (List.mem_append_right _ (List.mem_append_right _ (List.mem_append_left _ h))))))))))
theorem AL_in10 : ∀ w ∈ AL_10, w ∈ ALL := fun _ h => List.mem_append_right _ (List.mem_append_right _ (List.mem_append_right _ (List.mem_append_right _ (List.mem_append_right _ (List.mem_append_right _ (List.mem_append_right _ (List.mem_append_right _ (List.mem_append_right _ (List.mem_append_right _ (List.mem_append_right _ (List.mem_append_left _ h)))))))))))
theorem AL_in11 : ∀ w ∈ AL_11, w ∈ ALL := fun _ h => List.mem_append_right _ (List.mem_append_right _ (List.mem_append_right _ (List.mem_append_right _ (List.mem_append_right _ (List.mem_append_right _ (List.mem_append_right _ (List.mem_append_right _ (List.mem_append_right _ (List.mem_append_right _ (List.mem_append_right _ (List.mem_append_right _ (List.mem_append_left _ h))))))))))))
theorem AL_in12 : ∀ w ∈ AL_12, w ∈ ALL := fun _ h => List.mem_append_right _ (List.mem_append_right _ (List.mem_append_right _ (List.mem_append_right _ (List.mem_append_right _ (List.mem_append_right _ (List.mem_append_right _ (List.mem_append_right _ (List.mem_append_right _ (List.mem_append_right _ (List.mem_append_right _ (List.mem_append_right _ (List.mem_append_right _ (List.mem_append_left _ h)))))))))))))
theorem AL_in13 : ∀ w ∈ AL_13, w ∈ ALL := fun _ h => List.mem_append_right _ (List.mem_append_right _ (List.mem_append_right _ (List.mem_append_right _ (List.mem_append_right _ (List.mem_append_right _ (List.mem_append_right _ (List.mem_append_right _ (List.mem_append_right _ (List.mem_append_right _ (List.mem_append_right _ (List.mem_append_right _ (List.mem_append_right _ (List.mem_append_right _ (List.mem_append_left _ h))))))))))))))
theorem AL_in14 : ∀ w ∈ AL_14, w ∈ ALL := fun _ h => List.mem_append_right _ (List.mem_append_right _ (List.mem_append_right _ (List.mem_append_right _ (List.mem_append_right _ (List.mem_append_right _ (List.mem_append_right _ (List.mem_append_right _ (List.mem_append_right _ (List.mem_append_right _ (List.mem_append_right _ (List.mem_append_right _ (List.mem_append_right _ (List.mem_append_right _ (List.mem_append_right _ (List.mem_append_left _ h)))))))))))))))
theorem AL_in15 : ∀ w ∈ AL_15, w ∈ ALL := fun _ h => List.mem_append_right _ (List.mem_append_right _ (List.mem_append_right _ (List.mem_append_right _ (List.mem_append_right _ (List.mem_append_right _ (List.mem_append_right _ (List.mem_append_right _ (List.mem_append_right _ (List.mem_append_right _ (List.mem_append_right _ (List.mem_append_right _ (List.mem_append_right _ (List.mem_append_right _ (List.mem_append_right _ (List.mem_append_right _ (List.mem_append_left _ h))))))))))))))))
theorem AL_in16 : ∀ w ∈ AL_16, w ∈ ALL := fun _ h => List.mem_append_right _ (List.mem_append_right _ (List.mem_append_right _ (List.mem_append_right _ (List.mem_append_right _ (List.mem_append_right _ (List.mem_append_right _ (List.mem_append_right _ (List.mem_append_right _ (List.mem_append_right _ (List.mem_append_right _ (List.mem_append_right _ (List.mem_append_right _ (List.mem_append_right _ (List.mem_append_right _ (List.mem_append_right _ (List.mem_append_right _ (List.mem_append_left _ h)))))))))))))))))
theorem AL_in17 : ∀ w ∈ AL_17, w ∈ ALL := fun _ h => List.mem_append_right _ (List.mem_append_right _ (List.mem_append_right _ (List.mem_append_right _ (List.mem_append_right _ (List.mem_append_right _ (List.mem_append_right _ (List.mem_append_right _ (List.mem_append_right _ (List.mem_append_right _ (List.mem_append_right _ (List.mem_append_right _ (List.mem_append_right _ (List.mem_append_right _ (List.mem_append_right _ (List.mem_append_right _ (List.mem_append_right _ (List.mem_append_right _ (List.mem_append_left _ h))))))))))))))))))
theorem AL_in18 : ∀ w ∈ AL_18, w ∈ ALL := fun _ h => List.mem_append_right _ (List.mem_append_right _ (List.mem_append_right _ (List.mem_append_right _ (List.mem_append_right _ (List.mem_append_right _ (List.mem_append_right _ (List.mem_append_right _ (List.mem_append_right _ (List.mem_append_right _ (List.mem_append_right _ (List.mem_append_right _ (List.mem_append_right _ (List.mem_append_right _ (List.mem_append_right _ (List.mem_append_right _ (List.mem_append_right _ (List.mem_append_right _ (List.mem_append_right _ (List.mem_append_left _ h)))))))))))))))))))
theorem AL_in19 : ∀ w ∈ AL_19, w ∈ ALL := fun _ h => List.mem_append_right _ (List.mem_append_right _ (List.mem_append_right _ (List.mem_append_right _ (List.mem_append_right _ (List.mem_append_right _ (List.mem_append_right _ (List.mem_append_right _ (List.mem_append_right _ (List.mem_append_right _ (List.mem_append_right _ (List.mem_append_right _ (List.mem_append_right _ (List.mem_append_right _ (List.mem_append_right _ (List.mem_append_right _ (List.mem_append_right _ (List.mem_append_right _ (List.mem_append_right _ (List.mem_append_right _ (List.mem_append_left _ h))))))))))))))))))))
theorem AL_in20 : ∀ w ∈ AL_20, w ∈ ALL := fun _ h => List.mem_append_right _ (List.mem_append_right _ (List.mem_append_right _ (List.mem_append_right _ (List.mem_append_right _ (List.mem_append_right _ (List.mem_append_right _ (List.mem_append_right _ (List.mem_append_right _ (List.mem_append_right _ (List.mem_append_right _ (List.mem_append_right _ (List.mem_append_right _ (List.mem_append_right _ (List.mem_append_right _ (List.mem_append_right _ (List.mem_append_right _ (List.mem_append_right _ (List.mem_append_right _ (List.mem_append_right _ (List.mem_append_right _ (List.mem_append_left _ h)))))))))))))))))))))
theorem AL_in21 : ∀ w ∈ AL_21, w ∈ ALL := fun _ h => List.mem_append_right _ (List.mem_append_right _ (List.mem_append_right _ (List.mem_append_right _ (List.mem_append_right _ (List.mem_append_right _ (List.mem_append_right _ (List.mem_append_right _ (List.mem_append_right _ (List.mem_append_right _ (List.mem_append_right _ (List.mem_append_right _ (List.mem_append_right _ (List.mem_append_right _ (List.mem_append_right _ (List.mem_append_right _ (List.mem_append_right _ (List.mem_append_right _ (List.mem_append_right _ (List.mem_append_right _ (List.mem_append_right _ (List.mem_append_right _ (List.mem_append_left _ h))))))))))))))))))))))
theorem AL_in22 : ∀ w ∈ AL_22, w ∈ ALL := fun _ h => List.mem_append_right _ (List.mem_append_right _ (List.mem_append_right _ (List.mem_append_right _ (List.mem_append_right _ (List.mem_append_right _ (List.mem_append_right _ (List.mem_append_right _ (List.mem_append_right _ (List.mem_append_right _ (List.mem_append_right _ (List.mem_append_right _ (List.mem_append_right _ (List.mem_append_right _ (List.mem_append_right _ (List.mem_append_right _ (List.mem_append_right _ (List.mem_append_right _ (List.mem_append_right _ (List.mem_append_right _ (List.mem_append_right _ (List.mem_append_right _ (List.mem_append_right _ (List.mem_append_left _ h)))))))))))))))))))))))
theorem AL_in23 : ∀ w ∈ AL_23, w ∈ ALL := fun _ h => List.mem_append_right _ (List.mem_append_right _ (List.mem_append_right _ (List.mem_append_right _ (List.mem_append_right _ (List.mem_append_right _ (List.mem_append_right _ (List.mem_append_right _ (List.mem_append_right _ (List.mem_append_right _ (List.mem_append_right _ (List.mem_append_right _ (List.mem_append_right _ (List.mem_append_right _ (List.mem_append_right _ (List.mem_append_right _ (List.mem_append_right _ (List.mem_append_right _ (List.mem_append_right _ (List.mem_append_right _ (List.mem_append_right _ (List.mem_append_right _ (List.mem_append_right _ (List.mem_append_right _ (List.mem_append_left _ h))))))))))))))))))))))))
theorem AL_in24 : ∀ w ∈ AL_24, w ∈ ALL := fun _ h => List.mem_append_right _ (List.mem_append_right _ (List.mem_append_right _ (List.mem_append_right _ (List.mem_append_right _ (List.mem_append_right _ (List.mem_append_right _ (List.mem_append_right _ (List.mem_append_right _ (List.mem_append_right _ (List.mem_append_right _ (List.mem_append_right _ (List.mem_append_right _ (List.mem_append_right _ (List.mem_append_right _ (List.mem_append_right _ (List.mem_append_right _ (List.mem_append_right _ (List.mem_append_right _ (List.mem_append_right _ (List.mem_append_right _ (List.mem_append_right _ (List.mem_append_right _ (List.mem_append_right _ (List.mem_append_right _ (List.mem_append_left _ h)))))))))))))))))))))))))
theorem AL_in25 : ∀ w ∈ AL_25, w ∈ ALL := fun _ h => List.mem_append_right _ (List.mem_append_right _ (List.mem_append_right _ (List.mem_append_right _ (List.mem_append_right _ (List.mem_append_right _ (List.mem_append_right _ (List.mem_append_right _ (List.mem_append_right _ (List.mem_append_right _ (List.mem_append_right _ (List.mem_append_right _ (List.mem_append_right _ (List.mem_append_right _ (List.mem_append_right _ (List.mem_append_right _ (List.mem_append_right _ (List.mem_append_right _ (List.mem_append_right _ (List.mem_append_right _ (List.mem_append_right _ (List.mem_append_right _ (List.mem_append_right _ (List.mem_append_right _ (List.mem_append_right _ (List.mem_append_right _ (List.mem_append_left _ h))))))))))))))))))))))))))
theorem AL_in26 : ∀ w ∈ AL_26, w ∈ ALL := fun _ h => List.mem_append_right _ (List.mem_append_right _ (List.mem_append_right _ (List.mem_append_right _ (List.mem_append_right _ (List.mem_append_right _ (List.mem_append_right _ (List.mem_append_right _ (List.mem_append_right _ (List.mem_append_right _ (List.mem_append_right _ (List.mem_append_right _ (List.mem_append_right _ (List.mem_append_right _ (List.mem_append_right _ (List.mem_append_right _ (List.mem_append_right _ (List.mem_append_right _ (List.mem_append_right _ (List.mem_append_right _ (List.mem_append_right _ (List.mem_append_right _ (List.mem_append_right _ (List.mem_append_right _ (List.mem_append_right _ (List.mem_append_right _ (List.mem_append_right _ (List.mem_append_left _ h)))))))))))))))))))))))))))
theorem AL_in27 : ∀ w ∈ AL_27, w ∈ ALL := fun _ h => List.mem_append_right _ (List.mem_append_right _ (List.mem_append_right _ (List.mem_append_right _ (List.mem_append_right _ (List.mem_append_right _ (List.mem_append_right _ (List.mem_append_right _ (List.mem_append_right _ (List.mem_append_right _ (List.mem_append_right _ (List.mem_append_right _ (List.mem_append_right _ (List.mem_append_right _ (List.mem_append_right _ (List.mem_append_right _ (List.mem_append_right _ (List.mem_append_right _ (List.mem_append_right _ (List.mem_append_right _ (List.mem_append_right _ (List.mem_append_right _ (List.mem_append_right _ (List.mem_append_right _ (List.mem_append_right _ (List.mem_append_right _ (List.mem_append_right _ (List.mem_append_right _ (List.mem_append_left _ h))))))))))))))))))))))))))))
theorem AL_in28 : ∀ w ∈ AL_28, w ∈ ALL := fun _ h => List.mem_append_right _ (List.mem_append_right _ (List.mem_append_right _ (List.mem_append_right _ (List.mem_append_right _ (List.mem_append_right _ (List.mem_append_right _ (List.mem_append_right _ (List.mem_append_right _ (List.mem_append_right _ (List.mem_append_right _ (List.mem_append_right _ (List.mem_append_right _ (List.mem_append_right _ (List.mem_append_right _ (List.mem_append_right _ (List.mem_append_right _ (List.mem_append_right _ (List.mem_append_right _ (List.mem_append_right _ (List.mem_append_right _ (List.mem_append_right _ (List.mem_append_right _ (List.mem_append_right _ (List.mem_append_right _ (List.mem_append_right _ (List.mem_append_right _ (List.mem_append_right _ (List.mem_append_right _ (List.mem_append_left _ h)))))))))))))))))))))))))))))
theorem AL_in29 : ∀ w ∈ AL_29, w ∈ ALL := fun _ h => List.mem_append_right _ (List.mem_append_right _ (List.mem_append_right _ (List.mem_append_right _ (List.mem_append_right _ (List.mem_append_right _ (List.mem_append_right _ (List.mem_append_right _ (List.mem_append_right _ (List.mem_append_right _ (List.mem_append_right _ (List.mem_append_right _ (List.mem_append_right _ (List.mem_append_right _ (List.mem_append_right _ (List.mem_append_right _ (List.mem_append_right _ (List.mem_append_right _ (List.mem_append_right _ (List.mem_append_right _ (List.mem_append_right _ (List.mem_append_right _ (List.mem_append_right _ (List.mem_append_right _ (List.mem_append_right _ (List.mem_append_right _ (List.mem_append_right _ (List.mem_append_right _ (List.mem_append_right _ (List.mem_append_right _ (List.mem_append_left _ h))))))))))))))))))))))))))))))
theorem AL_in30 : ∀ w ∈ AL_30, w ∈ ALL := fun _ h => List.mem_append_right _ (List.mem_append_right _ (List.mem_append_right _ (List.mem_append_right _ (List.mem_append_right _ (List.mem_append_right _ (List.mem_append_right _ (List.mem_append_right _ (List.mem_append_right _ (List.mem_append_right _ (List.mem_append_right _ (List.mem_append_right _ (List.mem_append_right _ (List.mem_append_right _ (List.mem_append_right _ (List.mem_append_right _ (List.mem_append_right _ (List.mem_append_right _ (List.mem_append_right _ (List.mem_append_right _ (List.mem_append_right _ (List.mem_append_right _ (List.mem_append_right _ (List.mem_append_right _ (List.mem_append_right _ (List.mem_append_right _ (List.mem_append_right _ (List.mem_append_right _ (List.mem_append_right _ (List.mem_append_right _ (List.mem_append_right _ (List.mem_append_left _ h)))))))))))))))))))))))))))))))
theorem AL_in31 : ∀ w ∈ AL_31, w ∈ ALL := fun _ h => List.mem_append_right _ (List.mem_append_right _ (List.mem_append_right _ (List.mem_append_right _ (List.mem_append_right _ (List.mem_append_right _ (List.mem_append_right _ (List.mem_append_right _ (List.mem_append_right _ (List.mem_append_right _ (List.mem_append_right _ (List.mem_append_right _ (List.mem_append_right _ (List.mem_append_right _ (List.mem_append_right _ (List.mem_append_right _ (List.mem_append_right _ (List.mem_append_right _ (List.mem_append_right _ (List.mem_append_right _ (List.mem_append_right _ (List.mem_append_right _ (List.mem_append_right _ (List.mem_append_right _ (List.mem_append_right _ (List.mem_append_right _ (List.mem_append_right _ (List.mem_append_right _ (List.mem_append_right _ (List.mem_append_right _ (List.mem_append_right _ (List.mem_append_right _ (List.mem_append_left _ h))))))))))))))))))))))))))))))))
theorem AL_in32 : ∀ w ∈ AL_32, w ∈ ALL := fun _ h => List.mem_append_right _ (List.mem_append_right _ (List.mem_append_right _ (List.mem_append_right _ (List.mem_append_right _ (List.mem_append_right _ (List.mem_append_right _ (List.mem_append_right _ (List.mem_append_right _ (List.mem_append_right _ (List.mem_append_right _ (List.mem_append_right _ (List.mem_append_right _ (List.mem_append_right _ (List.mem_append_right _ (List.mem_append_right _ (List.mem_append_right _ (List.mem_append_right _ (List.mem_append_right _ (List.mem_append_right _ (List.mem_append_right _ (List.mem_append_right _ (List.mem_append_right _ (List.mem_append_right _ (List.mem_append_right _ (List.mem_append_right _ (List.mem_append_right _ (List.mem_append_right _ (List.mem_append_right _ (List.mem_append_right _ (List.mem_append_right _ (List.mem_append_right _ (List.mem_append_right _ (List.mem_append_left _ h)))))))))))))))))))))))))))))))))
theorem AL_in33 : ∀ w ∈ AL_33, w ∈ ALL := fun _ h => List.mem_append_right _ (List.mem_append_right _ (List.mem_append_right _ (List.mem_append_right _ (List.mem_append_right _ (List.mem_append_right _ (List.mem_append_right _ (List.mem_append_right _ (List.mem_append_right _ (List.mem_append_right _ (List.mem_append_right _ (List.mem_append_right _ (List.mem_append_right _ (List.mem_append_right _ (List.mem_append_right _ (List.mem_append_right _ (List.mem_append_right _ (List.mem_append_right _ (List.mem_append_right _ (List.mem_append_right _ (List.mem_append_right _ (List.mem_append_right _ (List.mem_append_right _ (List.mem_append_right _ (List.mem_append_right _ (List.mem_append_right _ (List.mem_append_right _ (List.mem_append_right _ (List.mem_append_right _ (List.mem_append_right _ (List.mem_append_right _ (List.mem_append_right _ (List.mem_append_right _ (List.mem_append_right _ (List.mem_append_left _ h))))))))))))))))))))))))))))))))))
theorem AL_in34 : ∀ w ∈ AL_34, w ∈ ALL := fun _ h => List.mem_append_right _ (List.mem_append_right _ (List.mem_append_right _ (List.mem_append_right _ (List.mem_append_right _ (List.mem_append_right _ (List.mem_append_right _ (List.mem_append_right _ (List.mem_append_right _ (List.mem_append_right _ (List.mem_append_right _ (List.mem_append_right _ (List.mem_append_right _ (List.mem_append_right _ (List.mem_append_right _ (List.mem_append_right _ (List.mem_append_right _ (List.mem_append_right _ (List.mem_append_right _ (List.mem_append_right _ (List.mem_append_right _ (List.mem_append_right _ (List.mem_append_right _ (List.mem_append_right _ (List.mem_append_right _ (List.mem_append_right _ (List.mem_append_right _ (List.mem_append_right _ (List.mem_append_right _ (List.mem_append_right _ (List.mem_append_right _ (List.mem_append_right _ (List.mem_append_right _ (List.mem_append_right _ (List.mem_append_right _ (List.mem_append_left _ h)))))))))))))))))))))))))))))))))))
theorem AL_in35 : ∀ w ∈ AL_35, w ∈ ALL := fun _ h => List.mem_append_right _ (List.mem_append_right _ (List.mem_append_right _ (List.mem_append_right _ (List.mem_append_right _ (List.mem_append_right _ (List.mem_append_right _ (List.mem_append_right _ (List.mem_append_right _ (List.mem_append_right _ (List.mem_append_right _ (List.mem_append_right _ (List.mem_append_right _ (List.mem_append_right _ (List.mem_append_right _ (List.mem_append_right _ (List.mem_append_right _ (List.mem_append_right _ (List.mem_append_right _ (List.mem_append_right _ (List.mem_append_right _ (List.mem_append_right _ (List.mem_append_right _ (List.mem_append_right _ (List.mem_append_right _ (List.mem_append_right _ (List.mem_append_right _ (List.mem_append_right _ (List.mem_append_right _ (List.mem_append_right _ (List.mem_append_right _ (List.mem_append_right _ (List.mem_append_right _ (List.mem_append_right _ (List.mem_append_right _ (List.mem_append_right _ (List.mem_append_left _ h))))))))))))))))))))))))))))))))))))
theorem AL_in36 : ∀ w ∈ AL_36, w ∈ ALL := fun _ h => List.mem_append_right _ (List.mem_append_right _ (List.mem_append_right _ (List.mem_append_right _ (List.mem_append_right _ (List.mem_append_right _ (List.mem_append_right _ (List.mem_append_right _ (List.mem_append_right _ (List.mem_append_right _ (List.mem_append_right _ (List.mem_append_right _ (List.mem_append_right _ (List.mem_append_right _ (List.mem_append_right _ (List.mem_append_right _ (List.mem_append_right _ (List.mem_append_right _ (List.mem_append_right _ (List.mem_append_right _ (List.mem_append_right _ (List.mem_append_right _ (List.mem_append_right _ (List.mem_append_right _ (List.mem_append_right _ (List.mem_append_right _ (List.mem_append_right _ (List.mem_append_right _ (List.mem_append_right _ (List.mem_append_right _ (List.mem_append_right _ (List.mem_append_right _ (List.mem_append_right _ (List.mem_append_right _ (List.mem_append_right _ (List.mem_append_right _ (List.mem_append_right _ (List.mem_append_left _ h)))))))))))))))))))))))))))))))))))))
theorem AL_in37 : ∀ w ∈ AL_37, w ∈ ALL := fun _ h => List.mem_append_right _ (List.mem_append_right _ (List.mem_append_right _ (List.mem_append_right _ (List.mem_append_right _ (List.mem_append_right _ (List.mem_append_right _ (List.mem_append_right _ (List.mem_append_right _ (List.mem_append_right _ (List.mem_append_right _ (List.mem_append_right _ (List.mem_append_right _ (List.mem_append_right _ (List.mem_append_right _ (List.mem_append_right _ (List.mem_append_right _ (List.mem_append_right _ (List.mem_append_right _ (List.mem_append_right _ (List.mem_append_right _ (List.mem_append_right _ (List.mem_append_right _ (List.mem_append_right _ (List.mem_append_right _ (List.mem_append_right _ (List.mem_append_right _ (List.mem_append_right _ (List.mem_append_right _ (List.mem_append_right _ (List.mem_append_right _ (List.mem_append_right _ (List.mem_append_right _ (List.mem_append_right _ (List.mem_append_right _ (List.mem_append_right _ (List.mem_append_right _ (List.mem_append_right _ (h))))))))))))))))))))))))))))))))))))))
theorem AL_X0 : ∀ w ∈ wsX00, w ∈ ALL := fun _ h => AL_inu _ (List.mem_append_left _ (List.mem_append_left _ (List.mem_append_left _ (List.mem_append_left _ (List.mem_append_left _ (List.mem_append_left _ (List.mem_append_left _ (List.mem_append_left _ (h)))))))))
theorem AL_X1 : ∀ w ∈ wsX10, w ∈ ALL := fun _ h => AL_inu _ (List.mem_append_left _ (List.mem_append_left _ (List.mem_append_left _ (List.mem_append_left _ (List.mem_append_left _ (List.mem_append_left _ (List.mem_append_left _ (List.mem_append_right _ h))))))))
theorem AL_X2 : ∀ w ∈ wsX20, w ∈ ALL := fun _ h => AL_inu _ (List.mem_append_left _ (List.mem_append_left _ (List.mem_append_left _ (List.mem_append_left _ (List.mem_append_left _ (List.mem_append_left _ (List.mem_append_right _ h)))))))
theorem AL_X3 : ∀ w ∈ wsX30, w ∈ ALL := fun _ h => AL_inu _ (List.mem_append_left _ (List.mem_append_left _ (List.mem_append_left _ (List.mem_append_left _ (List.mem_append_left _ (List.mem_append_right _ h))))))
theorem AL_X4 : ∀ w ∈ wsX40, w ∈ ALL := fun _ h => AL_inu _ (List.mem_append_left _ (List.mem_append_left _ (List.mem_append_left _ (List.mem_append_left _ (List.mem_append_right _ h)))))
theorem AL_X5 : ∀ w ∈ wsX50, w ∈ ALL := fun _ h => AL_inu _ (List.mem_append_left _ (List.mem_append_left _ (List.mem_append_left _ (List.mem_append_right _ h))))
theorem AL_X6 : ∀ w ∈ wsX60, w ∈ ALL := fun _ h => AL_inu _ (List.mem_append_left _ (List.mem_append_left _ (List.mem_append_right _ h)))
theorem AL_X7 : ∀ w ∈ wsX70, w ∈ ALL := fun _ h => AL_inu _ (List.mem_append_left _ (List.mem_append_right _ h))
theorem AL_X8 : ∀ w ∈ wsX80, w ∈ ALL := fun _ h => AL_inu _ (List.mem_append_right _ h)
theorem q_0 : (.arrayClass .byte : Cond) ∈ ALL := AL_in0 _ (List.mem_of_getElem? (i := 0) rfl)
theorem q_1 : (.arrayClass .int : Cond) ∈ ALL := AL_in0 _ (List.mem_of_getElem? (i := 1) rfl)
theorem q_2 : (.classLink RX1 9 RX5 : Cond) ∈ ALL := AL_in0 _ (List.mem_of_getElem? (i := 2) rfl)
theorem q_3 : (.classLink RX3 18 RX2 : Cond) ∈ ALL := AL_in0 _ (List.mem_of_getElem? (i := 3) rfl)
theorem q_4 : (.classLink RX3 25 RX5 : Cond) ∈ ALL := AL_in0 _ (List.mem_of_getElem? (i := 4) rfl)
theorem q_5 : (.classLink RX3 9 RX0 : Cond) ∈ ALL := AL_in0 _ (List.mem_of_getElem? (i := 5) rfl)
theorem q_6 : (.classLink RX7 19 RX1 : Cond) ∈ ALL := AL_in0 _ (List.mem_of_getElem? (i := 6) rfl)
theorem q_7 : (.classLink RX7 26 RX4 : Cond) ∈ ALL := AL_in0 _ (List.mem_of_getElem? (i := 7) rfl)
theorem q_8 : (.classLink RX7 33 RX6 : Cond) ∈ ALL := AL_in0 _ (List.mem_of_getElem? (i := 8) rfl)
theorem q_9 : (.classLink RX7 7 RX3 : Cond) ∈ ALL := AL_in0 _ (List.mem_of_getElem? (i := 9) rfl)
theorem q_10 : (.code Lib.Math.abs.name Lib.Math.abs.code 1 (some .int) : Cond) ∈ ALL := AL_in0 _ (List.mem_of_getElem? (i := 10) rfl)
theorem q_11 : (.code Lib.Math.max.name Lib.Math.max.code 2 (some .int) : Cond) ∈ ALL := AL_in0 _ (List.mem_of_getElem? (i := 11) rfl)
theorem q_12 : (.code Lib.Math.min.name Lib.Math.min.code 2 (some .int) : Cond) ∈ ALL := AL_in0 _ (List.mem_of_getElem? (i := 12) rfl)
theorem q_13 : (.code objectInit ⟨#[0xb1]⟩ 1 none : Cond) ∈ ALL := AL_in0 _ (List.mem_of_getElem? (i := 13) rfl)
theorem q_14 : (.code yJ6_bitCount_0f7a4 cJ6_bitCount_0f7a4 1 (some .int) : Cond) ∈ ALL := AL_in0 _ (List.mem_of_getElem? (i := 14) rfl)
theorem q_15 : (.code yJ9_abs_0f7a4 cJ9_abs_0f7a4 1 (some .int) : Cond) ∈ ALL := AL_in0 _ (List.mem_of_getElem? (i := 15) rfl)
theorem q_16 : (.code yJ9_max_7cf53 cJ9_max_7cf53 2 (some .int) : Cond) ∈ ALL := AL_in0 _ (List.mem_of_getElem? (i := 16) rfl)
theorem q_17 : (.code yJ9_min_7cf53 cJ9_min_7cf53 2 (some .int) : Cond) ∈ ALL := AL_in0 _ (List.mem_of_getElem? (i := 17) rfl)
theorem q_18 : (.code yX0_add cX0_add 4 (some .int) : Cond) ∈ ALL := AL_in0 _ (List.mem_of_getElem? (i := 18) rfl)
theorem q_19 : (.code yX0_allWeights cX0_allWeights 3 (some .int) : Cond) ∈ ALL := AL_in0 _ (List.mem_of_getElem? (i := 19) rfl)
theorem q_20 : (.code yX0_byWeight cX0_byWeight 4 (some .int) : Cond) ∈ ALL := AL_in0 _ (List.mem_of_getElem? (i := 20) rfl)
theorem q_21 : (.code yX0_init cX0_init 1 none : Cond) ∈ ALL := AL_in0 _ (List.mem_of_getElem? (i := 21) rfl)
theorem q_22 : (.code yX0_takes cX0_takes 2 none : Cond) ∈ ALL := AL_in0 _ (List.mem_of_getElem? (i := 22) rfl)
theorem q_23 : (.code yX1_begins cX1_begins 4 (some .boolean) : Cond) ∈ ALL := AL_in0 _ (List.mem_of_getElem? (i := 23) rfl)
theorem q_24 : (.code yX1_closes cX1_closes 1 (some .boolean) : Cond) ∈ ALL := AL_in0 _ (List.mem_of_getElem? (i := 24) rfl)
theorem q_25 : (.code yX1_continues cX1_continues 3 (some .boolean) : Cond) ∈ ALL := AL_in1 _ (List.mem_of_getElem? (i := 0) rfl)
theorem q_26 : (.code yX1_faultOf cX1_faultOf 7 (some .int) : Cond) ∈ ALL := AL_in1 _ (List.mem_of_getElem? (i := 1) rfl)
theorem q_27 : (.code yX1_init cX1_init 1 none : Cond) ∈ ALL := AL_in1 _ (List.mem_of_getElem? (i := 2) rfl)
theorem q_28 : (.code yX1_isNumeral cX1_isNumeral 1 (some .boolean) : Cond) ∈ ALL := AL_in1 _ (List.mem_of_getElem? (i := 3) rfl)
theorem q_29 : (.code yX1_lengthens cX1_lengthens 3 (some .boolean) : Cond) ∈ ALL := AL_in1 _ (List.mem_of_getElem? (i := 4) rfl)
theorem q_30 : (.code yX1_park cX1_park 2 none : Cond) ∈ ALL := AL_in1 _ (List.mem_of_getElem? (i := 5) rfl)
theorem q_31 : (.code yX1_rankOf cX1_rankOf 1 (some .int) : Cond) ∈ ALL := AL_in1 _ (List.mem_of_getElem? (i := 6) rfl)
theorem q_32 : (.code yX1_settle cX1_settle 2 none : Cond) ∈ ALL := AL_in1 _ (List.mem_of_getElem? (i := 7) rfl)
theorem q_33 : (.code yX2_add cX2_add 4 (some .int) : Cond) ∈ ALL := AL_in1 _ (List.mem_of_getElem? (i := 8) rfl)
theorem q_34 : (.code yX2_backFrom cX2_backFrom 3 (some .int) : Cond) ∈ ALL := AL_in1 _ (List.mem_of_getElem? (i := 9) rfl)
theorem q_35 : (.code yX2_init cX2_init 1 none : Cond) ∈ ALL := AL_in1 _ (List.mem_of_getElem? (i := 10) rfl)
theorem q_36 : (.code yX2_runFrom cX2_runFrom 3 (some .int) : Cond) ∈ ALL := AL_in1 _ (List.mem_of_getElem? (i := 11) rfl)
theorem q_37 : (.code yX2_takes cX2_takes 2 none : Cond) ∈ ALL := AL_in1 _ (List.mem_of_getElem? (i := 12) rfl)
theorem q_38 : (.code yX3_air cX3_air 2 (some .int) : Cond) ∈ ALL := AL_in1 _ (List.mem_of_getElem? (i := 13) rfl)
theorem q_39 : (.code yX3_airByKind cX3_airByKind 4 (some .int) : Cond) ∈ ALL := AL_in1 _ (List.mem_of_getElem? (i := 14) rfl)
theorem q_40 : (.code yX3_change cX3_change 4 (some .int) : Cond) ∈ ALL := AL_in1 _ (List.mem_of_getElem? (i := 15) rfl)
theorem q_41 : (.code yX3_costs cX3_costs 2 (some .int) : Cond) ∈ ALL := AL_in1 _ (List.mem_of_getElem? (i := 16) rfl)
theorem q_42 : (.code yX3_draw cX3_draw 1 (some .int) : Cond) ∈ ALL := AL_in1 _ (List.mem_of_getElem? (i := 17) rfl)
theorem q_43 : (.code yX3_gainFrom cX3_gainFrom 4 (some .int) : Cond) ∈ ALL := AL_in1 _ (List.mem_of_getElem? (i := 18) rfl)
theorem q_44 : (.code yX3_gainOf cX3_gainOf 2 (some .int) : Cond) ∈ ALL := AL_in1 _ (List.mem_of_getElem? (i := 19) rfl)
theorem q_45 : (.code yX3_gives cX3_gives 6 (some .int) : Cond) ∈ ALL := AL_in1 _ (List.mem_of_getElem? (i := 20) rfl)
theorem q_46 : (.code yX3_goes cX3_goes 4 (some .boolean) : Cond) ∈ ALL := AL_in1 _ (List.mem_of_getElem? (i := 21) rfl)
theorem q_47 : (.code yX3_held cX3_held 3 (some .int) : Cond) ∈ ALL := AL_in1 _ (List.mem_of_getElem? (i := 22) rfl)
theorem q_48 : (.code yX3_init cX3_init 1 none : Cond) ∈ ALL := AL_in1 _ (List.mem_of_getElem? (i := 23) rfl)
theorem q_49 : (.code yX3_isOut cX3_isOut 2 none : Cond) ∈ ALL := AL_in1 _ (List.mem_of_getElem? (i := 24) rfl)
theorem q_50 : (.code yX3_isPicked cX3_isPicked 3 (some .boolean) : Cond) ∈ ALL := AL_in2 _ (List.mem_of_getElem? (i := 0) rfl)
theorem q_51 : (.code yX3_isSafeByDraws cX3_isSafeByDraws 4 (some .boolean) : Cond) ∈ ALL := AL_in2 _ (List.mem_of_getElem? (i := 1) rfl)
theorem q_52 : (.code yX3_marginFrom cX3_marginFrom 4 (some .int) : Cond) ∈ ALL := AL_in2 _ (List.mem_of_getElem? (i := 2) rfl)
theorem q_53 : (.code yX3_oneMore cX3_oneMore 1 (some .int) : Cond) ∈ ALL := AL_in2 _ (List.mem_of_getElem? (i := 3) rfl)
theorem q_54 : (.code yX3_safePitches cX3_safePitches 5 (some .int) : Cond) ∈ ALL := AL_in2 _ (List.mem_of_getElem? (i := 4) rfl)
theorem q_55 : (.code yX3_safeWeights cX3_safeWeights 5 (some .int) : Cond) ∈ ALL := AL_in2 _ (List.mem_of_getElem? (i := 5) rfl)
theorem q_56 : (.code yX3_takes cX3_takes 2 none : Cond) ∈ ALL := AL_in2 _ (List.mem_of_getElem? (i := 6) rfl)
theorem q_57 : (.code yX3_textOf cX3_textOf 2 (some (.object "OffForSecond$Text")) : Cond) ∈ ALL := AL_in2 _ (List.mem_of_getElem? (i := 7) rfl)
theorem q_58 : (.code yX3_weighedGains cX3_weighedGains 5 (some .int) : Cond) ∈ ALL := AL_in2 _ (List.mem_of_getElem? (i := 8) rfl)
theorem q_59 : (.code yX4_copy cX4_copy 6 none : Cond) ∈ ALL := AL_in2 _ (List.mem_of_getElem? (i := 9) rfl)
theorem q_60 : (.code yX4_init cX4_init 1 none : Cond) ∈ ALL := AL_in2 _ (List.mem_of_getElem? (i := 10) rfl)
theorem q_61 : (.code yX4_isMissing cX4_isMissing 2 (some .boolean) : Cond) ∈ ALL := AL_in2 _ (List.mem_of_getElem? (i := 11) rfl)
theorem q_62 : (.code yX4_lay cX4_lay 5 none : Cond) ∈ ALL := AL_in2 _ (List.mem_of_getElem? (i := 12) rfl)
theorem q_63 : (.code yX4_read cX4_read 3 (some .int) : Cond) ∈ ALL := AL_in2 _ (List.mem_of_getElem? (i := 13) rfl)
theorem q_64 : (.code yX4_standsAt cX4_standsAt 4 (some .boolean) : Cond) ∈ ALL := AL_in2 _ (List.mem_of_getElem? (i := 14) rfl)
theorem q_65 : (.code yX4_write cX4_write 5 none : Cond) ∈ ALL := AL_in2 _ (List.mem_of_getElem? (i := 15) rfl)
theorem q_66 : (.code yX5_add cX5_add 2 none : Cond) ∈ ALL := AL_in2 _ (List.mem_of_getElem? (i := 16) rfl)
theorem q_67 : (.code yX5_init cX5_init 1 none : Cond) ∈ ALL := AL_in2 _ (List.mem_of_getElem? (i := 17) rfl)
theorem q_68 : (.code yX5_joined cX5_joined 3 (some .int) : Cond) ∈ ALL := AL_in2 _ (List.mem_of_getElem? (i := 18) rfl)
theorem q_69 : (.code yX5_named cX5_named 4 (some .int) : Cond) ∈ ALL := AL_in2 _ (List.mem_of_getElem? (i := 19) rfl)
theorem q_70 : (.code yX5_takes cX5_takes 2 none : Cond) ∈ ALL := AL_in2 _ (List.mem_of_getElem? (i := 20) rfl)
theorem q_71 : (.code yX5_work cX5_work 7 (some .int) : Cond) ∈ ALL := AL_in2 _ (List.mem_of_getElem? (i := 21) rfl)
theorem q_72 : (.code yX6_begin cX6_begin 2 none : Cond) ∈ ALL := AL_in2 _ (List.mem_of_getElem? (i := 22) rfl)
theorem q_73 : (.code yX6_bodyOf cX6_bodyOf 5 (some .int) : Cond) ∈ ALL := AL_in2 _ (List.mem_of_getElem? (i := 23) rfl)
theorem q_74 : (.code yX6_init cX6_init 1 none : Cond) ∈ ALL := AL_in2 _ (List.mem_of_getElem? (i := 24) rfl)
theorem q_75 : (.code yX6_parts cX6_parts 3 (some .int) : Cond) ∈ ALL := AL_in3 _ (List.mem_of_getElem? (i := 0) rfl)
theorem q_76 : (.code yX6_partsOfCurve cX6_partsOfCurve 4 (some .int) : Cond) ∈ ALL := AL_in3 _ (List.mem_of_getElem? (i := 1) rfl)
theorem q_77 : (.code yX6_say cX6_say 7 (some .int) : Cond) ∈ ALL := AL_in3 _ (List.mem_of_getElem? (i := 2) rfl)
theorem q_78 : (.code yX6_speak cX6_speak 6 (some .int) : Cond) ∈ ALL := AL_in3 _ (List.mem_of_getElem? (i := 3) rfl)
theorem q_79 : (.code yX7_as cX7_as 3 (some .int) : Cond) ∈ ALL := AL_in3 _ (List.mem_of_getElem? (i := 4) rfl)
theorem q_80 : (.code yX7_become cX7_become 4 (some .int) : Cond) ∈ ALL := AL_in3 _ (List.mem_of_getElem? (i := 5) rfl)
theorem q_81 : (.code yX7_bestLead cX7_bestLead 7 (some .int) : Cond) ∈ ALL := AL_in3 _ (List.mem_of_getElem? (i := 6) rfl)
theorem q_82 : (.code yX7_body cX7_body 2 (some .int) : Cond) ∈ ALL := AL_in3 _ (List.mem_of_getElem? (i := 7) rfl)
theorem q_83 : (.code yX7_check cX7_check 3 (some .int) : Cond) ∈ ALL := AL_in3 _ (List.mem_of_getElem? (i := 8) rfl)
theorem q_84 : (.code yX7_commonOf cX7_commonOf 6 (some .int) : Cond) ∈ ALL := AL_in3 _ (List.mem_of_getElem? (i := 9) rfl)
theorem q_85 : (.code yX7_count cX7_count 2 (some .int) : Cond) ∈ ALL := AL_in3 _ (List.mem_of_getElem? (i := 10) rfl)
theorem q_86 : (.code yX7_duel cX7_duel 12 (some .int) : Cond) ∈ ALL := AL_in3 _ (List.mem_of_getElem? (i := 11) rfl)
theorem q_87 : (.code yX7_error cX7_error 2 (some .int) : Cond) ∈ ALL := AL_in3 _ (List.mem_of_getElem? (i := 12) rfl)
theorem q_88 : (.code yX7_feed cX7_feed 5 (some .int) : Cond) ∈ ALL := AL_in3 _ (List.mem_of_getElem? (i := 13) rfl)
theorem q_89 : (.code yX7_fits cX7_fits 7 (some .int) : Cond) ∈ ALL := AL_in3 _ (List.mem_of_getElem? (i := 14) rfl)
theorem q_90 : (.code yX7_fitsFrom cX7_fitsFrom 7 (some .boolean) : Cond) ∈ ALL := AL_in3 _ (List.mem_of_getElem? (i := 15) rfl)
theorem q_91 : (.code yX7_go cX7_go 4 (some .int) : Cond) ∈ ALL := AL_in3 _ (List.mem_of_getElem? (i := 16) rfl)
theorem q_92 : (.code yX7_image cX7_image 1 (some .int) : Cond) ∈ ALL := AL_in3 _ (List.mem_of_getElem? (i := 17) rfl)
theorem q_93 : (.code yX7_init cX7_init 1 none : Cond) ∈ ALL := AL_in3 _ (List.mem_of_getElem? (i := 18) rfl)
theorem q_94 : (.code yX7_isDigit cX7_isDigit 1 (some .boolean) : Cond) ∈ ALL := AL_in3 _ (List.mem_of_getElem? (i := 19) rfl)
theorem q_95 : (.code yX7_isFeet cX7_isFeet 1 (some .boolean) : Cond) ∈ ALL := AL_in3 _ (List.mem_of_getElem? (i := 20) rfl)
theorem q_96 : (.code yX7_isKindAndM cX7_isKindAndM 1 (some .boolean) : Cond) ∈ ALL := AL_in3 _ (List.mem_of_getElem? (i := 21) rfl)
theorem q_97 : (.code yX7_isPitch cX7_isPitch 2 (some .boolean) : Cond) ∈ ALL := AL_in3 _ (List.mem_of_getElem? (i := 22) rfl)
theorem q_98 : (.code yX7_isRunner cX7_isRunner 2 (some .boolean) : Cond) ∈ ALL := AL_in3 _ (List.mem_of_getElem? (i := 23) rfl)
theorem q_99 : (.code yX7_isSheet cX7_isSheet 1 (some .boolean) : Cond) ∈ ALL := AL_in3 _ (List.mem_of_getElem? (i := 24) rfl)
theorem q_100 : (.code yX7_isUnder cX7_isUnder 4 (some .boolean) : Cond) ∈ ALL := AL_in4 _ (List.mem_of_getElem? (i := 0) rfl)
theorem q_101 : (.code yX7_isUse cX7_isUse 1 (some .boolean) : Cond) ∈ ALL := AL_in4 _ (List.mem_of_getElem? (i := 1) rfl)
theorem q_102 : (.code yX7_judge cX7_judge 4 (some .int) : Cond) ∈ ALL := AL_in4 _ (List.mem_of_getElem? (i := 2) rfl)
theorem q_103 : (.code yX7_law cX7_law 5 (some .int) : Cond) ∈ ALL := AL_in4 _ (List.mem_of_getElem? (i := 3) rfl)
theorem q_104 : (.code yX7_leadFor cX7_leadFor 4 (some .int) : Cond) ∈ ALL := AL_in4 _ (List.mem_of_getElem? (i := 4) rfl)
theorem q_105 : (.code yX7_leads cX7_leads 4 (some .int) : Cond) ∈ ALL := AL_in4 _ (List.mem_of_getElem? (i := 5) rfl)
theorem q_106 : (.code yX7_loose cX7_loose 4 (some .int) : Cond) ∈ ALL := AL_in4 _ (List.mem_of_getElem? (i := 6) rfl)
theorem q_107 : (.code yX7_margin cX7_margin 4 (some .int) : Cond) ∈ ALL := AL_in4 _ (List.mem_of_getElem? (i := 7) rfl)
theorem q_108 : (.code yX7_mostOfSetting cX7_mostOfSetting 1 (some .int) : Cond) ∈ ALL := AL_in4 _ (List.mem_of_getElem? (i := 8) rfl)
theorem q_109 : (.code yX7_move cX7_move 6 (some .int) : Cond) ∈ ALL := AL_in4 _ (List.mem_of_getElem? (i := 9) rfl)
theorem q_110 : (.code yX7_odds cX7_odds 4 (some .int) : Cond) ∈ ALL := AL_in4 _ (List.mem_of_getElem? (i := 10) rfl)
theorem q_111 : (.code yX7_over cX7_over 2 (some .int) : Cond) ∈ ALL := AL_in4 _ (List.mem_of_getElem? (i := 11) rfl)
theorem q_112 : (.code yX7_partOf cX7_partOf 4 (some .int) : Cond) ∈ ALL := AL_in4 _ (List.mem_of_getElem? (i := 12) rfl)
theorem q_113 : (.code yX7_pitch cX7_pitch 3 (some .int) : Cond) ∈ ALL := AL_in4 _ (List.mem_of_getElem? (i := 13) rfl)
theorem q_114 : (.code yX7_pitchIs cX7_pitchIs 3 (some .int) : Cond) ∈ ALL := AL_in4 _ (List.mem_of_getElem? (i := 14) rfl)
theorem q_115 : (.code yX7_put cX7_put 4 (some .int) : Cond) ∈ ALL := AL_in4 _ (List.mem_of_getElem? (i := 15) rfl)
theorem q_116 : (.code yX7_restore cX7_restore 1 (some .int) : Cond) ∈ ALL := AL_in4 _ (List.mem_of_getElem? (i := 16) rfl)
theorem q_117 : (.code yX7_runner cX7_runner 3 (some .int) : Cond) ∈ ALL := AL_in4 _ (List.mem_of_getElem? (i := 17) rfl)
theorem q_118 : (.code yX7_runnerIs cX7_runnerIs 4 (some .int) : Cond) ∈ ALL := AL_in4 _ (List.mem_of_getElem? (i := 18) rfl)
theorem q_119 : (.code yX7_seed cX7_seed 3 (some .int) : Cond) ∈ ALL := AL_in4 _ (List.mem_of_getElem? (i := 19) rfl)
theorem q_120 : (.code yX7_set cX7_set 3 (some .int) : Cond) ∈ ALL := AL_in4 _ (List.mem_of_getElem? (i := 20) rfl)
theorem q_121 : (.code yX7_sheet cX7_sheet 4 (some .int) : Cond) ∈ ALL := AL_in4 _ (List.mem_of_getElem? (i := 21) rfl)
theorem q_122 : (.code yX7_steal cX7_steal 3 (some .int) : Cond) ∈ ALL := AL_in4 _ (List.mem_of_getElem? (i := 22) rfl)
theorem q_123 : (.code yX7_surely cX7_surely 4 (some .int) : Cond) ∈ ALL := AL_in4 _ (List.mem_of_getElem? (i := 23) rfl)
theorem q_124 : (.code yX7_tell cX7_tell 2 (some .int) : Cond) ∈ ALL := AL_in4 _ (List.mem_of_getElem? (i := 24) rfl)
theorem q_125 : (.code yX7_text cX7_text 3 (some .int) : Cond) ∈ ALL := AL_in5 _ (List.mem_of_getElem? (i := 0) rfl)
theorem q_126 : (.code yX7_told cX7_told 2 (some .int) : Cond) ∈ ALL := AL_in5 _ (List.mem_of_getElem? (i := 1) rfl)
theorem q_127 : (.code yX7_untell cX7_untell 4 (some .int) : Cond) ∈ ALL := AL_in5 _ (List.mem_of_getElem? (i := 2) rfl)
theorem q_128 : (.code yX7_voice cX7_voice 5 (some .int) : Cond) ∈ ALL := AL_in5 _ (List.mem_of_getElem? (i := 3) rfl)
theorem q_129 : (.code yX7_weighs cX7_weighs 4 (some .int) : Cond) ∈ ALL := AL_in5 _ (List.mem_of_getElem? (i := 4) rfl)
theorem q_130 : (.code yX7_weightsBy cX7_weightsBy 5 (some .int) : Cond) ∈ ALL := AL_in5 _ (List.mem_of_getElem? (i := 5) rfl)
theorem q_131 : (.code yX7_within cX7_within 3 (some .boolean) : Cond) ∈ ALL := AL_in5 _ (List.mem_of_getElem? (i := 6) rfl)
theorem q_132 : (.code yX8_about cX8_about 3 (some .int) : Cond) ∈ ALL := AL_in5 _ (List.mem_of_getElem? (i := 7) rfl)
theorem q_133 : (.code yX8_airOf cX8_airOf 2 (some .int) : Cond) ∈ ALL := AL_in5 _ (List.mem_of_getElem? (i := 8) rfl)
theorem q_134 : (.code yX8_all cX8_all 1 none : Cond) ∈ ALL := AL_in5 _ (List.mem_of_getElem? (i := 9) rfl)
theorem q_135 : (.code yX8_any cX8_any 1 none : Cond) ∈ ALL := AL_in5 _ (List.mem_of_getElem? (i := 10) rfl)
theorem q_136 : (.code yX8_as cX8_as 5 (some .int) : Cond) ∈ ALL := AL_in5 _ (List.mem_of_getElem? (i := 11) rfl)
theorem q_137 : (.code yX8_become cX8_become 3 (some .int) : Cond) ∈ ALL := AL_in5 _ (List.mem_of_getElem? (i := 12) rfl)
theorem q_138 : (.code yX8_becomes cX8_becomes 4 (some .int) : Cond) ∈ ALL := AL_in5 _ (List.mem_of_getElem? (i := 13) rfl)
theorem q_139 : (.code yX8_begins cX8_begins 2 none : Cond) ∈ ALL := AL_in5 _ (List.mem_of_getElem? (i := 14) rfl)
theorem q_140 : (.code yX8_bestLead cX8_bestLead 8 (some .int) : Cond) ∈ ALL := AL_in5 _ (List.mem_of_getElem? (i := 15) rfl)
theorem q_141 : (.code yX8_body cX8_body 2 (some .int) : Cond) ∈ ALL := AL_in5 _ (List.mem_of_getElem? (i := 16) rfl)
theorem q_142 : (.code yX8_check cX8_check 3 (some .int) : Cond) ∈ ALL := AL_in5 _ (List.mem_of_getElem? (i := 17) rfl)
theorem q_143 : (.code yX8_compares cX8_compares 2 none : Cond) ∈ ALL := AL_in5 _ (List.mem_of_getElem? (i := 18) rfl)
theorem q_144 : (.code yX8_copyAll cX8_copyAll 3 none : Cond) ∈ ALL := AL_in5 _ (List.mem_of_getElem? (i := 19) rfl)
theorem q_145 : (.code yX8_costsOf cX8_costsOf 2 (some .int) : Cond) ∈ ALL := AL_in5 _ (List.mem_of_getElem? (i := 20) rfl)
theorem q_146 : (.code yX8_count cX8_count 2 (some .int) : Cond) ∈ ALL := AL_in5 _ (List.mem_of_getElem? (i := 21) rfl)
theorem q_147 : (.code yX8_curveHisses cX8_curveHisses 3 (some .int) : Cond) ∈ ALL := AL_in5 _ (List.mem_of_getElem? (i := 22) rfl)
theorem q_148 : (.code yX8_draw cX8_draw 1 (some .int) : Cond) ∈ ALL := AL_in5 _ (List.mem_of_getElem? (i := 23) rfl)
theorem q_149 : (.code yX8_drawn cX8_drawn 6 (some .boolean) : Cond) ∈ ALL := AL_in5 _ (List.mem_of_getElem? (i := 24) rfl)
theorem q_150 : (.code yX8_drops cX8_drops 3 (some .int) : Cond) ∈ ALL := AL_in6 _ (List.mem_of_getElem? (i := 0) rfl)
theorem q_151 : (.code yX8_duel cX8_duel 11 (some .int) : Cond) ∈ ALL := AL_in6 _ (List.mem_of_getElem? (i := 1) rfl)
theorem q_152 : (.code yX8_error cX8_error 2 (some .int) : Cond) ∈ ALL := AL_in6 _ (List.mem_of_getElem? (i := 2) rfl)
theorem q_153 : (.code yX8_feed cX8_feed 5 (some .int) : Cond) ∈ ALL := AL_in6 _ (List.mem_of_getElem? (i := 3) rfl)
theorem q_154 : (.code yX8_fits cX8_fits 8 (some .int) : Cond) ∈ ALL := AL_in6 _ (List.mem_of_getElem? (i := 4) rfl)
theorem q_155 : (.code yX8_gainOf cX8_gainOf 5 (some .int) : Cond) ∈ ALL := AL_in6 _ (List.mem_of_getElem? (i := 5) rfl)
theorem q_156 : (.code yX8_gainsFrom cX8_gainsFrom 5 (some .int) : Cond) ∈ ALL := AL_in6 _ (List.mem_of_getElem? (i := 6) rfl)
theorem q_157 : (.code yX8_gives cX8_gives 7 (some .int) : Cond) ∈ ALL := AL_in6 _ (List.mem_of_getElem? (i := 7) rfl)
theorem q_158 : (.code yX8_go cX8_go 4 (some .int) : Cond) ∈ ALL := AL_in6 _ (List.mem_of_getElem? (i := 8) rfl)
theorem q_159 : (.code yX8_goes cX8_goes 5 (some .boolean) : Cond) ∈ ALL := AL_in6 _ (List.mem_of_getElem? (i := 9) rfl)
theorem q_160 : (.code yX8_greater cX8_greater 2 (some .int) : Cond) ∈ ALL := AL_in6 _ (List.mem_of_getElem? (i := 10) rfl)
theorem q_161 : (.code yX8_hardDrops cX8_hardDrops 3 (some .int) : Cond) ∈ ALL := AL_in6 _ (List.mem_of_getElem? (i := 11) rfl)
theorem q_162 : (.code yX8_held cX8_held 3 (some .int) : Cond) ∈ ALL := AL_in6 _ (List.mem_of_getElem? (i := 12) rfl)
theorem q_163 : (.code yX8_hisses cX8_hisses 3 (some .int) : Cond) ∈ ALL := AL_in6 _ (List.mem_of_getElem? (i := 13) rfl)
theorem q_164 : (.code yX8_image cX8_image 1 (some .int) : Cond) ∈ ALL := AL_in6 _ (List.mem_of_getElem? (i := 14) rfl)
theorem q_165 : (.code yX8_in cX8_in 3 (some .boolean) : Cond) ∈ ALL := AL_in6 _ (List.mem_of_getElem? (i := 15) rfl)
theorem q_166 : (.code yX8_init cX8_init 1 none : Cond) ∈ ALL := AL_in6 _ (List.mem_of_getElem? (i := 16) rfl)
theorem q_167 : (.code yX8_isKm cX8_isKm 1 (some .boolean) : Cond) ∈ ALL := AL_in6 _ (List.mem_of_getElem? (i := 17) rfl)
theorem q_168 : (.code yX8_isLead cX8_isLead 1 (some .boolean) : Cond) ∈ ALL := AL_in6 _ (List.mem_of_getElem? (i := 18) rfl)
theorem q_169 : (.code yX8_isOut cX8_isOut 2 none : Cond) ∈ ALL := AL_in6 _ (List.mem_of_getElem? (i := 19) rfl)
theorem q_170 : (.code yX8_isPickedAt cX8_isPickedAt 3 (some .boolean) : Cond) ∈ ALL := AL_in6 _ (List.mem_of_getElem? (i := 20) rfl)
theorem q_171 : (.code yX8_isPitch cX8_isPitch 2 (some .boolean) : Cond) ∈ ALL := AL_in6 _ (List.mem_of_getElem? (i := 21) rfl)
theorem q_172 : (.code yX8_isRunner cX8_isRunner 2 (some .boolean) : Cond) ∈ ALL := AL_in6 _ (List.mem_of_getElem? (i := 22) rfl)
theorem q_173 : (.code yX8_isSafe cX8_isSafe 4 (some .boolean) : Cond) ∈ ALL := AL_in6 _ (List.mem_of_getElem? (i := 23) rfl)
theorem q_174 : (.code yX8_isSheet cX8_isSheet 1 (some .boolean) : Cond) ∈ ALL := AL_in6 _ (List.mem_of_getElem? (i := 24) rfl)
theorem q_175 : (.code yX8_isSo cX8_isSo 6 (some .boolean) : Cond) ∈ ALL := AL_in7 _ (List.mem_of_getElem? (i := 0) rfl)
theorem q_176 : (.code yX8_judge cX8_judge 4 (some .int) : Cond) ∈ ALL := AL_in7 _ (List.mem_of_getElem? (i := 1) rfl)
theorem q_177 : (.code yX8_law cX8_law 5 (some .int) : Cond) ∈ ALL := AL_in7 _ (List.mem_of_getElem? (i := 2) rfl)
theorem q_178 : (.code yX8_lays cX8_lays 3 none : Cond) ∈ ALL := AL_in7 _ (List.mem_of_getElem? (i := 3) rfl)
theorem q_179 : (.code yX8_leadFor cX8_leadFor 4 (some .int) : Cond) ∈ ALL := AL_in7 _ (List.mem_of_getElem? (i := 4) rfl)
theorem q_180 : (.code yX8_leads cX8_leads 3 (some .int) : Cond) ∈ ALL := AL_in7 _ (List.mem_of_getElem? (i := 5) rfl)
theorem q_181 : (.code yX8_lesser cX8_lesser 2 (some .int) : Cond) ∈ ALL := AL_in7 _ (List.mem_of_getElem? (i := 6) rfl)
theorem q_182 : (.code yX8_lets cX8_lets 4 none : Cond) ∈ ALL := AL_in7 _ (List.mem_of_getElem? (i := 7) rfl)
theorem q_183 : (.code yX8_look cX8_look 1 (some .int) : Cond) ∈ ALL := AL_in7 _ (List.mem_of_getElem? (i := 8) rfl)
theorem q_184 : (.code yX8_loose cX8_loose 4 (some .int) : Cond) ∈ ALL := AL_in7 _ (List.mem_of_getElem? (i := 9) rfl)
theorem q_185 : (.code yX8_margin cX8_margin 4 (some .int) : Cond) ∈ ALL := AL_in7 _ (List.mem_of_getElem? (i := 10) rfl)
theorem q_186 : (.code yX8_marginOf cX8_marginOf 4 (some .int) : Cond) ∈ ALL := AL_in7 _ (List.mem_of_getElem? (i := 11) rfl)
theorem q_187 : (.code yX8_more cX8_more 2 none : Cond) ∈ ALL := AL_in7 _ (List.mem_of_getElem? (i := 12) rfl)
theorem q_188 : (.code yX8_move cX8_move 9 (some .int) : Cond) ∈ ALL := AL_in7 _ (List.mem_of_getElem? (i := 13) rfl)
theorem q_189 : (.code yX8_nameOf cX8_nameOf 2 (some .int) : Cond) ∈ ALL := AL_in7 _ (List.mem_of_getElem? (i := 14) rfl)
theorem q_190 : (.code yX8_notMoved cX8_notMoved 7 (some .int) : Cond) ∈ ALL := AL_in7 _ (List.mem_of_getElem? (i := 15) rfl)
theorem q_191 : (.code yX8_notThere cX8_notThere 2 (some .int) : Cond) ∈ ALL := AL_in7 _ (List.mem_of_getElem? (i := 16) rfl)
theorem q_192 : (.code yX8_number cX8_number 3 none : Cond) ∈ ALL := AL_in7 _ (List.mem_of_getElem? (i := 17) rfl)
theorem q_193 : (.code yX8_odds cX8_odds 6 (some .int) : Cond) ∈ ALL := AL_in7 _ (List.mem_of_getElem? (i := 18) rfl)
theorem q_194 : (.code yX8_of cX8_of 3 (some .int) : Cond) ∈ ALL := AL_in7 _ (List.mem_of_getElem? (i := 19) rfl)
theorem q_195 : (.code yX8_one cX8_one 3 none : Cond) ∈ ALL := AL_in7 _ (List.mem_of_getElem? (i := 20) rfl)
theorem q_196 : (.code yX8_opens cX8_opens 2 none : Cond) ∈ ALL := AL_in7 _ (List.mem_of_getElem? (i := 21) rfl)
theorem q_197 : (.code yX8_over cX8_over 3 (some .int) : Cond) ∈ ALL := AL_in7 _ (List.mem_of_getElem? (i := 22) rfl)
theorem q_198 : (.code yX8_partOf cX8_partOf 6 (some .int) : Cond) ∈ ALL := AL_in7 _ (List.mem_of_getElem? (i := 23) rfl)
theorem q_199 : (.code yX8_partsBy cX8_partsBy 4 (some .int) : Cond) ∈ ALL := AL_in7 _ (List.mem_of_getElem? (i := 24) rfl)
theorem q_200 : (.code yX8_pitch cX8_pitch 4 (some .int) : Cond) ∈ ALL := AL_in8 _ (List.mem_of_getElem? (i := 0) rfl)
theorem q_201 : (.code yX8_pitchIs cX8_pitchIs 3 (some .int) : Cond) ∈ ALL := AL_in8 _ (List.mem_of_getElem? (i := 1) rfl)
theorem q_202 : (.code yX8_plainAir cX8_plainAir 4 (some .int) : Cond) ∈ ALL := AL_in8 _ (List.mem_of_getElem? (i := 2) rfl)
theorem q_203 : (.code yX8_plainDrops cX8_plainDrops 3 (some .int) : Cond) ∈ ALL := AL_in8 _ (List.mem_of_getElem? (i := 3) rfl)
theorem q_204 : (.code yX8_plainHisses cX8_plainHisses 3 (some .int) : Cond) ∈ ALL := AL_in8 _ (List.mem_of_getElem? (i := 4) rfl)
theorem q_205 : (.code yX8_plainParts cX8_plainParts 4 (some .int) : Cond) ∈ ALL := AL_in8 _ (List.mem_of_getElem? (i := 5) rfl)
theorem q_206 : (.code yX8_plainThuds cX8_plainThuds 3 (some .int) : Cond) ∈ ALL := AL_in8 _ (List.mem_of_getElem? (i := 6) rfl)
theorem q_207 : (.code yX8_put cX8_put 5 (some .int) : Cond) ∈ ALL := AL_in8 _ (List.mem_of_getElem? (i := 7) rfl)
theorem q_208 : (.code yX8_restore cX8_restore 1 (some .int) : Cond) ∈ ALL := AL_in8 _ (List.mem_of_getElem? (i := 8) rfl)
theorem q_209 : (.code yX8_runFrom cX8_runFrom 3 (some .int) : Cond) ∈ ALL := AL_in8 _ (List.mem_of_getElem? (i := 9) rfl)
theorem q_210 : (.code yX8_runner cX8_runner 4 (some .int) : Cond) ∈ ALL := AL_in8 _ (List.mem_of_getElem? (i := 10) rfl)
theorem q_211 : (.code yX8_runnerIs cX8_runnerIs 4 (some .int) : Cond) ∈ ALL := AL_in8 _ (List.mem_of_getElem? (i := 11) rfl)
theorem q_212 : (.code yX8_seed cX8_seed 2 (some .int) : Cond) ∈ ALL := AL_in8 _ (List.mem_of_getElem? (i := 12) rfl)
theorem q_213 : (.code yX8_set cX8_set 4 (some .int) : Cond) ∈ ALL := AL_in8 _ (List.mem_of_getElem? (i := 13) rfl)
theorem q_214 : (.code yX8_sheet cX8_sheet 5 (some .int) : Cond) ∈ ALL := AL_in8 _ (List.mem_of_getElem? (i := 14) rfl)
theorem q_215 : (.code yX8_steal cX8_steal 3 (some .int) : Cond) ∈ ALL := AL_in8 _ (List.mem_of_getElem? (i := 15) rfl)
theorem q_216 : (.code yX8_sum cX8_sum 2 none : Cond) ∈ ALL := AL_in8 _ (List.mem_of_getElem? (i := 16) rfl)
theorem q_217 : (.code yX8_surely cX8_surely 7 (some .int) : Cond) ∈ ALL := AL_in8 _ (List.mem_of_getElem? (i := 17) rfl)
theorem q_218 : (.code yX8_tell cX8_tell 2 (some .int) : Cond) ∈ ALL := AL_in8 _ (List.mem_of_getElem? (i := 18) rfl)
theorem q_219 : (.code yX8_text cX8_text 4 (some .int) : Cond) ∈ ALL := AL_in8 _ (List.mem_of_getElem? (i := 19) rfl)
theorem q_220 : (.code yX8_thuds cX8_thuds 3 (some .int) : Cond) ∈ ALL := AL_in8 _ (List.mem_of_getElem? (i := 20) rfl)
theorem q_221 : (.code yX8_times cX8_times 2 none : Cond) ∈ ALL := AL_in8 _ (List.mem_of_getElem? (i := 21) rfl)
theorem q_222 : (.code yX8_told cX8_told 2 (some .int) : Cond) ∈ ALL := AL_in8 _ (List.mem_of_getElem? (i := 22) rfl)
theorem q_223 : (.code yX8_twoOf cX8_twoOf 3 (some .int) : Cond) ∈ ALL := AL_in8 _ (List.mem_of_getElem? (i := 23) rfl)
theorem q_224 : (.code yX8_untell cX8_untell 2 (some .int) : Cond) ∈ ALL := AL_in8 _ (List.mem_of_getElem? (i := 24) rfl)
theorem q_225 : (.code yX8_voice cX8_voice 5 (some .int) : Cond) ∈ ALL := AL_in9 _ (List.mem_of_getElem? (i := 0) rfl)
theorem q_226 : (.code yX8_weighs cX8_weighs 3 (some .int) : Cond) ∈ ALL := AL_in9 _ (List.mem_of_getElem? (i := 1) rfl)
theorem q_227 : (.code yX8_weights cX8_weights 3 (some .int) : Cond) ∈ ALL := AL_in9 _ (List.mem_of_getElem? (i := 2) rfl)
theorem q_228 : (.code yX8_weightsBy cX8_weightsBy 4 (some .int) : Cond) ∈ ALL := AL_in9 _ (List.mem_of_getElem? (i := 3) rfl)
theorem q_229 : (.code yX8_works cX8_works 5 (some .int) : Cond) ∈ ALL := AL_in9 _ (List.mem_of_getElem? (i := 4) rfl)
theorem q_230 : (.constant RJ6 265 (1431655765) : Cond) ∈ ALL := AL_in9 _ (List.mem_of_getElem? (i := 5) rfl)
theorem q_231 : (.constant RJ6 266 (858993459) : Cond) ∈ ALL := AL_in9 _ (List.mem_of_getElem? (i := 6) rfl)
theorem q_232 : (.constant RJ6 267 (252645135) : Cond) ∈ ALL := AL_in9 _ (List.mem_of_getElem? (i := 7) rfl)
theorem q_233 : (.constant RX3 156 (1103515245) : Cond) ∈ ALL := AL_in9 _ (List.mem_of_getElem? (i := 8) rfl)
theorem q_234 : (.constant RX4 21 (65535) : Cond) ∈ ALL := AL_in9 _ (List.mem_of_getElem? (i := 9) rfl)
theorem q_235 : (.constant RX7 299 (-1000000000) : Cond) ∈ ALL := AL_in9 _ (List.mem_of_getElem? (i := 10) rfl)
theorem q_236 : (.constant RX8 185 (-1000000002) : Cond) ∈ ALL := AL_in9 _ (List.mem_of_getElem? (i := 11) rfl)
theorem q_237 : (.constant RX8 192 (-1000000003) : Cond) ∈ ALL := AL_in9 _ (List.mem_of_getElem? (i := 12) rfl)
theorem q_238 : (.constant RX8 208 (1103515245) : Cond) ∈ ALL := AL_in9 _ (List.mem_of_getElem? (i := 13) rfl)
theorem q_239 : (.constant RX8 255 (-1000000006) : Cond) ∈ ALL := AL_in9 _ (List.mem_of_getElem? (i := 14) rfl)
theorem q_240 : (.constant RX8 43 (-1000000000) : Cond) ∈ ALL := AL_in9 _ (List.mem_of_getElem? (i := 15) rfl)
theorem q_241 : (.constant RX8 77 (-1000000001) : Cond) ∈ ALL := AL_in9 _ (List.mem_of_getElem? (i := 16) rfl)
theorem q_242 : (.constant RX8 81 (-1000000004) : Cond) ∈ ALL := AL_in9 _ (List.mem_of_getElem? (i := 17) rfl)
theorem q_243 : (.constant RX8 91 (-1000000005) : Cond) ∈ ALL := AL_in9 _ (List.mem_of_getElem? (i := 18) rfl)
theorem q_244 : (.constantLong RX8 125 (255) : Cond) ∈ ALL := AL_in9 _ (List.mem_of_getElem? (i := 19) rfl)
theorem q_245 : (.fieldLink RX0 15 "OffForSecond$Pitches" "m" "[I" : Cond) ∈ ALL := AL_in9 _ (List.mem_of_getElem? (i := 20) rfl)
theorem q_246 : (.fieldLink RX0 18 "OffForSecond$Pitches" "weight" "[I" : Cond) ∈ ALL := AL_in9 _ (List.mem_of_getElem? (i := 21) rfl)
theorem q_247 : (.fieldLink RX0 21 "OffForSecond$Pitches" "thrown" "[I" : Cond) ∈ ALL := AL_in9 _ (List.mem_of_getElem? (i := 22) rfl)
theorem q_248 : (.fieldLink RX0 24 "OffForSecond$Pitches" "size" "I" : Cond) ∈ ALL := AL_in9 _ (List.mem_of_getElem? (i := 23) rfl)
theorem q_249 : (.fieldLink RX0 9 "OffForSecond$Pitches" "kind" "[I" : Cond) ∈ ALL := AL_in9 _ (List.mem_of_getElem? (i := 24) rfl)
theorem q_250 : (.fieldLink RX1 12 "OffForSecond$Reader" "draft" "LOffForSecond$Text;" : Cond) ∈ ALL := AL_in10 _ (List.mem_of_getElem? (i := 0) rfl)
theorem q_251 : (.fieldLink RX1 18 "OffForSecond$Reader" "signs" "[I" : Cond) ∈ ALL := AL_in10 _ (List.mem_of_getElem? (i := 1) rfl)
theorem q_252 : (.fieldLink RX1 22 "OffForSecond$Reader" "height" "I" : Cond) ∈ ALL := AL_in10 _ (List.mem_of_getElem? (i := 2) rfl)
theorem q_253 : (.fieldLink RX1 26 "OffForSecond$Reader" "open" "I" : Cond) ∈ ALL := AL_in10 _ (List.mem_of_getElem? (i := 3) rfl)
theorem q_254 : (.fieldLink RX1 29 "OffForSecond$Reader" "groups" "I" : Cond) ∈ ALL := AL_in10 _ (List.mem_of_getElem? (i := 4) rfl)
theorem q_255 : (.fieldLink RX1 32 "OffForSecond$Reader" "digits" "I" : Cond) ∈ ALL := AL_in10 _ (List.mem_of_getElem? (i := 5) rfl)
theorem q_256 : (.fieldLink RX1 35 "OffForSecond$Reader" "wantsOne" "Z" : Cond) ∈ ALL := AL_in10 _ (List.mem_of_getElem? (i := 6) rfl)
theorem q_257 : (.fieldLink RX1 39 "OffForSecond$Text" "size" "I" : Cond) ∈ ALL := AL_in10 _ (List.mem_of_getElem? (i := 7) rfl)
theorem q_258 : (.fieldLink RX1 42 "OffForSecond$Text" "isThere" "Z" : Cond) ∈ ALL := AL_in10 _ (List.mem_of_getElem? (i := 8) rfl)
theorem q_259 : (.fieldLink RX1 81 "OffForSecond$Text" "steps" "[I" : Cond) ∈ ALL := AL_in10 _ (List.mem_of_getElem? (i := 9) rfl)
theorem q_260 : (.fieldLink RX2 15 "OffForSecond$Runners" "pace" "[I" : Cond) ∈ ALL := AL_in10 _ (List.mem_of_getElem? (i := 10) rfl)
theorem q_261 : (.fieldLink RX2 18 "OffForSecond$Runners" "lead" "[I" : Cond) ∈ ALL := AL_in10 _ (List.mem_of_getElem? (i := 11) rfl)
theorem q_262 : (.fieldLink RX2 21 "OffForSecond$Runners" "stolen" "[I" : Cond) ∈ ALL := AL_in10 _ (List.mem_of_getElem? (i := 12) rfl)
theorem q_263 : (.fieldLink RX2 24 "OffForSecond$Runners" "caught" "[I" : Cond) ∈ ALL := AL_in10 _ (List.mem_of_getElem? (i := 13) rfl)
theorem q_264 : (.fieldLink RX2 27 "OffForSecond$Runners" "size" "I" : Cond) ∈ ALL := AL_in10 _ (List.mem_of_getElem? (i := 14) rfl)
theorem q_265 : (.fieldLink RX2 9 "OffForSecond$Runners" "start" "[I" : Cond) ∈ ALL := AL_in10 _ (List.mem_of_getElem? (i := 15) rfl)
theorem q_266 : (.fieldLink RX3 101 "OffForSecond$Pitches" "kind" "[I" : Cond) ∈ ALL := AL_in10 _ (List.mem_of_getElem? (i := 16) rfl)
theorem q_267 : (.fieldLink RX3 104 "OffForSecond$Pitches" "thrown" "[I" : Cond) ∈ ALL := AL_in10 _ (List.mem_of_getElem? (i := 17) rfl)
theorem q_268 : (.fieldLink RX3 12 "OffForSecond$Scene" "pitches" "LOffForSecond$Pitches;" : Cond) ∈ ALL := AL_in10 _ (List.mem_of_getElem? (i := 18) rfl)
theorem q_269 : (.fieldLink RX3 131 "OffForSecond$Pitches" "size" "I" : Cond) ∈ ALL := AL_in10 _ (List.mem_of_getElem? (i := 19) rfl)
theorem q_270 : (.fieldLink RX3 134 "OffForSecond$Pitches" "weight" "[I" : Cond) ∈ ALL := AL_in10 _ (List.mem_of_getElem? (i := 20) rfl)
theorem q_271 : (.fieldLink RX3 140 "OffForSecond$Runners" "lead" "[I" : Cond) ∈ ALL := AL_in10 _ (List.mem_of_getElem? (i := 21) rfl)
theorem q_272 : (.fieldLink RX3 150 "OffForSecond$Runners" "stolen" "[I" : Cond) ∈ ALL := AL_in10 _ (List.mem_of_getElem? (i := 22) rfl)
theorem q_273 : (.fieldLink RX3 153 "OffForSecond$Runners" "caught" "[I" : Cond) ∈ ALL := AL_in10 _ (List.mem_of_getElem? (i := 23) rfl)
theorem q_274 : (.fieldLink RX3 161 "OffForSecond$Runners" "size" "I" : Cond) ∈ ALL := AL_in10 _ (List.mem_of_getElem? (i := 24) rfl)
theorem q_275 : (.fieldLink RX3 21 "OffForSecond$Scene" "runners" "LOffForSecond$Runners;" : Cond) ∈ ALL := AL_in11 _ (List.mem_of_getElem? (i := 0) rfl)
theorem q_276 : (.fieldLink RX3 28 "OffForSecond$Scene" "airText" "LOffForSecond$Text;" : Cond) ∈ ALL := AL_in11 _ (List.mem_of_getElem? (i := 1) rfl)
theorem q_277 : (.fieldLink RX3 32 "OffForSecond$Scene" "gainText" "LOffForSecond$Text;" : Cond) ∈ ALL := AL_in11 _ (List.mem_of_getElem? (i := 2) rfl)
theorem q_278 : (.fieldLink RX3 35 "OffForSecond$Scene" "tape" "[B" : Cond) ∈ ALL := AL_in11 _ (List.mem_of_getElem? (i := 3) rfl)
theorem q_279 : (.fieldLink RX3 39 "OffForSecond$Scene" "taped" "I" : Cond) ∈ ALL := AL_in11 _ (List.mem_of_getElem? (i := 4) rfl)
theorem q_280 : (.fieldLink RX3 43 "OffForSecond$Scene" "waiting" "[I" : Cond) ∈ ALL := AL_in11 _ (List.mem_of_getElem? (i := 5) rfl)
theorem q_281 : (.fieldLink RX3 47 "OffForSecond$Scene" "waits" "I" : Cond) ∈ ALL := AL_in11 _ (List.mem_of_getElem? (i := 6) rfl)
theorem q_282 : (.fieldLink RX3 50 "OffForSecond$Scene" "lift" "I" : Cond) ∈ ALL := AL_in11 _ (List.mem_of_getElem? (i := 7) rfl)
theorem q_283 : (.fieldLink RX3 53 "OffForSecond$Scene" "pop" "I" : Cond) ∈ ALL := AL_in11 _ (List.mem_of_getElem? (i := 8) rfl)
theorem q_284 : (.fieldLink RX3 56 "OffForSecond$Scene" "wet" "I" : Cond) ∈ ALL := AL_in11 _ (List.mem_of_getElem? (i := 9) rfl)
theorem q_285 : (.fieldLink RX3 59 "OffForSecond$Scene" "outs" "I" : Cond) ∈ ALL := AL_in11 _ (List.mem_of_getElem? (i := 10) rfl)
theorem q_286 : (.fieldLink RX3 62 "OffForSecond$Scene" "innings" "I" : Cond) ∈ ALL := AL_in11 _ (List.mem_of_getElem? (i := 11) rfl)
theorem q_287 : (.fieldLink RX3 65 "OffForSecond$Scene" "worth" "I" : Cond) ∈ ALL := AL_in11 _ (List.mem_of_getElem? (i := 12) rfl)
theorem q_288 : (.fieldLink RX3 68 "OffForSecond$Scene" "z" "I" : Cond) ∈ ALL := AL_in11 _ (List.mem_of_getElem? (i := 13) rfl)
theorem q_289 : (.fieldLink RX3 87 "OffForSecond$Text" "isThere" "Z" : Cond) ∈ ALL := AL_in11 _ (List.mem_of_getElem? (i := 14) rfl)
theorem q_290 : (.fieldLink RX3 98 "OffForSecond$Pitches" "m" "[I" : Cond) ∈ ALL := AL_in11 _ (List.mem_of_getElem? (i := 15) rfl)
theorem q_291 : (.fieldLink RX4 15 "OffForSecond$Sheets" "size" "[I" : Cond) ∈ ALL := AL_in11 _ (List.mem_of_getElem? (i := 16) rfl)
theorem q_292 : (.fieldLink RX4 18 "OffForSecond$Sheets" "numbers" "[I" : Cond) ∈ ALL := AL_in11 _ (List.mem_of_getElem? (i := 17) rfl)
theorem q_293 : (.fieldLink RX4 9 "OffForSecond$Sheets" "bits" "[I" : Cond) ∈ ALL := AL_in11 _ (List.mem_of_getElem? (i := 18) rfl)
theorem q_294 : (.fieldLink RX5 15 "OffForSecond$Text" "stack" "[I" : Cond) ∈ ALL := AL_in11 _ (List.mem_of_getElem? (i := 19) rfl)
theorem q_295 : (.fieldLink RX5 18 "OffForSecond$Text" "size" "I" : Cond) ∈ ALL := AL_in11 _ (List.mem_of_getElem? (i := 20) rfl)
theorem q_296 : (.fieldLink RX5 22 "OffForSecond$Text" "isThere" "Z" : Cond) ∈ ALL := AL_in11 _ (List.mem_of_getElem? (i := 21) rfl)
theorem q_297 : (.fieldLink RX5 9 "OffForSecond$Text" "steps" "[I" : Cond) ∈ ALL := AL_in11 _ (List.mem_of_getElem? (i := 22) rfl)
theorem q_298 : (.fieldLink RX6 15 "OffForSecond$Throat" "traced" "I" : Cond) ∈ ALL := AL_in11 _ (List.mem_of_getElem? (i := 23) rfl)
theorem q_299 : (.fieldLink RX6 19 "OffForSecond$Throat" "parted" "Z" : Cond) ∈ ALL := AL_in11 _ (List.mem_of_getElem? (i := 24) rfl)
theorem q_300 : (.fieldLink RX6 23 "OffForSecond$Throat" "k" "I" : Cond) ∈ ALL := AL_in12 _ (List.mem_of_getElem? (i := 0) rfl)
theorem q_301 : (.fieldLink RX6 26 "OffForSecond$Throat" "m" "I" : Cond) ∈ ALL := AL_in12 _ (List.mem_of_getElem? (i := 1) rfl)
theorem q_302 : (.fieldLink RX6 29 "OffForSecond$Throat" "kind" "I" : Cond) ∈ ALL := AL_in12 _ (List.mem_of_getElem? (i := 2) rfl)
theorem q_303 : (.fieldLink RX6 9 "OffForSecond$Throat" "trace" "[I" : Cond) ∈ ALL := AL_in12 _ (List.mem_of_getElem? (i := 3) rfl)
theorem q_304 : (.fieldLink RX7 10 "OffForSecond" "scene" "LOffForSecond$Scene;" : Cond) ∈ ALL := AL_in12 _ (List.mem_of_getElem? (i := 4) rfl)
theorem q_305 : (.fieldLink RX7 101 "OffForSecond$Scene" "runners" "LOffForSecond$Runners;" : Cond) ∈ ALL := AL_in12 _ (List.mem_of_getElem? (i := 5) rfl)
theorem q_306 : (.fieldLink RX7 105 "OffForSecond$Runners" "size" "I" : Cond) ∈ ALL := AL_in12 _ (List.mem_of_getElem? (i := 6) rfl)
theorem q_307 : (.fieldLink RX7 112 "OffForSecond$Runners" "lead" "[I" : Cond) ∈ ALL := AL_in12 _ (List.mem_of_getElem? (i := 7) rfl)
theorem q_308 : (.fieldLink RX7 115 "OffForSecond$Runners" "start" "[I" : Cond) ∈ ALL := AL_in12 _ (List.mem_of_getElem? (i := 8) rfl)
theorem q_309 : (.fieldLink RX7 118 "OffForSecond$Runners" "pace" "[I" : Cond) ∈ ALL := AL_in12 _ (List.mem_of_getElem? (i := 9) rfl)
theorem q_310 : (.fieldLink RX7 121 "OffForSecond$Runners" "stolen" "[I" : Cond) ∈ ALL := AL_in12 _ (List.mem_of_getElem? (i := 10) rfl)
theorem q_311 : (.fieldLink RX7 124 "OffForSecond$Runners" "caught" "[I" : Cond) ∈ ALL := AL_in12 _ (List.mem_of_getElem? (i := 11) rfl)
theorem q_312 : (.fieldLink RX7 149 "OffForSecond$Scene" "taped" "I" : Cond) ∈ ALL := AL_in12 _ (List.mem_of_getElem? (i := 12) rfl)
theorem q_313 : (.fieldLink RX7 152 "OffForSecond$Scene" "tape" "[B" : Cond) ∈ ALL := AL_in12 _ (List.mem_of_getElem? (i := 13) rfl)
theorem q_314 : (.fieldLink RX7 16 "OffForSecond" "kept" "LOffForSecond$Scene;" : Cond) ∈ ALL := AL_in12 _ (List.mem_of_getElem? (i := 14) rfl)
theorem q_315 : (.fieldLink RX7 167 "OffForSecond$Reader" "draft" "LOffForSecond$Text;" : Cond) ∈ ALL := AL_in12 _ (List.mem_of_getElem? (i := 15) rfl)
theorem q_316 : (.fieldLink RX7 177 "OffForSecond$Text" "isThere" "Z" : Cond) ∈ ALL := AL_in12 _ (List.mem_of_getElem? (i := 16) rfl)
theorem q_317 : (.fieldLink RX7 22 "OffForSecond" "reader" "LOffForSecond$Reader;" : Cond) ∈ ALL := AL_in12 _ (List.mem_of_getElem? (i := 17) rfl)
theorem q_318 : (.fieldLink RX7 234 "OffForSecond$Scene" "z" "I" : Cond) ∈ ALL := AL_in12 _ (List.mem_of_getElem? (i := 18) rfl)
theorem q_319 : (.fieldLink RX7 241 "OffForSecond$Throat" "parted" "Z" : Cond) ∈ ALL := AL_in12 _ (List.mem_of_getElem? (i := 19) rfl)
theorem q_320 : (.fieldLink RX7 244 "OffForSecond$Throat" "traced" "I" : Cond) ∈ ALL := AL_in12 _ (List.mem_of_getElem? (i := 20) rfl)
theorem q_321 : (.fieldLink RX7 247 "OffForSecond$Throat" "trace" "[I" : Cond) ∈ ALL := AL_in12 _ (List.mem_of_getElem? (i := 21) rfl)
theorem q_322 : (.fieldLink RX7 260 "OffForSecond$Sheets" "bits" "[I" : Cond) ∈ ALL := AL_in12 _ (List.mem_of_getElem? (i := 22) rfl)
theorem q_323 : (.fieldLink RX7 267 "OffForSecond$Sheets" "size" "[I" : Cond) ∈ ALL := AL_in12 _ (List.mem_of_getElem? (i := 23) rfl)
theorem q_324 : (.fieldLink RX7 275 "OffForSecond$Scene" "innings" "I" : Cond) ∈ ALL := AL_in12 _ (List.mem_of_getElem? (i := 24) rfl)
theorem q_325 : (.fieldLink RX7 278 "OffForSecond$Scene" "waits" "I" : Cond) ∈ ALL := AL_in13 _ (List.mem_of_getElem? (i := 0) rfl)
theorem q_326 : (.fieldLink RX7 281 "OffForSecond$Scene" "waiting" "[I" : Cond) ∈ ALL := AL_in13 _ (List.mem_of_getElem? (i := 1) rfl)
theorem q_327 : (.fieldLink RX7 284 "OffForSecond$Scene" "outs" "I" : Cond) ∈ ALL := AL_in13 _ (List.mem_of_getElem? (i := 2) rfl)
theorem q_328 : (.fieldLink RX7 287 "OffForSecond$Scene" "worth" "I" : Cond) ∈ ALL := AL_in13 _ (List.mem_of_getElem? (i := 3) rfl)
theorem q_329 : (.fieldLink RX7 29 "OffForSecond" "sheets" "LOffForSecond$Sheets;" : Cond) ∈ ALL := AL_in13 _ (List.mem_of_getElem? (i := 4) rfl)
theorem q_330 : (.fieldLink RX7 290 "OffForSecond$Scene" "lift" "I" : Cond) ∈ ALL := AL_in13 _ (List.mem_of_getElem? (i := 5) rfl)
theorem q_331 : (.fieldLink RX7 293 "OffForSecond$Scene" "pop" "I" : Cond) ∈ ALL := AL_in13 _ (List.mem_of_getElem? (i := 6) rfl)
theorem q_332 : (.fieldLink RX7 296 "OffForSecond$Scene" "wet" "I" : Cond) ∈ ALL := AL_in13 _ (List.mem_of_getElem? (i := 7) rfl)
theorem q_333 : (.fieldLink RX7 300 "OffForSecond" "ABOVE" "[I" : Cond) ∈ ALL := AL_in13 _ (List.mem_of_getElem? (i := 8) rfl)
theorem q_334 : (.fieldLink RX7 36 "OffForSecond" "throat" "LOffForSecond$Throat;" : Cond) ∈ ALL := AL_in13 _ (List.mem_of_getElem? (i := 9) rfl)
theorem q_335 : (.fieldLink RX7 40 "OffForSecond" "errors" "[I" : Cond) ∈ ALL := AL_in13 _ (List.mem_of_getElem? (i := 10) rfl)
theorem q_336 : (.fieldLink RX7 44 "OffForSecond" "images" "I" : Cond) ∈ ALL := AL_in13 _ (List.mem_of_getElem? (i := 11) rfl)
theorem q_337 : (.fieldLink RX7 59 "OffForSecond$Scene" "pitches" "LOffForSecond$Pitches;" : Cond) ∈ ALL := AL_in13 _ (List.mem_of_getElem? (i := 12) rfl)
theorem q_338 : (.fieldLink RX7 63 "OffForSecond$Pitches" "size" "I" : Cond) ∈ ALL := AL_in13 _ (List.mem_of_getElem? (i := 13) rfl)
theorem q_339 : (.fieldLink RX7 75 "OffForSecond$Pitches" "kind" "[I" : Cond) ∈ ALL := AL_in13 _ (List.mem_of_getElem? (i := 14) rfl)
theorem q_340 : (.fieldLink RX7 78 "OffForSecond$Pitches" "m" "[I" : Cond) ∈ ALL := AL_in13 _ (List.mem_of_getElem? (i := 15) rfl)
theorem q_341 : (.fieldLink RX7 81 "OffForSecond$Pitches" "weight" "[I" : Cond) ∈ ALL := AL_in13 _ (List.mem_of_getElem? (i := 16) rfl)
theorem q_342 : (.fieldLink RX7 84 "OffForSecond$Pitches" "thrown" "[I" : Cond) ∈ ALL := AL_in13 _ (List.mem_of_getElem? (i := 17) rfl)
theorem q_343 : (.fieldLink RX8 127 "OffForSecondModel" "here" "I" : Cond) ∈ ALL := AL_in13 _ (List.mem_of_getElem? (i := 18) rfl)
theorem q_344 : (.fieldLink RX8 13 "OffForSecondModel" "kept" "[I" : Cond) ∈ ALL := AL_in13 _ (List.mem_of_getElem? (i := 19) rfl)
theorem q_345 : (.fieldLink RX8 131 "OffForSecondModel" "laid" "I" : Cond) ∈ ALL := AL_in13 _ (List.mem_of_getElem? (i := 20) rfl)
theorem q_346 : (.fieldLink RX8 134 "OffForSecondModel" "using" "I" : Cond) ∈ ALL := AL_in13 _ (List.mem_of_getElem? (i := 21) rfl)
theorem q_347 : (.fieldLink RX8 141 "OffForSecondModel" "bad" "Z" : Cond) ∈ ALL := AL_in13 _ (List.mem_of_getElem? (i := 22) rfl)
theorem q_348 : (.fieldLink RX8 149 "OffForSecondModel" "opened" "I" : Cond) ∈ ALL := AL_in13 _ (List.mem_of_getElem? (i := 23) rfl)
theorem q_349 : (.fieldLink RX8 16 "OffForSecondModel" "errors" "[I" : Cond) ∈ ALL := AL_in13 _ (List.mem_of_getElem? (i := 24) rfl)
theorem q_350 : (.fieldLink RX8 19 "OffForSecondModel" "bitsOf" "[I" : Cond) ∈ ALL := AL_in14 _ (List.mem_of_getElem? (i := 0) rfl)
theorem q_351 : (.fieldLink RX8 216 "OffForSecondModel" "traced" "I" : Cond) ∈ ALL := AL_in14 _ (List.mem_of_getElem? (i := 1) rfl)
theorem q_352 : (.fieldLink RX8 22 "OffForSecondModel" "sizeOf" "[I" : Cond) ∈ ALL := AL_in14 _ (List.mem_of_getElem? (i := 2) rfl)
theorem q_353 : (.fieldLink RX8 243 "OffForSecondModel" "isParted" "Z" : Cond) ∈ ALL := AL_in14 _ (List.mem_of_getElem? (i := 3) rfl)
theorem q_354 : (.fieldLink RX8 25 "OffForSecondModel" "cells" "[I" : Cond) ∈ ALL := AL_in14 _ (List.mem_of_getElem? (i := 4) rfl)
theorem q_355 : (.fieldLink RX8 267 "OffForSecondModel" "images" "I" : Cond) ∈ ALL := AL_in14 _ (List.mem_of_getElem? (i := 5) rfl)
theorem q_356 : (.fieldLink RX8 28 "OffForSecondModel" "act" "[I" : Cond) ∈ ALL := AL_in14 _ (List.mem_of_getElem? (i := 6) rfl)
theorem q_357 : (.fieldLink RX8 31 "OffForSecondModel" "with" "[I" : Cond) ∈ ALL := AL_in14 _ (List.mem_of_getElem? (i := 7) rfl)
theorem q_358 : (.fieldLink RX8 34 "OffForSecondModel" "facts" "[I" : Cond) ∈ ALL := AL_in14 _ (List.mem_of_getElem? (i := 8) rfl)
theorem q_359 : (.fieldLink RX8 37 "OffForSecondModel" "pile" "[I" : Cond) ∈ ALL := AL_in14 _ (List.mem_of_getElem? (i := 9) rfl)
theorem q_360 : (.fieldLink RX8 40 "OffForSecondModel" "trace" "[I" : Cond) ∈ ALL := AL_in14 _ (List.mem_of_getElem? (i := 10) rfl)
theorem q_361 : (.fieldLink RX8 9 "OffForSecondModel" "row" "[I" : Cond) ∈ ALL := AL_in14 _ (List.mem_of_getElem? (i := 11) rfl)
theorem q_362 : (.initialized "java/lang/Math" : Cond) ∈ ALL := AL_in14 _ (List.mem_of_getElem? (i := 12) rfl)
theorem q_363 : (.initialized "java/lang/System" : Cond) ∈ ALL := AL_in14 _ (List.mem_of_getElem? (i := 13) rfl)
theorem q_364 : (.initialized RJ6 : Cond) ∈ ALL := AL_in14 _ (List.mem_of_getElem? (i := 14) rfl)
theorem q_365 : (.initialized RX0 : Cond) ∈ ALL := AL_in14 _ (List.mem_of_getElem? (i := 15) rfl)
theorem q_366 : (.initialized RX1 : Cond) ∈ ALL := AL_in14 _ (List.mem_of_getElem? (i := 16) rfl)
theorem q_367 : (.initialized RX2 : Cond) ∈ ALL := AL_in14 _ (List.mem_of_getElem? (i := 17) rfl)
theorem q_368 : (.initialized RX3 : Cond) ∈ ALL := AL_in14 _ (List.mem_of_getElem? (i := 18) rfl)
theorem q_369 : (.initialized RX4 : Cond) ∈ ALL := AL_in14 _ (List.mem_of_getElem? (i := 19) rfl)
theorem q_370 : (.initialized RX5 : Cond) ∈ ALL := AL_in14 _ (List.mem_of_getElem? (i := 20) rfl)
theorem q_371 : (.initialized RX6 : Cond) ∈ ALL := AL_in14 _ (List.mem_of_getElem? (i := 21) rfl)
theorem q_372 : (.initialized RX7 : Cond) ∈ ALL := AL_in14 _ (List.mem_of_getElem? (i := 22) rfl)
theorem q_373 : (.initialized RX8 : Cond) ∈ ALL := AL_in14 _ (List.mem_of_getElem? (i := 23) rfl)
theorem q_374 : (.instanceMethod objectInit : Cond) ∈ ALL := AL_in14 _ (List.mem_of_getElem? (i := 24) rfl)
theorem q_375 : (.instanceMethod yX0_add : Cond) ∈ ALL := AL_in15 _ (List.mem_of_getElem? (i := 0) rfl)
theorem q_376 : (.instanceMethod yX0_allWeights : Cond) ∈ ALL := AL_in15 _ (List.mem_of_getElem? (i := 1) rfl)
theorem q_377 : (.instanceMethod yX0_byWeight : Cond) ∈ ALL := AL_in15 _ (List.mem_of_getElem? (i := 2) rfl)
theorem q_378 : (.instanceMethod yX0_init : Cond) ∈ ALL := AL_in15 _ (List.mem_of_getElem? (i := 3) rfl)
theorem q_379 : (.instanceMethod yX0_takes : Cond) ∈ ALL := AL_in15 _ (List.mem_of_getElem? (i := 4) rfl)
theorem q_380 : (.instanceMethod yX1_begins : Cond) ∈ ALL := AL_in15 _ (List.mem_of_getElem? (i := 5) rfl)
theorem q_381 : (.instanceMethod yX1_closes : Cond) ∈ ALL := AL_in15 _ (List.mem_of_getElem? (i := 6) rfl)
theorem q_382 : (.instanceMethod yX1_continues : Cond) ∈ ALL := AL_in15 _ (List.mem_of_getElem? (i := 7) rfl)
theorem q_383 : (.instanceMethod yX1_faultOf : Cond) ∈ ALL := AL_in15 _ (List.mem_of_getElem? (i := 8) rfl)
theorem q_384 : (.instanceMethod yX1_init : Cond) ∈ ALL := AL_in15 _ (List.mem_of_getElem? (i := 9) rfl)
theorem q_385 : (.instanceMethod yX1_lengthens : Cond) ∈ ALL := AL_in15 _ (List.mem_of_getElem? (i := 10) rfl)
theorem q_386 : (.instanceMethod yX1_park : Cond) ∈ ALL := AL_in15 _ (List.mem_of_getElem? (i := 11) rfl)
theorem q_387 : (.instanceMethod yX1_settle : Cond) ∈ ALL := AL_in15 _ (List.mem_of_getElem? (i := 12) rfl)
theorem q_388 : (.instanceMethod yX2_add : Cond) ∈ ALL := AL_in15 _ (List.mem_of_getElem? (i := 13) rfl)
theorem q_389 : (.instanceMethod yX2_backFrom : Cond) ∈ ALL := AL_in15 _ (List.mem_of_getElem? (i := 14) rfl)
theorem q_390 : (.instanceMethod yX2_init : Cond) ∈ ALL := AL_in15 _ (List.mem_of_getElem? (i := 15) rfl)
theorem q_391 : (.instanceMethod yX2_runFrom : Cond) ∈ ALL := AL_in15 _ (List.mem_of_getElem? (i := 16) rfl)
theorem q_392 : (.instanceMethod yX2_takes : Cond) ∈ ALL := AL_in15 _ (List.mem_of_getElem? (i := 17) rfl)
theorem q_393 : (.instanceMethod yX3_air : Cond) ∈ ALL := AL_in15 _ (List.mem_of_getElem? (i := 18) rfl)
theorem q_394 : (.instanceMethod yX3_airByKind : Cond) ∈ ALL := AL_in15 _ (List.mem_of_getElem? (i := 19) rfl)
theorem q_395 : (.instanceMethod yX3_change : Cond) ∈ ALL := AL_in15 _ (List.mem_of_getElem? (i := 20) rfl)
theorem q_396 : (.instanceMethod yX3_costs : Cond) ∈ ALL := AL_in15 _ (List.mem_of_getElem? (i := 21) rfl)
theorem q_397 : (.instanceMethod yX3_draw : Cond) ∈ ALL := AL_in15 _ (List.mem_of_getElem? (i := 22) rfl)
theorem q_398 : (.instanceMethod yX3_gainFrom : Cond) ∈ ALL := AL_in15 _ (List.mem_of_getElem? (i := 23) rfl)
theorem q_399 : (.instanceMethod yX3_gainOf : Cond) ∈ ALL := AL_in15 _ (List.mem_of_getElem? (i := 24) rfl)
theorem q_400 : (.instanceMethod yX3_gives : Cond) ∈ ALL := AL_in16 _ (List.mem_of_getElem? (i := 0) rfl)
theorem q_401 : (.instanceMethod yX3_goes : Cond) ∈ ALL := AL_in16 _ (List.mem_of_getElem? (i := 1) rfl)
theorem q_402 : (.instanceMethod yX3_init : Cond) ∈ ALL := AL_in16 _ (List.mem_of_getElem? (i := 2) rfl)
theorem q_403 : (.instanceMethod yX3_isOut : Cond) ∈ ALL := AL_in16 _ (List.mem_of_getElem? (i := 3) rfl)
theorem q_404 : (.instanceMethod yX3_isPicked : Cond) ∈ ALL := AL_in16 _ (List.mem_of_getElem? (i := 4) rfl)
theorem q_405 : (.instanceMethod yX3_isSafeByDraws : Cond) ∈ ALL := AL_in16 _ (List.mem_of_getElem? (i := 5) rfl)
theorem q_406 : (.instanceMethod yX3_marginFrom : Cond) ∈ ALL := AL_in16 _ (List.mem_of_getElem? (i := 6) rfl)
theorem q_407 : (.instanceMethod yX3_safePitches : Cond) ∈ ALL := AL_in16 _ (List.mem_of_getElem? (i := 7) rfl)
theorem q_408 : (.instanceMethod yX3_safeWeights : Cond) ∈ ALL := AL_in16 _ (List.mem_of_getElem? (i := 8) rfl)
theorem q_409 : (.instanceMethod yX3_takes : Cond) ∈ ALL := AL_in16 _ (List.mem_of_getElem? (i := 9) rfl)
theorem q_410 : (.instanceMethod yX3_textOf : Cond) ∈ ALL := AL_in16 _ (List.mem_of_getElem? (i := 10) rfl)
theorem q_411 : (.instanceMethod yX3_weighedGains : Cond) ∈ ALL := AL_in16 _ (List.mem_of_getElem? (i := 11) rfl)
theorem q_412 : (.instanceMethod yX4_copy : Cond) ∈ ALL := AL_in16 _ (List.mem_of_getElem? (i := 12) rfl)
theorem q_413 : (.instanceMethod yX4_init : Cond) ∈ ALL := AL_in16 _ (List.mem_of_getElem? (i := 13) rfl)
theorem q_414 : (.instanceMethod yX4_isMissing : Cond) ∈ ALL := AL_in16 _ (List.mem_of_getElem? (i := 14) rfl)
theorem q_415 : (.instanceMethod yX4_lay : Cond) ∈ ALL := AL_in16 _ (List.mem_of_getElem? (i := 15) rfl)
theorem q_416 : (.instanceMethod yX4_read : Cond) ∈ ALL := AL_in16 _ (List.mem_of_getElem? (i := 16) rfl)
theorem q_417 : (.instanceMethod yX4_standsAt : Cond) ∈ ALL := AL_in16 _ (List.mem_of_getElem? (i := 17) rfl)
theorem q_418 : (.instanceMethod yX4_write : Cond) ∈ ALL := AL_in16 _ (List.mem_of_getElem? (i := 18) rfl)
theorem q_419 : (.instanceMethod yX5_add : Cond) ∈ ALL := AL_in16 _ (List.mem_of_getElem? (i := 19) rfl)
theorem q_420 : (.instanceMethod yX5_init : Cond) ∈ ALL := AL_in16 _ (List.mem_of_getElem? (i := 20) rfl)
theorem q_421 : (.instanceMethod yX5_takes : Cond) ∈ ALL := AL_in16 _ (List.mem_of_getElem? (i := 21) rfl)
theorem q_422 : (.instanceMethod yX5_work : Cond) ∈ ALL := AL_in16 _ (List.mem_of_getElem? (i := 22) rfl)
theorem q_423 : (.instanceMethod yX6_begin : Cond) ∈ ALL := AL_in16 _ (List.mem_of_getElem? (i := 23) rfl)
theorem q_424 : (.instanceMethod yX6_init : Cond) ∈ ALL := AL_in16 _ (List.mem_of_getElem? (i := 24) rfl)
theorem q_425 : (.instanceMethod yX6_parts : Cond) ∈ ALL := AL_in17 _ (List.mem_of_getElem? (i := 0) rfl)
theorem q_426 : (.instanceMethod yX6_partsOfCurve : Cond) ∈ ALL := AL_in17 _ (List.mem_of_getElem? (i := 1) rfl)
theorem q_427 : (.instanceMethod yX6_say : Cond) ∈ ALL := AL_in17 _ (List.mem_of_getElem? (i := 2) rfl)
theorem q_428 : (.instanceMethod yX6_speak : Cond) ∈ ALL := AL_in17 _ (List.mem_of_getElem? (i := 3) rfl)
theorem q_429 : (.instanceMethod yX7_as : Cond) ∈ ALL := AL_in17 _ (List.mem_of_getElem? (i := 4) rfl)
theorem q_430 : (.instanceMethod yX7_become : Cond) ∈ ALL := AL_in17 _ (List.mem_of_getElem? (i := 5) rfl)
theorem q_431 : (.instanceMethod yX7_bestLead : Cond) ∈ ALL := AL_in17 _ (List.mem_of_getElem? (i := 6) rfl)
theorem q_432 : (.instanceMethod yX7_body : Cond) ∈ ALL := AL_in17 _ (List.mem_of_getElem? (i := 7) rfl)
theorem q_433 : (.instanceMethod yX7_check : Cond) ∈ ALL := AL_in17 _ (List.mem_of_getElem? (i := 8) rfl)
theorem q_434 : (.instanceMethod yX7_count : Cond) ∈ ALL := AL_in17 _ (List.mem_of_getElem? (i := 9) rfl)
theorem q_435 : (.instanceMethod yX7_duel : Cond) ∈ ALL := AL_in17 _ (List.mem_of_getElem? (i := 10) rfl)
theorem q_436 : (.instanceMethod yX7_error : Cond) ∈ ALL := AL_in17 _ (List.mem_of_getElem? (i := 11) rfl)
theorem q_437 : (.instanceMethod yX7_feed : Cond) ∈ ALL := AL_in17 _ (List.mem_of_getElem? (i := 12) rfl)
theorem q_438 : (.instanceMethod yX7_fits : Cond) ∈ ALL := AL_in17 _ (List.mem_of_getElem? (i := 13) rfl)
theorem q_439 : (.instanceMethod yX7_fitsFrom : Cond) ∈ ALL := AL_in17 _ (List.mem_of_getElem? (i := 14) rfl)
theorem q_440 : (.instanceMethod yX7_go : Cond) ∈ ALL := AL_in17 _ (List.mem_of_getElem? (i := 15) rfl)
theorem q_441 : (.instanceMethod yX7_image : Cond) ∈ ALL := AL_in17 _ (List.mem_of_getElem? (i := 16) rfl)
theorem q_442 : (.instanceMethod yX7_init : Cond) ∈ ALL := AL_in17 _ (List.mem_of_getElem? (i := 17) rfl)
theorem q_443 : (.instanceMethod yX7_isPitch : Cond) ∈ ALL := AL_in17 _ (List.mem_of_getElem? (i := 18) rfl)
theorem q_444 : (.instanceMethod yX7_isRunner : Cond) ∈ ALL := AL_in17 _ (List.mem_of_getElem? (i := 19) rfl)
theorem q_445 : (.instanceMethod yX7_judge : Cond) ∈ ALL := AL_in17 _ (List.mem_of_getElem? (i := 20) rfl)
theorem q_446 : (.instanceMethod yX7_law : Cond) ∈ ALL := AL_in17 _ (List.mem_of_getElem? (i := 21) rfl)
theorem q_447 : (.instanceMethod yX7_leadFor : Cond) ∈ ALL := AL_in17 _ (List.mem_of_getElem? (i := 22) rfl)
theorem q_448 : (.instanceMethod yX7_leads : Cond) ∈ ALL := AL_in17 _ (List.mem_of_getElem? (i := 23) rfl)
theorem q_449 : (.instanceMethod yX7_loose : Cond) ∈ ALL := AL_in17 _ (List.mem_of_getElem? (i := 24) rfl)
theorem q_450 : (.instanceMethod yX7_margin : Cond) ∈ ALL := AL_in18 _ (List.mem_of_getElem? (i := 0) rfl)
theorem q_451 : (.instanceMethod yX7_move : Cond) ∈ ALL := AL_in18 _ (List.mem_of_getElem? (i := 1) rfl)
theorem q_452 : (.instanceMethod yX7_odds : Cond) ∈ ALL := AL_in18 _ (List.mem_of_getElem? (i := 2) rfl)
theorem q_453 : (.instanceMethod yX7_over : Cond) ∈ ALL := AL_in18 _ (List.mem_of_getElem? (i := 3) rfl)
theorem q_454 : (.instanceMethod yX7_pitch : Cond) ∈ ALL := AL_in18 _ (List.mem_of_getElem? (i := 4) rfl)
theorem q_455 : (.instanceMethod yX7_pitchIs : Cond) ∈ ALL := AL_in18 _ (List.mem_of_getElem? (i := 5) rfl)
theorem q_456 : (.instanceMethod yX7_put : Cond) ∈ ALL := AL_in18 _ (List.mem_of_getElem? (i := 6) rfl)
theorem q_457 : (.instanceMethod yX7_restore : Cond) ∈ ALL := AL_in18 _ (List.mem_of_getElem? (i := 7) rfl)
theorem q_458 : (.instanceMethod yX7_runner : Cond) ∈ ALL := AL_in18 _ (List.mem_of_getElem? (i := 8) rfl)
theorem q_459 : (.instanceMethod yX7_runnerIs : Cond) ∈ ALL := AL_in18 _ (List.mem_of_getElem? (i := 9) rfl)
theorem q_460 : (.instanceMethod yX7_seed : Cond) ∈ ALL := AL_in18 _ (List.mem_of_getElem? (i := 10) rfl)
theorem q_461 : (.instanceMethod yX7_set : Cond) ∈ ALL := AL_in18 _ (List.mem_of_getElem? (i := 11) rfl)
theorem q_462 : (.instanceMethod yX7_sheet : Cond) ∈ ALL := AL_in18 _ (List.mem_of_getElem? (i := 12) rfl)
theorem q_463 : (.instanceMethod yX7_steal : Cond) ∈ ALL := AL_in18 _ (List.mem_of_getElem? (i := 13) rfl)
theorem q_464 : (.instanceMethod yX7_surely : Cond) ∈ ALL := AL_in18 _ (List.mem_of_getElem? (i := 14) rfl)
theorem q_465 : (.instanceMethod yX7_tell : Cond) ∈ ALL := AL_in18 _ (List.mem_of_getElem? (i := 15) rfl)
theorem q_466 : (.instanceMethod yX7_text : Cond) ∈ ALL := AL_in18 _ (List.mem_of_getElem? (i := 16) rfl)
theorem q_467 : (.instanceMethod yX7_told : Cond) ∈ ALL := AL_in18 _ (List.mem_of_getElem? (i := 17) rfl)
theorem q_468 : (.instanceMethod yX7_untell : Cond) ∈ ALL := AL_in18 _ (List.mem_of_getElem? (i := 18) rfl)
theorem q_469 : (.instanceMethod yX7_voice : Cond) ∈ ALL := AL_in18 _ (List.mem_of_getElem? (i := 19) rfl)
theorem q_470 : (.instanceMethod yX7_weighs : Cond) ∈ ALL := AL_in18 _ (List.mem_of_getElem? (i := 20) rfl)
theorem q_471 : (.instanceMethod yX7_weightsBy : Cond) ∈ ALL := AL_in18 _ (List.mem_of_getElem? (i := 21) rfl)
theorem q_472 : (.instanceMethod yX8_about : Cond) ∈ ALL := AL_in18 _ (List.mem_of_getElem? (i := 22) rfl)
theorem q_473 : (.instanceMethod yX8_airOf : Cond) ∈ ALL := AL_in18 _ (List.mem_of_getElem? (i := 23) rfl)
theorem q_474 : (.instanceMethod yX8_all : Cond) ∈ ALL := AL_in18 _ (List.mem_of_getElem? (i := 24) rfl)
theorem q_475 : (.instanceMethod yX8_any : Cond) ∈ ALL := AL_in19 _ (List.mem_of_getElem? (i := 0) rfl)
theorem q_476 : (.instanceMethod yX8_as : Cond) ∈ ALL := AL_in19 _ (List.mem_of_getElem? (i := 1) rfl)
theorem q_477 : (.instanceMethod yX8_become : Cond) ∈ ALL := AL_in19 _ (List.mem_of_getElem? (i := 2) rfl)
theorem q_478 : (.instanceMethod yX8_becomes : Cond) ∈ ALL := AL_in19 _ (List.mem_of_getElem? (i := 3) rfl)
theorem q_479 : (.instanceMethod yX8_begins : Cond) ∈ ALL := AL_in19 _ (List.mem_of_getElem? (i := 4) rfl)
theorem q_480 : (.instanceMethod yX8_bestLead : Cond) ∈ ALL := AL_in19 _ (List.mem_of_getElem? (i := 5) rfl)
theorem q_481 : (.instanceMethod yX8_body : Cond) ∈ ALL := AL_in19 _ (List.mem_of_getElem? (i := 6) rfl)
theorem q_482 : (.instanceMethod yX8_check : Cond) ∈ ALL := AL_in19 _ (List.mem_of_getElem? (i := 7) rfl)
theorem q_483 : (.instanceMethod yX8_compares : Cond) ∈ ALL := AL_in19 _ (List.mem_of_getElem? (i := 8) rfl)
theorem q_484 : (.instanceMethod yX8_costsOf : Cond) ∈ ALL := AL_in19 _ (List.mem_of_getElem? (i := 9) rfl)
theorem q_485 : (.instanceMethod yX8_count : Cond) ∈ ALL := AL_in19 _ (List.mem_of_getElem? (i := 10) rfl)
theorem q_486 : (.instanceMethod yX8_curveHisses : Cond) ∈ ALL := AL_in19 _ (List.mem_of_getElem? (i := 11) rfl)
theorem q_487 : (.instanceMethod yX8_draw : Cond) ∈ ALL := AL_in19 _ (List.mem_of_getElem? (i := 12) rfl)
theorem q_488 : (.instanceMethod yX8_drawn : Cond) ∈ ALL := AL_in19 _ (List.mem_of_getElem? (i := 13) rfl)
theorem q_489 : (.instanceMethod yX8_drops : Cond) ∈ ALL := AL_in19 _ (List.mem_of_getElem? (i := 14) rfl)
theorem q_490 : (.instanceMethod yX8_duel : Cond) ∈ ALL := AL_in19 _ (List.mem_of_getElem? (i := 15) rfl)
theorem q_491 : (.instanceMethod yX8_error : Cond) ∈ ALL := AL_in19 _ (List.mem_of_getElem? (i := 16) rfl)
theorem q_492 : (.instanceMethod yX8_feed : Cond) ∈ ALL := AL_in19 _ (List.mem_of_getElem? (i := 17) rfl)
theorem q_493 : (.instanceMethod yX8_fits : Cond) ∈ ALL := AL_in19 _ (List.mem_of_getElem? (i := 18) rfl)
theorem q_494 : (.instanceMethod yX8_gainOf : Cond) ∈ ALL := AL_in19 _ (List.mem_of_getElem? (i := 19) rfl)
theorem q_495 : (.instanceMethod yX8_gainsFrom : Cond) ∈ ALL := AL_in19 _ (List.mem_of_getElem? (i := 20) rfl)
theorem q_496 : (.instanceMethod yX8_gives : Cond) ∈ ALL := AL_in19 _ (List.mem_of_getElem? (i := 21) rfl)
theorem q_497 : (.instanceMethod yX8_go : Cond) ∈ ALL := AL_in19 _ (List.mem_of_getElem? (i := 22) rfl)
theorem q_498 : (.instanceMethod yX8_goes : Cond) ∈ ALL := AL_in19 _ (List.mem_of_getElem? (i := 23) rfl)
theorem q_499 : (.instanceMethod yX8_hardDrops : Cond) ∈ ALL := AL_in19 _ (List.mem_of_getElem? (i := 24) rfl)
theorem q_500 : (.instanceMethod yX8_hisses : Cond) ∈ ALL := AL_in20 _ (List.mem_of_getElem? (i := 0) rfl)
theorem q_501 : (.instanceMethod yX8_image : Cond) ∈ ALL := AL_in20 _ (List.mem_of_getElem? (i := 1) rfl)
theorem q_502 : (.instanceMethod yX8_init : Cond) ∈ ALL := AL_in20 _ (List.mem_of_getElem? (i := 2) rfl)
theorem q_503 : (.instanceMethod yX8_isOut : Cond) ∈ ALL := AL_in20 _ (List.mem_of_getElem? (i := 3) rfl)
theorem q_504 : (.instanceMethod yX8_isPickedAt : Cond) ∈ ALL := AL_in20 _ (List.mem_of_getElem? (i := 4) rfl)
theorem q_505 : (.instanceMethod yX8_isPitch : Cond) ∈ ALL := AL_in20 _ (List.mem_of_getElem? (i := 5) rfl)
theorem q_506 : (.instanceMethod yX8_isRunner : Cond) ∈ ALL := AL_in20 _ (List.mem_of_getElem? (i := 6) rfl)
theorem q_507 : (.instanceMethod yX8_isSafe : Cond) ∈ ALL := AL_in20 _ (List.mem_of_getElem? (i := 7) rfl)
theorem q_508 : (.instanceMethod yX8_isSo : Cond) ∈ ALL := AL_in20 _ (List.mem_of_getElem? (i := 8) rfl)
theorem q_509 : (.instanceMethod yX8_judge : Cond) ∈ ALL := AL_in20 _ (List.mem_of_getElem? (i := 9) rfl)
theorem q_510 : (.instanceMethod yX8_law : Cond) ∈ ALL := AL_in20 _ (List.mem_of_getElem? (i := 10) rfl)
theorem q_511 : (.instanceMethod yX8_lays : Cond) ∈ ALL := AL_in20 _ (List.mem_of_getElem? (i := 11) rfl)
theorem q_512 : (.instanceMethod yX8_leadFor : Cond) ∈ ALL := AL_in20 _ (List.mem_of_getElem? (i := 12) rfl)
theorem q_513 : (.instanceMethod yX8_leads : Cond) ∈ ALL := AL_in20 _ (List.mem_of_getElem? (i := 13) rfl)
theorem q_514 : (.instanceMethod yX8_lets : Cond) ∈ ALL := AL_in20 _ (List.mem_of_getElem? (i := 14) rfl)
theorem q_515 : (.instanceMethod yX8_look : Cond) ∈ ALL := AL_in20 _ (List.mem_of_getElem? (i := 15) rfl)
theorem q_516 : (.instanceMethod yX8_loose : Cond) ∈ ALL := AL_in20 _ (List.mem_of_getElem? (i := 16) rfl)
theorem q_517 : (.instanceMethod yX8_margin : Cond) ∈ ALL := AL_in20 _ (List.mem_of_getElem? (i := 17) rfl)
theorem q_518 : (.instanceMethod yX8_marginOf : Cond) ∈ ALL := AL_in20 _ (List.mem_of_getElem? (i := 18) rfl)
theorem q_519 : (.instanceMethod yX8_more : Cond) ∈ ALL := AL_in20 _ (List.mem_of_getElem? (i := 19) rfl)
theorem q_520 : (.instanceMethod yX8_move : Cond) ∈ ALL := AL_in20 _ (List.mem_of_getElem? (i := 20) rfl)
theorem q_521 : (.instanceMethod yX8_nameOf : Cond) ∈ ALL := AL_in20 _ (List.mem_of_getElem? (i := 21) rfl)
theorem q_522 : (.instanceMethod yX8_notMoved : Cond) ∈ ALL := AL_in20 _ (List.mem_of_getElem? (i := 22) rfl)
theorem q_523 : (.instanceMethod yX8_notThere : Cond) ∈ ALL := AL_in20 _ (List.mem_of_getElem? (i := 23) rfl)
theorem q_524 : (.instanceMethod yX8_number : Cond) ∈ ALL := AL_in20 _ (List.mem_of_getElem? (i := 24) rfl)
theorem q_525 : (.instanceMethod yX8_odds : Cond) ∈ ALL := AL_in21 _ (List.mem_of_getElem? (i := 0) rfl)
theorem q_526 : (.instanceMethod yX8_of : Cond) ∈ ALL := AL_in21 _ (List.mem_of_getElem? (i := 1) rfl)
theorem q_527 : (.instanceMethod yX8_one : Cond) ∈ ALL := AL_in21 _ (List.mem_of_getElem? (i := 2) rfl)
theorem q_528 : (.instanceMethod yX8_opens : Cond) ∈ ALL := AL_in21 _ (List.mem_of_getElem? (i := 3) rfl)
theorem q_529 : (.instanceMethod yX8_over : Cond) ∈ ALL := AL_in21 _ (List.mem_of_getElem? (i := 4) rfl)
theorem q_530 : (.instanceMethod yX8_partsBy : Cond) ∈ ALL := AL_in21 _ (List.mem_of_getElem? (i := 5) rfl)
theorem q_531 : (.instanceMethod yX8_pitch : Cond) ∈ ALL := AL_in21 _ (List.mem_of_getElem? (i := 6) rfl)
theorem q_532 : (.instanceMethod yX8_pitchIs : Cond) ∈ ALL := AL_in21 _ (List.mem_of_getElem? (i := 7) rfl)
theorem q_533 : (.instanceMethod yX8_plainAir : Cond) ∈ ALL := AL_in21 _ (List.mem_of_getElem? (i := 8) rfl)
theorem q_534 : (.instanceMethod yX8_plainDrops : Cond) ∈ ALL := AL_in21 _ (List.mem_of_getElem? (i := 9) rfl)
theorem q_535 : (.instanceMethod yX8_plainHisses : Cond) ∈ ALL := AL_in21 _ (List.mem_of_getElem? (i := 10) rfl)
theorem q_536 : (.instanceMethod yX8_plainParts : Cond) ∈ ALL := AL_in21 _ (List.mem_of_getElem? (i := 11) rfl)
theorem q_537 : (.instanceMethod yX8_plainThuds : Cond) ∈ ALL := AL_in21 _ (List.mem_of_getElem? (i := 12) rfl)
theorem q_538 : (.instanceMethod yX8_put : Cond) ∈ ALL := AL_in21 _ (List.mem_of_getElem? (i := 13) rfl)
theorem q_539 : (.instanceMethod yX8_restore : Cond) ∈ ALL := AL_in21 _ (List.mem_of_getElem? (i := 14) rfl)
theorem q_540 : (.instanceMethod yX8_runFrom : Cond) ∈ ALL := AL_in21 _ (List.mem_of_getElem? (i := 15) rfl)
theorem q_541 : (.instanceMethod yX8_runner : Cond) ∈ ALL := AL_in21 _ (List.mem_of_getElem? (i := 16) rfl)
theorem q_542 : (.instanceMethod yX8_runnerIs : Cond) ∈ ALL := AL_in21 _ (List.mem_of_getElem? (i := 17) rfl)
theorem q_543 : (.instanceMethod yX8_seed : Cond) ∈ ALL := AL_in21 _ (List.mem_of_getElem? (i := 18) rfl)
theorem q_544 : (.instanceMethod yX8_set : Cond) ∈ ALL := AL_in21 _ (List.mem_of_getElem? (i := 19) rfl)
theorem q_545 : (.instanceMethod yX8_sheet : Cond) ∈ ALL := AL_in21 _ (List.mem_of_getElem? (i := 20) rfl)
theorem q_546 : (.instanceMethod yX8_steal : Cond) ∈ ALL := AL_in21 _ (List.mem_of_getElem? (i := 21) rfl)
theorem q_547 : (.instanceMethod yX8_sum : Cond) ∈ ALL := AL_in21 _ (List.mem_of_getElem? (i := 22) rfl)
theorem q_548 : (.instanceMethod yX8_surely : Cond) ∈ ALL := AL_in21 _ (List.mem_of_getElem? (i := 23) rfl)
theorem q_549 : (.instanceMethod yX8_tell : Cond) ∈ ALL := AL_in21 _ (List.mem_of_getElem? (i := 24) rfl)
theorem q_550 : (.instanceMethod yX8_text : Cond) ∈ ALL := AL_in22 _ (List.mem_of_getElem? (i := 0) rfl)
theorem q_551 : (.instanceMethod yX8_thuds : Cond) ∈ ALL := AL_in22 _ (List.mem_of_getElem? (i := 1) rfl)
theorem q_552 : (.instanceMethod yX8_times : Cond) ∈ ALL := AL_in22 _ (List.mem_of_getElem? (i := 2) rfl)
theorem q_553 : (.instanceMethod yX8_told : Cond) ∈ ALL := AL_in22 _ (List.mem_of_getElem? (i := 3) rfl)
theorem q_554 : (.instanceMethod yX8_untell : Cond) ∈ ALL := AL_in22 _ (List.mem_of_getElem? (i := 4) rfl)
theorem q_555 : (.instanceMethod yX8_voice : Cond) ∈ ALL := AL_in22 _ (List.mem_of_getElem? (i := 5) rfl)
theorem q_556 : (.instanceMethod yX8_weighs : Cond) ∈ ALL := AL_in22 _ (List.mem_of_getElem? (i := 6) rfl)
theorem q_557 : (.instanceMethod yX8_weights : Cond) ∈ ALL := AL_in22 _ (List.mem_of_getElem? (i := 7) rfl)
theorem q_558 : (.instanceMethod yX8_weightsBy : Cond) ∈ ALL := AL_in22 _ (List.mem_of_getElem? (i := 8) rfl)
theorem q_559 : (.instanceMethod yX8_works : Cond) ∈ ALL := AL_in22 _ (List.mem_of_getElem? (i := 9) rfl)
theorem q_560 : (.instantiable RX0 5 : Cond) ∈ ALL := AL_in22 _ (List.mem_of_getElem? (i := 10) rfl)
theorem q_561 : (.instantiable RX1 7 : Cond) ∈ ALL := AL_in22 _ (List.mem_of_getElem? (i := 11) rfl)
theorem q_562 : (.instantiable RX2 6 : Cond) ∈ ALL := AL_in22 _ (List.mem_of_getElem? (i := 12) rfl)
theorem q_563 : (.instantiable RX3 15 : Cond) ∈ ALL := AL_in22 _ (List.mem_of_getElem? (i := 13) rfl)
theorem q_564 : (.instantiable RX4 3 : Cond) ∈ ALL := AL_in22 _ (List.mem_of_getElem? (i := 14) rfl)
theorem q_565 : (.instantiable RX5 4 : Cond) ∈ ALL := AL_in22 _ (List.mem_of_getElem? (i := 15) rfl)
theorem q_566 : (.instantiable RX6 6 : Cond) ∈ ALL := AL_in22 _ (List.mem_of_getElem? (i := 16) rfl)
theorem q_567 : (.instantiable RX7 7 : Cond) ∈ ALL := AL_in22 _ (List.mem_of_getElem? (i := 17) rfl)
theorem q_568 : (.instantiable RX8 19 : Cond) ∈ ALL := AL_in22 _ (List.mem_of_getElem? (i := 18) rfl)
theorem q_569 : (.methodLink RX0 28 arraycopyName : Cond) ∈ ALL := AL_in22 _ (List.mem_of_getElem? (i := 19) rfl)
theorem q_570 : (.methodLink RX0 3 objectInit : Cond) ∈ ALL := AL_in22 _ (List.mem_of_getElem? (i := 20) rfl)
theorem q_571 : (.methodLink RX1 3 objectInit : Cond) ∈ ALL := AL_in22 _ (List.mem_of_getElem? (i := 21) rfl)
theorem q_572 : (.methodLink RX1 45 yX1_begins : Cond) ∈ ALL := AL_in22 _ (List.mem_of_getElem? (i := 22) rfl)
theorem q_573 : (.methodLink RX1 49 yX1_continues : Cond) ∈ ALL := AL_in22 _ (List.mem_of_getElem? (i := 23) rfl)
theorem q_574 : (.methodLink RX1 53 yX1_settle : Cond) ∈ ALL := AL_in22 _ (List.mem_of_getElem? (i := 24) rfl)
theorem q_575 : (.methodLink RX1 57 yX1_park : Cond) ∈ ALL := AL_in23 _ (List.mem_of_getElem? (i := 0) rfl)
theorem q_576 : (.methodLink RX1 60 yX1_isNumeral : Cond) ∈ ALL := AL_in23 _ (List.mem_of_getElem? (i := 1) rfl)
theorem q_577 : (.methodLink RX1 63 yX5_add : Cond) ∈ ALL := AL_in23 _ (List.mem_of_getElem? (i := 2) rfl)
theorem q_578 : (.methodLink RX1 70 yX1_lengthens : Cond) ∈ ALL := AL_in23 _ (List.mem_of_getElem? (i := 3) rfl)
theorem q_579 : (.methodLink RX1 73 yX1_closes : Cond) ∈ ALL := AL_in23 _ (List.mem_of_getElem? (i := 4) rfl)
theorem q_580 : (.methodLink RX1 77 yX1_rankOf : Cond) ∈ ALL := AL_in23 _ (List.mem_of_getElem? (i := 5) rfl)
theorem q_581 : (.methodLink RX2 3 objectInit : Cond) ∈ ALL := AL_in23 _ (List.mem_of_getElem? (i := 6) rfl)
theorem q_582 : (.methodLink RX2 31 arraycopyName : Cond) ∈ ALL := AL_in23 _ (List.mem_of_getElem? (i := 7) rfl)
theorem q_583 : (.methodLink RX3 107 yX3_airByKind : Cond) ∈ ALL := AL_in23 _ (List.mem_of_getElem? (i := 8) rfl)
theorem q_584 : (.methodLink RX3 111 yX3_gives : Cond) ∈ ALL := AL_in23 _ (List.mem_of_getElem? (i := 9) rfl)
theorem q_585 : (.methodLink RX3 115 yX2_backFrom : Cond) ∈ ALL := AL_in23 _ (List.mem_of_getElem? (i := 10) rfl)
theorem q_586 : (.methodLink RX3 119 yX3_air : Cond) ∈ ALL := AL_in23 _ (List.mem_of_getElem? (i := 11) rfl)
theorem q_587 : (.methodLink RX3 122 yX2_runFrom : Cond) ∈ ALL := AL_in23 _ (List.mem_of_getElem? (i := 12) rfl)
theorem q_588 : (.methodLink RX3 125 yX3_marginFrom : Cond) ∈ ALL := AL_in23 _ (List.mem_of_getElem? (i := 13) rfl)
theorem q_589 : (.methodLink RX3 128 yX3_gainOf : Cond) ∈ ALL := AL_in23 _ (List.mem_of_getElem? (i := 14) rfl)
theorem q_590 : (.methodLink RX3 137 yX3_gainFrom : Cond) ∈ ALL := AL_in23 _ (List.mem_of_getElem? (i := 15) rfl)
theorem q_591 : (.methodLink RX3 143 yX3_oneMore : Cond) ∈ ALL := AL_in23 _ (List.mem_of_getElem? (i := 16) rfl)
theorem q_592 : (.methodLink RX3 146 yX3_isOut : Cond) ∈ ALL := AL_in23 _ (List.mem_of_getElem? (i := 17) rfl)
theorem q_593 : (.methodLink RX3 157 yX0_allWeights : Cond) ∈ ALL := AL_in23 _ (List.mem_of_getElem? (i := 18) rfl)
theorem q_594 : (.methodLink RX3 162 yX3_draw : Cond) ∈ ALL := AL_in23 _ (List.mem_of_getElem? (i := 19) rfl)
theorem q_595 : (.methodLink RX3 165 yX0_byWeight : Cond) ∈ ALL := AL_in23 _ (List.mem_of_getElem? (i := 20) rfl)
theorem q_596 : (.methodLink RX3 168 yX3_isPicked : Cond) ∈ ALL := AL_in23 _ (List.mem_of_getElem? (i := 21) rfl)
theorem q_597 : (.methodLink RX3 172 yX3_goes : Cond) ∈ ALL := AL_in23 _ (List.mem_of_getElem? (i := 22) rfl)
theorem q_598 : (.methodLink RX3 175 Lib.Math.min.name : Cond) ∈ ALL := AL_in23 _ (List.mem_of_getElem? (i := 23) rfl)
theorem q_599 : (.methodLink RX3 180 Lib.Math.max.name : Cond) ∈ ALL := AL_in23 _ (List.mem_of_getElem? (i := 24) rfl)
theorem q_600 : (.methodLink RX3 3 objectInit : Cond) ∈ ALL := AL_in24 _ (List.mem_of_getElem? (i := 0) rfl)
theorem q_601 : (.methodLink RX3 71 yX0_takes : Cond) ∈ ALL := AL_in24 _ (List.mem_of_getElem? (i := 1) rfl)
theorem q_602 : (.methodLink RX3 75 yX2_takes : Cond) ∈ ALL := AL_in24 _ (List.mem_of_getElem? (i := 2) rfl)
theorem q_603 : (.methodLink RX3 78 yX5_takes : Cond) ∈ ALL := AL_in24 _ (List.mem_of_getElem? (i := 3) rfl)
theorem q_604 : (.methodLink RX3 81 arraycopyName : Cond) ∈ ALL := AL_in24 _ (List.mem_of_getElem? (i := 4) rfl)
theorem q_605 : (.methodLink RX3 91 yX5_work : Cond) ∈ ALL := AL_in24 _ (List.mem_of_getElem? (i := 5) rfl)
theorem q_606 : (.methodLink RX3 95 yX3_held : Cond) ∈ ALL := AL_in24 _ (List.mem_of_getElem? (i := 6) rfl)
theorem q_607 : (.methodLink RX4 22 arraycopyName : Cond) ∈ ALL := AL_in24 _ (List.mem_of_getElem? (i := 7) rfl)
theorem q_608 : (.methodLink RX4 3 objectInit : Cond) ∈ ALL := AL_in24 _ (List.mem_of_getElem? (i := 8) rfl)
theorem q_609 : (.methodLink RX5 26 arraycopyName : Cond) ∈ ALL := AL_in24 _ (List.mem_of_getElem? (i := 9) rfl)
theorem q_610 : (.methodLink RX5 3 objectInit : Cond) ∈ ALL := AL_in24 _ (List.mem_of_getElem? (i := 10) rfl)
theorem q_611 : (.methodLink RX5 32 yX5_named : Cond) ∈ ALL := AL_in24 _ (List.mem_of_getElem? (i := 11) rfl)
theorem q_612 : (.methodLink RX5 36 yX5_joined : Cond) ∈ ALL := AL_in24 _ (List.mem_of_getElem? (i := 12) rfl)
theorem q_613 : (.methodLink RX6 3 objectInit : Cond) ∈ ALL := AL_in24 _ (List.mem_of_getElem? (i := 13) rfl)
theorem q_614 : (.methodLink RX6 32 yX6_say : Cond) ∈ ALL := AL_in24 _ (List.mem_of_getElem? (i := 14) rfl)
theorem q_615 : (.methodLink RX6 36 yX6_bodyOf : Cond) ∈ ALL := AL_in24 _ (List.mem_of_getElem? (i := 15) rfl)
theorem q_616 : (.methodLink RX6 40 yX6_begin : Cond) ∈ ALL := AL_in24 _ (List.mem_of_getElem? (i := 16) rfl)
theorem q_617 : (.methodLink RX6 44 yX6_parts : Cond) ∈ ALL := AL_in24 _ (List.mem_of_getElem? (i := 17) rfl)
theorem q_618 : (.methodLink RX6 48 yX6_partsOfCurve : Cond) ∈ ALL := AL_in24 _ (List.mem_of_getElem? (i := 18) rfl)
theorem q_619 : (.methodLink RX7 1 objectInit : Cond) ∈ ALL := AL_in24 _ (List.mem_of_getElem? (i := 19) rfl)
theorem q_620 : (.methodLink RX7 108 yX2_add : Cond) ∈ ALL := AL_in24 _ (List.mem_of_getElem? (i := 20) rfl)
theorem q_621 : (.methodLink RX7 109 yX7_isRunner : Cond) ∈ ALL := AL_in24 _ (List.mem_of_getElem? (i := 21) rfl)
theorem q_622 : (.methodLink RX7 127 yX2_runFrom : Cond) ∈ ALL := AL_in24 _ (List.mem_of_getElem? (i := 22) rfl)
theorem q_623 : (.methodLink RX7 130 yX3_isPicked : Cond) ∈ ALL := AL_in24 _ (List.mem_of_getElem? (i := 23) rfl)
theorem q_624 : (.methodLink RX7 133 yX7_isFeet : Cond) ∈ ALL := AL_in24 _ (List.mem_of_getElem? (i := 24) rfl)
theorem q_625 : (.methodLink RX7 136 yX7_mostOfSetting : Cond) ∈ ALL := AL_in25 _ (List.mem_of_getElem? (i := 0) rfl)
theorem q_626 : (.methodLink RX7 139 yX3_change : Cond) ∈ ALL := AL_in25 _ (List.mem_of_getElem? (i := 1) rfl)
theorem q_627 : (.methodLink RX7 142 yX3_goes : Cond) ∈ ALL := AL_in25 _ (List.mem_of_getElem? (i := 2) rfl)
theorem q_628 : (.methodLink RX7 145 yX3_isOut : Cond) ∈ ALL := AL_in25 _ (List.mem_of_getElem? (i := 3) rfl)
theorem q_629 : (.methodLink RX7 156 yX7_isUse : Cond) ∈ ALL := AL_in25 _ (List.mem_of_getElem? (i := 4) rfl)
theorem q_630 : (.methodLink RX7 159 yX1_faultOf : Cond) ∈ ALL := AL_in25 _ (List.mem_of_getElem? (i := 5) rfl)
theorem q_631 : (.methodLink RX7 163 yX3_textOf : Cond) ∈ ALL := AL_in25 _ (List.mem_of_getElem? (i := 6) rfl)
theorem q_632 : (.methodLink RX7 171 yX5_takes : Cond) ∈ ALL := AL_in25 _ (List.mem_of_getElem? (i := 7) rfl)
theorem q_633 : (.methodLink RX7 181 yX3_gives : Cond) ∈ ALL := AL_in25 _ (List.mem_of_getElem? (i := 8) rfl)
theorem q_634 : (.methodLink RX7 185 yX3_marginFrom : Cond) ∈ ALL := AL_in25 _ (List.mem_of_getElem? (i := 9) rfl)
theorem q_635 : (.methodLink RX7 189 yX3_weighedGains : Cond) ∈ ALL := AL_in25 _ (List.mem_of_getElem? (i := 10) rfl)
theorem q_636 : (.methodLink RX7 192 yX0_allWeights : Cond) ∈ ALL := AL_in25 _ (List.mem_of_getElem? (i := 11) rfl)
theorem q_637 : (.methodLink RX7 196 yX3_safeWeights : Cond) ∈ ALL := AL_in25 _ (List.mem_of_getElem? (i := 12) rfl)
theorem q_638 : (.methodLink RX7 199 yX7_partOf : Cond) ∈ ALL := AL_in25 _ (List.mem_of_getElem? (i := 13) rfl)
theorem q_639 : (.methodLink RX7 202 yX3_gainFrom : Cond) ∈ ALL := AL_in25 _ (List.mem_of_getElem? (i := 14) rfl)
theorem q_640 : (.methodLink RX7 205 Lib.Math.min.name : Cond) ∈ ALL := AL_in25 _ (List.mem_of_getElem? (i := 15) rfl)
theorem q_641 : (.methodLink RX7 210 Lib.Math.max.name : Cond) ∈ ALL := AL_in25 _ (List.mem_of_getElem? (i := 16) rfl)
theorem q_642 : (.methodLink RX7 213 yX3_safePitches : Cond) ∈ ALL := AL_in25 _ (List.mem_of_getElem? (i := 17) rfl)
theorem q_643 : (.methodLink RX7 216 yJ6_bitCount_0f7a4 : Cond) ∈ ALL := AL_in25 _ (List.mem_of_getElem? (i := 18) rfl)
theorem q_644 : (.methodLink RX7 221 yX7_isSheet : Cond) ∈ ALL := AL_in25 _ (List.mem_of_getElem? (i := 19) rfl)
theorem q_645 : (.methodLink RX7 224 yX4_isMissing : Cond) ∈ ALL := AL_in25 _ (List.mem_of_getElem? (i := 20) rfl)
theorem q_646 : (.methodLink RX7 227 yX7_fitsFrom : Cond) ∈ ALL := AL_in25 _ (List.mem_of_getElem? (i := 21) rfl)
theorem q_647 : (.methodLink RX7 230 yX3_isSafeByDraws : Cond) ∈ ALL := AL_in25 _ (List.mem_of_getElem? (i := 22) rfl)
theorem q_648 : (.methodLink RX7 237 yX6_speak : Cond) ∈ ALL := AL_in25 _ (List.mem_of_getElem? (i := 23) rfl)
theorem q_649 : (.methodLink RX7 250 yX4_lay : Cond) ∈ ALL := AL_in25 _ (List.mem_of_getElem? (i := 24) rfl)
theorem q_650 : (.methodLink RX7 254 yX4_standsAt : Cond) ∈ ALL := AL_in26 _ (List.mem_of_getElem? (i := 0) rfl)
theorem q_651 : (.methodLink RX7 257 yX4_write : Cond) ∈ ALL := AL_in26 _ (List.mem_of_getElem? (i := 1) rfl)
theorem q_652 : (.methodLink RX7 263 yX4_copy : Cond) ∈ ALL := AL_in26 _ (List.mem_of_getElem? (i := 2) rfl)
theorem q_653 : (.methodLink RX7 269 yX4_read : Cond) ∈ ALL := AL_in26 _ (List.mem_of_getElem? (i := 3) rfl)
theorem q_654 : (.methodLink RX7 272 yX3_takes : Cond) ∈ ALL := AL_in26 _ (List.mem_of_getElem? (i := 4) rfl)
theorem q_655 : (.methodLink RX7 303 Lib.Math.abs.name : Cond) ∈ ALL := AL_in26 _ (List.mem_of_getElem? (i := 5) rfl)
theorem q_656 : (.methodLink RX7 306 yX7_commonOf : Cond) ∈ ALL := AL_in26 _ (List.mem_of_getElem? (i := 6) rfl)
theorem q_657 : (.methodLink RX7 48 yX7_isKindAndM : Cond) ∈ ALL := AL_in26 _ (List.mem_of_getElem? (i := 7) rfl)
theorem q_658 : (.methodLink RX7 52 yX7_isDigit : Cond) ∈ ALL := AL_in26 _ (List.mem_of_getElem? (i := 8) rfl)
theorem q_659 : (.methodLink RX7 55 yX7_error : Cond) ∈ ALL := AL_in26 _ (List.mem_of_getElem? (i := 9) rfl)
theorem q_660 : (.methodLink RX7 68 yX0_add : Cond) ∈ ALL := AL_in26 _ (List.mem_of_getElem? (i := 10) rfl)
theorem q_661 : (.methodLink RX7 72 yX7_isPitch : Cond) ∈ ALL := AL_in26 _ (List.mem_of_getElem? (i := 11) rfl)
theorem q_662 : (.methodLink RX7 87 yX3_air : Cond) ∈ ALL := AL_in26 _ (List.mem_of_getElem? (i := 12) rfl)
theorem q_663 : (.methodLink RX7 90 yX3_costs : Cond) ∈ ALL := AL_in26 _ (List.mem_of_getElem? (i := 13) rfl)
theorem q_664 : (.methodLink RX7 93 yX7_within : Cond) ∈ ALL := AL_in26 _ (List.mem_of_getElem? (i := 14) rfl)
theorem q_665 : (.methodLink RX7 97 yX7_isUnder : Cond) ∈ ALL := AL_in26 _ (List.mem_of_getElem? (i := 15) rfl)
theorem q_666 : (.methodLink RX8 103 yX8_isLead : Cond) ∈ ALL := AL_in26 _ (List.mem_of_getElem? (i := 16) rfl)
theorem q_667 : (.methodLink RX8 106 yX8_held : Cond) ∈ ALL := AL_in26 _ (List.mem_of_getElem? (i := 17) rfl)
theorem q_668 : (.methodLink RX8 109 yX8_more : Cond) ∈ ALL := AL_in26 _ (List.mem_of_getElem? (i := 18) rfl)
theorem q_669 : (.methodLink RX8 113 yX8_isSafe : Cond) ∈ ALL := AL_in26 _ (List.mem_of_getElem? (i := 19) rfl)
theorem q_670 : (.methodLink RX8 116 yX8_gainOf : Cond) ∈ ALL := AL_in26 _ (List.mem_of_getElem? (i := 20) rfl)
theorem q_671 : (.methodLink RX8 119 yX8_isOut : Cond) ∈ ALL := AL_in26 _ (List.mem_of_getElem? (i := 21) rfl)
theorem q_672 : (.methodLink RX8 122 yX8_goes : Cond) ∈ ALL := AL_in26 _ (List.mem_of_getElem? (i := 22) rfl)
theorem q_673 : (.methodLink RX8 137 yX8_look : Cond) ∈ ALL := AL_in26 _ (List.mem_of_getElem? (i := 23) rfl)
theorem q_674 : (.methodLink RX8 145 yX8_lays : Cond) ∈ ALL := AL_in26 _ (List.mem_of_getElem? (i := 24) rfl)
theorem q_675 : (.methodLink RX8 152 yX8_one : Cond) ∈ ALL := AL_in27 _ (List.mem_of_getElem? (i := 0) rfl)
theorem q_676 : (.methodLink RX8 155 yX8_any : Cond) ∈ ALL := AL_in27 _ (List.mem_of_getElem? (i := 1) rfl)
theorem q_677 : (.methodLink RX8 158 yX8_nameOf : Cond) ∈ ALL := AL_in27 _ (List.mem_of_getElem? (i := 2) rfl)
theorem q_678 : (.methodLink RX8 161 yX8_opens : Cond) ∈ ALL := AL_in27 _ (List.mem_of_getElem? (i := 3) rfl)
theorem q_679 : (.methodLink RX8 164 yX8_number : Cond) ∈ ALL := AL_in27 _ (List.mem_of_getElem? (i := 4) rfl)
theorem q_680 : (.methodLink RX8 167 yX8_times : Cond) ∈ ALL := AL_in27 _ (List.mem_of_getElem? (i := 5) rfl)
theorem q_681 : (.methodLink RX8 170 yX8_sum : Cond) ∈ ALL := AL_in27 _ (List.mem_of_getElem? (i := 6) rfl)
theorem q_682 : (.methodLink RX8 173 yX8_compares : Cond) ∈ ALL := AL_in27 _ (List.mem_of_getElem? (i := 7) rfl)
theorem q_683 : (.methodLink RX8 176 yX8_all : Cond) ∈ ALL := AL_in27 _ (List.mem_of_getElem? (i := 8) rfl)
theorem q_684 : (.methodLink RX8 179 yX8_twoOf : Cond) ∈ ALL := AL_in27 _ (List.mem_of_getElem? (i := 9) rfl)
theorem q_685 : (.methodLink RX8 182 yX8_works : Cond) ∈ ALL := AL_in27 _ (List.mem_of_getElem? (i := 10) rfl)
theorem q_686 : (.methodLink RX8 186 yX8_gainsFrom : Cond) ∈ ALL := AL_in27 _ (List.mem_of_getElem? (i := 11) rfl)
theorem q_687 : (.methodLink RX8 189 yX8_weights : Cond) ∈ ALL := AL_in27 _ (List.mem_of_getElem? (i := 12) rfl)
theorem q_688 : (.methodLink RX8 193 yX8_partOf : Cond) ∈ ALL := AL_in27 _ (List.mem_of_getElem? (i := 13) rfl)
theorem q_689 : (.methodLink RX8 196 yX8_lesser : Cond) ∈ ALL := AL_in27 _ (List.mem_of_getElem? (i := 14) rfl)
theorem q_690 : (.methodLink RX8 199 yX8_greater : Cond) ∈ ALL := AL_in27 _ (List.mem_of_getElem? (i := 15) rfl)
theorem q_691 : (.methodLink RX8 202 yX8_isSheet : Cond) ∈ ALL := AL_in27 _ (List.mem_of_getElem? (i := 16) rfl)
theorem q_692 : (.methodLink RX8 205 yX8_isSo : Cond) ∈ ALL := AL_in27 _ (List.mem_of_getElem? (i := 17) rfl)
theorem q_693 : (.methodLink RX8 209 yX8_draw : Cond) ∈ ALL := AL_in27 _ (List.mem_of_getElem? (i := 18) rfl)
theorem q_694 : (.methodLink RX8 212 yX8_drawn : Cond) ∈ ALL := AL_in27 _ (List.mem_of_getElem? (i := 19) rfl)
theorem q_695 : (.methodLink RX8 219 yX8_begins : Cond) ∈ ALL := AL_in27 _ (List.mem_of_getElem? (i := 20) rfl)
theorem q_696 : (.methodLink RX8 222 yX8_plainHisses : Cond) ∈ ALL := AL_in27 _ (List.mem_of_getElem? (i := 21) rfl)
theorem q_697 : (.methodLink RX8 225 yX8_curveHisses : Cond) ∈ ALL := AL_in27 _ (List.mem_of_getElem? (i := 22) rfl)
theorem q_698 : (.methodLink RX8 228 yX8_hisses : Cond) ∈ ALL := AL_in27 _ (List.mem_of_getElem? (i := 23) rfl)
theorem q_699 : (.methodLink RX8 231 yX8_plainDrops : Cond) ∈ ALL := AL_in27 _ (List.mem_of_getElem? (i := 24) rfl)
theorem q_700 : (.methodLink RX8 234 yX8_hardDrops : Cond) ∈ ALL := AL_in28 _ (List.mem_of_getElem? (i := 0) rfl)
theorem q_701 : (.methodLink RX8 237 yX8_drops : Cond) ∈ ALL := AL_in28 _ (List.mem_of_getElem? (i := 1) rfl)
theorem q_702 : (.methodLink RX8 240 yX8_plainThuds : Cond) ∈ ALL := AL_in28 _ (List.mem_of_getElem? (i := 2) rfl)
theorem q_703 : (.methodLink RX8 246 yX8_plainParts : Cond) ∈ ALL := AL_in28 _ (List.mem_of_getElem? (i := 3) rfl)
theorem q_704 : (.methodLink RX8 249 yX8_thuds : Cond) ∈ ALL := AL_in28 _ (List.mem_of_getElem? (i := 4) rfl)
theorem q_705 : (.methodLink RX8 252 yX8_partsBy : Cond) ∈ ALL := AL_in28 _ (List.mem_of_getElem? (i := 5) rfl)
theorem q_706 : (.methodLink RX8 256 yX8_notThere : Cond) ∈ ALL := AL_in28 _ (List.mem_of_getElem? (i := 6) rfl)
theorem q_707 : (.methodLink RX8 259 yX8_notMoved : Cond) ∈ ALL := AL_in28 _ (List.mem_of_getElem? (i := 7) rfl)
theorem q_708 : (.methodLink RX8 263 yX8_copyAll : Cond) ∈ ALL := AL_in28 _ (List.mem_of_getElem? (i := 8) rfl)
theorem q_709 : (.methodLink RX8 3 objectInit : Cond) ∈ ALL := AL_in28 _ (List.mem_of_getElem? (i := 9) rfl)
theorem q_710 : (.methodLink RX8 44 yX8_in : Cond) ∈ ALL := AL_in28 _ (List.mem_of_getElem? (i := 10) rfl)
theorem q_711 : (.methodLink RX8 48 yX8_of : Cond) ∈ ALL := AL_in28 _ (List.mem_of_getElem? (i := 11) rfl)
theorem q_712 : (.methodLink RX8 52 yX8_plainAir : Cond) ∈ ALL := AL_in28 _ (List.mem_of_getElem? (i := 12) rfl)
theorem q_713 : (.methodLink RX8 56 yX8_gives : Cond) ∈ ALL := AL_in28 _ (List.mem_of_getElem? (i := 13) rfl)
theorem q_714 : (.methodLink RX8 60 yX8_about : Cond) ∈ ALL := AL_in28 _ (List.mem_of_getElem? (i := 14) rfl)
theorem q_715 : (.methodLink RX8 63 yX8_airOf : Cond) ∈ ALL := AL_in28 _ (List.mem_of_getElem? (i := 15) rfl)
theorem q_716 : (.methodLink RX8 66 yX8_runFrom : Cond) ∈ ALL := AL_in28 _ (List.mem_of_getElem? (i := 16) rfl)
theorem q_717 : (.methodLink RX8 69 yX8_marginOf : Cond) ∈ ALL := AL_in28 _ (List.mem_of_getElem? (i := 17) rfl)
theorem q_718 : (.methodLink RX8 73 yX8_isKm : Cond) ∈ ALL := AL_in28 _ (List.mem_of_getElem? (i := 18) rfl)
theorem q_719 : (.methodLink RX8 78 yX8_error : Cond) ∈ ALL := AL_in28 _ (List.mem_of_getElem? (i := 19) rfl)
theorem q_720 : (.methodLink RX8 82 yX8_isPitch : Cond) ∈ ALL := AL_in28 _ (List.mem_of_getElem? (i := 20) rfl)
theorem q_721 : (.methodLink RX8 85 yX8_costsOf : Cond) ∈ ALL := AL_in28 _ (List.mem_of_getElem? (i := 21) rfl)
theorem q_722 : (.methodLink RX8 88 yX8_becomes : Cond) ∈ ALL := AL_in28 _ (List.mem_of_getElem? (i := 22) rfl)
theorem q_723 : (.methodLink RX8 92 yX8_lets : Cond) ∈ ALL := AL_in28 _ (List.mem_of_getElem? (i := 23) rfl)
theorem q_724 : (.methodLink RX8 96 yX8_isRunner : Cond) ∈ ALL := AL_in28 _ (List.mem_of_getElem? (i := 24) rfl)
theorem q_725 : (.methodLink RX8 99 yX8_isPickedAt : Cond) ∈ ALL := AL_in29 _ (List.mem_of_getElem? (i := 0) rfl)
theorem q_726 : (.native arraycopyName : Cond) ∈ ALL := AL_in29 _ (List.mem_of_getElem? (i := 1) rfl)
theorem q_727 : (.selects RX0 yX0_add yX0_add : Cond) ∈ ALL := AL_in29 _ (List.mem_of_getElem? (i := 2) rfl)
theorem q_728 : (.selects RX0 yX0_allWeights yX0_allWeights : Cond) ∈ ALL := AL_in29 _ (List.mem_of_getElem? (i := 3) rfl)
theorem q_729 : (.selects RX0 yX0_byWeight yX0_byWeight : Cond) ∈ ALL := AL_in29 _ (List.mem_of_getElem? (i := 4) rfl)
theorem q_730 : (.selects RX0 yX0_takes yX0_takes : Cond) ∈ ALL := AL_in29 _ (List.mem_of_getElem? (i := 5) rfl)
theorem q_731 : (.selects RX1 yX1_begins yX1_begins : Cond) ∈ ALL := AL_in29 _ (List.mem_of_getElem? (i := 6) rfl)
theorem q_732 : (.selects RX1 yX1_closes yX1_closes : Cond) ∈ ALL := AL_in29 _ (List.mem_of_getElem? (i := 7) rfl)
theorem q_733 : (.selects RX1 yX1_continues yX1_continues : Cond) ∈ ALL := AL_in29 _ (List.mem_of_getElem? (i := 8) rfl)
theorem q_734 : (.selects RX1 yX1_faultOf yX1_faultOf : Cond) ∈ ALL := AL_in29 _ (List.mem_of_getElem? (i := 9) rfl)
theorem q_735 : (.selects RX1 yX1_lengthens yX1_lengthens : Cond) ∈ ALL := AL_in29 _ (List.mem_of_getElem? (i := 10) rfl)
theorem q_736 : (.selects RX1 yX1_park yX1_park : Cond) ∈ ALL := AL_in29 _ (List.mem_of_getElem? (i := 11) rfl)
theorem q_737 : (.selects RX1 yX1_settle yX1_settle : Cond) ∈ ALL := AL_in29 _ (List.mem_of_getElem? (i := 12) rfl)
theorem q_738 : (.selects RX2 yX2_add yX2_add : Cond) ∈ ALL := AL_in29 _ (List.mem_of_getElem? (i := 13) rfl)
theorem q_739 : (.selects RX2 yX2_backFrom yX2_backFrom : Cond) ∈ ALL := AL_in29 _ (List.mem_of_getElem? (i := 14) rfl)
theorem q_740 : (.selects RX2 yX2_runFrom yX2_runFrom : Cond) ∈ ALL := AL_in29 _ (List.mem_of_getElem? (i := 15) rfl)
theorem q_741 : (.selects RX2 yX2_takes yX2_takes : Cond) ∈ ALL := AL_in29 _ (List.mem_of_getElem? (i := 16) rfl)
theorem q_742 : (.selects RX3 yX3_air yX3_air : Cond) ∈ ALL := AL_in29 _ (List.mem_of_getElem? (i := 17) rfl)
theorem q_743 : (.selects RX3 yX3_airByKind yX3_airByKind : Cond) ∈ ALL := AL_in29 _ (List.mem_of_getElem? (i := 18) rfl)
theorem q_744 : (.selects RX3 yX3_change yX3_change : Cond) ∈ ALL := AL_in29 _ (List.mem_of_getElem? (i := 19) rfl)
theorem q_745 : (.selects RX3 yX3_costs yX3_costs : Cond) ∈ ALL := AL_in29 _ (List.mem_of_getElem? (i := 20) rfl)
theorem q_746 : (.selects RX3 yX3_draw yX3_draw : Cond) ∈ ALL := AL_in29 _ (List.mem_of_getElem? (i := 21) rfl)
theorem q_747 : (.selects RX3 yX3_gainFrom yX3_gainFrom : Cond) ∈ ALL := AL_in29 _ (List.mem_of_getElem? (i := 22) rfl)
theorem q_748 : (.selects RX3 yX3_gainOf yX3_gainOf : Cond) ∈ ALL := AL_in29 _ (List.mem_of_getElem? (i := 23) rfl)
theorem q_749 : (.selects RX3 yX3_gives yX3_gives : Cond) ∈ ALL := AL_in29 _ (List.mem_of_getElem? (i := 24) rfl)
theorem q_750 : (.selects RX3 yX3_goes yX3_goes : Cond) ∈ ALL := AL_in30 _ (List.mem_of_getElem? (i := 0) rfl)
theorem q_751 : (.selects RX3 yX3_isOut yX3_isOut : Cond) ∈ ALL := AL_in30 _ (List.mem_of_getElem? (i := 1) rfl)
theorem q_752 : (.selects RX3 yX3_isPicked yX3_isPicked : Cond) ∈ ALL := AL_in30 _ (List.mem_of_getElem? (i := 2) rfl)
theorem q_753 : (.selects RX3 yX3_isSafeByDraws yX3_isSafeByDraws : Cond) ∈ ALL := AL_in30 _ (List.mem_of_getElem? (i := 3) rfl)
theorem q_754 : (.selects RX3 yX3_marginFrom yX3_marginFrom : Cond) ∈ ALL := AL_in30 _ (List.mem_of_getElem? (i := 4) rfl)
theorem q_755 : (.selects RX3 yX3_safePitches yX3_safePitches : Cond) ∈ ALL := AL_in30 _ (List.mem_of_getElem? (i := 5) rfl)
theorem q_756 : (.selects RX3 yX3_safeWeights yX3_safeWeights : Cond) ∈ ALL := AL_in30 _ (List.mem_of_getElem? (i := 6) rfl)
theorem q_757 : (.selects RX3 yX3_takes yX3_takes : Cond) ∈ ALL := AL_in30 _ (List.mem_of_getElem? (i := 7) rfl)
theorem q_758 : (.selects RX3 yX3_textOf yX3_textOf : Cond) ∈ ALL := AL_in30 _ (List.mem_of_getElem? (i := 8) rfl)
theorem q_759 : (.selects RX3 yX3_weighedGains yX3_weighedGains : Cond) ∈ ALL := AL_in30 _ (List.mem_of_getElem? (i := 9) rfl)
theorem q_760 : (.selects RX4 yX4_copy yX4_copy : Cond) ∈ ALL := AL_in30 _ (List.mem_of_getElem? (i := 10) rfl)
theorem q_761 : (.selects RX4 yX4_isMissing yX4_isMissing : Cond) ∈ ALL := AL_in30 _ (List.mem_of_getElem? (i := 11) rfl)
theorem q_762 : (.selects RX4 yX4_lay yX4_lay : Cond) ∈ ALL := AL_in30 _ (List.mem_of_getElem? (i := 12) rfl)
theorem q_763 : (.selects RX4 yX4_read yX4_read : Cond) ∈ ALL := AL_in30 _ (List.mem_of_getElem? (i := 13) rfl)
theorem q_764 : (.selects RX4 yX4_standsAt yX4_standsAt : Cond) ∈ ALL := AL_in30 _ (List.mem_of_getElem? (i := 14) rfl)
theorem q_765 : (.selects RX4 yX4_write yX4_write : Cond) ∈ ALL := AL_in30 _ (List.mem_of_getElem? (i := 15) rfl)
theorem q_766 : (.selects RX5 yX5_add yX5_add : Cond) ∈ ALL := AL_in30 _ (List.mem_of_getElem? (i := 16) rfl)
theorem q_767 : (.selects RX5 yX5_takes yX5_takes : Cond) ∈ ALL := AL_in30 _ (List.mem_of_getElem? (i := 17) rfl)
theorem q_768 : (.selects RX5 yX5_work yX5_work : Cond) ∈ ALL := AL_in30 _ (List.mem_of_getElem? (i := 18) rfl)
theorem q_769 : (.selects RX6 yX6_begin yX6_begin : Cond) ∈ ALL := AL_in30 _ (List.mem_of_getElem? (i := 19) rfl)
theorem q_770 : (.selects RX6 yX6_parts yX6_parts : Cond) ∈ ALL := AL_in30 _ (List.mem_of_getElem? (i := 20) rfl)
theorem q_771 : (.selects RX6 yX6_partsOfCurve yX6_partsOfCurve : Cond) ∈ ALL := AL_in30 _ (List.mem_of_getElem? (i := 21) rfl)
theorem q_772 : (.selects RX6 yX6_say yX6_say : Cond) ∈ ALL := AL_in30 _ (List.mem_of_getElem? (i := 22) rfl)
theorem q_773 : (.selects RX6 yX6_speak yX6_speak : Cond) ∈ ALL := AL_in30 _ (List.mem_of_getElem? (i := 23) rfl)
theorem q_774 : (.selects RX7 yX7_as yX7_as : Cond) ∈ ALL := AL_in30 _ (List.mem_of_getElem? (i := 24) rfl)
theorem q_775 : (.selects RX7 yX7_become yX7_become : Cond) ∈ ALL := AL_in31 _ (List.mem_of_getElem? (i := 0) rfl)
theorem q_776 : (.selects RX7 yX7_bestLead yX7_bestLead : Cond) ∈ ALL := AL_in31 _ (List.mem_of_getElem? (i := 1) rfl)
theorem q_777 : (.selects RX7 yX7_body yX7_body : Cond) ∈ ALL := AL_in31 _ (List.mem_of_getElem? (i := 2) rfl)
theorem q_778 : (.selects RX7 yX7_check yX7_check : Cond) ∈ ALL := AL_in31 _ (List.mem_of_getElem? (i := 3) rfl)
theorem q_779 : (.selects RX7 yX7_count yX7_count : Cond) ∈ ALL := AL_in31 _ (List.mem_of_getElem? (i := 4) rfl)
theorem q_780 : (.selects RX7 yX7_duel yX7_duel : Cond) ∈ ALL := AL_in31 _ (List.mem_of_getElem? (i := 5) rfl)
theorem q_781 : (.selects RX7 yX7_error yX7_error : Cond) ∈ ALL := AL_in31 _ (List.mem_of_getElem? (i := 6) rfl)
theorem q_782 : (.selects RX7 yX7_feed yX7_feed : Cond) ∈ ALL := AL_in31 _ (List.mem_of_getElem? (i := 7) rfl)
theorem q_783 : (.selects RX7 yX7_fits yX7_fits : Cond) ∈ ALL := AL_in31 _ (List.mem_of_getElem? (i := 8) rfl)
theorem q_784 : (.selects RX7 yX7_fitsFrom yX7_fitsFrom : Cond) ∈ ALL := AL_in31 _ (List.mem_of_getElem? (i := 9) rfl)
theorem q_785 : (.selects RX7 yX7_go yX7_go : Cond) ∈ ALL := AL_in31 _ (List.mem_of_getElem? (i := 10) rfl)
theorem q_786 : (.selects RX7 yX7_image yX7_image : Cond) ∈ ALL := AL_in31 _ (List.mem_of_getElem? (i := 11) rfl)
theorem q_787 : (.selects RX7 yX7_isPitch yX7_isPitch : Cond) ∈ ALL := AL_in31 _ (List.mem_of_getElem? (i := 12) rfl)
theorem q_788 : (.selects RX7 yX7_isRunner yX7_isRunner : Cond) ∈ ALL := AL_in31 _ (List.mem_of_getElem? (i := 13) rfl)
theorem q_789 : (.selects RX7 yX7_judge yX7_judge : Cond) ∈ ALL := AL_in31 _ (List.mem_of_getElem? (i := 14) rfl)
theorem q_790 : (.selects RX7 yX7_law yX7_law : Cond) ∈ ALL := AL_in31 _ (List.mem_of_getElem? (i := 15) rfl)
theorem q_791 : (.selects RX7 yX7_leadFor yX7_leadFor : Cond) ∈ ALL := AL_in31 _ (List.mem_of_getElem? (i := 16) rfl)
theorem q_792 : (.selects RX7 yX7_leads yX7_leads : Cond) ∈ ALL := AL_in31 _ (List.mem_of_getElem? (i := 17) rfl)
theorem q_793 : (.selects RX7 yX7_loose yX7_loose : Cond) ∈ ALL := AL_in31 _ (List.mem_of_getElem? (i := 18) rfl)
theorem q_794 : (.selects RX7 yX7_margin yX7_margin : Cond) ∈ ALL := AL_in31 _ (List.mem_of_getElem? (i := 19) rfl)
theorem q_795 : (.selects RX7 yX7_move yX7_move : Cond) ∈ ALL := AL_in31 _ (List.mem_of_getElem? (i := 20) rfl)
theorem q_796 : (.selects RX7 yX7_odds yX7_odds : Cond) ∈ ALL := AL_in31 _ (List.mem_of_getElem? (i := 21) rfl)
theorem q_797 : (.selects RX7 yX7_over yX7_over : Cond) ∈ ALL := AL_in31 _ (List.mem_of_getElem? (i := 22) rfl)
theorem q_798 : (.selects RX7 yX7_pitch yX7_pitch : Cond) ∈ ALL := AL_in31 _ (List.mem_of_getElem? (i := 23) rfl)
theorem q_799 : (.selects RX7 yX7_pitchIs yX7_pitchIs : Cond) ∈ ALL := AL_in31 _ (List.mem_of_getElem? (i := 24) rfl)
theorem q_800 : (.selects RX7 yX7_put yX7_put : Cond) ∈ ALL := AL_in32 _ (List.mem_of_getElem? (i := 0) rfl)
theorem q_801 : (.selects RX7 yX7_restore yX7_restore : Cond) ∈ ALL := AL_in32 _ (List.mem_of_getElem? (i := 1) rfl)
theorem q_802 : (.selects RX7 yX7_runner yX7_runner : Cond) ∈ ALL := AL_in32 _ (List.mem_of_getElem? (i := 2) rfl)
theorem q_803 : (.selects RX7 yX7_runnerIs yX7_runnerIs : Cond) ∈ ALL := AL_in32 _ (List.mem_of_getElem? (i := 3) rfl)
theorem q_804 : (.selects RX7 yX7_seed yX7_seed : Cond) ∈ ALL := AL_in32 _ (List.mem_of_getElem? (i := 4) rfl)
theorem q_805 : (.selects RX7 yX7_set yX7_set : Cond) ∈ ALL := AL_in32 _ (List.mem_of_getElem? (i := 5) rfl)
theorem q_806 : (.selects RX7 yX7_sheet yX7_sheet : Cond) ∈ ALL := AL_in32 _ (List.mem_of_getElem? (i := 6) rfl)
theorem q_807 : (.selects RX7 yX7_steal yX7_steal : Cond) ∈ ALL := AL_in32 _ (List.mem_of_getElem? (i := 7) rfl)
theorem q_808 : (.selects RX7 yX7_surely yX7_surely : Cond) ∈ ALL := AL_in32 _ (List.mem_of_getElem? (i := 8) rfl)
theorem q_809 : (.selects RX7 yX7_tell yX7_tell : Cond) ∈ ALL := AL_in32 _ (List.mem_of_getElem? (i := 9) rfl)
theorem q_810 : (.selects RX7 yX7_text yX7_text : Cond) ∈ ALL := AL_in32 _ (List.mem_of_getElem? (i := 10) rfl)
theorem q_811 : (.selects RX7 yX7_told yX7_told : Cond) ∈ ALL := AL_in32 _ (List.mem_of_getElem? (i := 11) rfl)
theorem q_812 : (.selects RX7 yX7_untell yX7_untell : Cond) ∈ ALL := AL_in32 _ (List.mem_of_getElem? (i := 12) rfl)
theorem q_813 : (.selects RX7 yX7_voice yX7_voice : Cond) ∈ ALL := AL_in32 _ (List.mem_of_getElem? (i := 13) rfl)
theorem q_814 : (.selects RX7 yX7_weighs yX7_weighs : Cond) ∈ ALL := AL_in32 _ (List.mem_of_getElem? (i := 14) rfl)
theorem q_815 : (.selects RX7 yX7_weightsBy yX7_weightsBy : Cond) ∈ ALL := AL_in32 _ (List.mem_of_getElem? (i := 15) rfl)
theorem q_816 : (.selects RX8 yX8_about yX8_about : Cond) ∈ ALL := AL_in32 _ (List.mem_of_getElem? (i := 16) rfl)
theorem q_817 : (.selects RX8 yX8_airOf yX8_airOf : Cond) ∈ ALL := AL_in32 _ (List.mem_of_getElem? (i := 17) rfl)
theorem q_818 : (.selects RX8 yX8_all yX8_all : Cond) ∈ ALL := AL_in32 _ (List.mem_of_getElem? (i := 18) rfl)
theorem q_819 : (.selects RX8 yX8_any yX8_any : Cond) ∈ ALL := AL_in32 _ (List.mem_of_getElem? (i := 19) rfl)
theorem q_820 : (.selects RX8 yX8_as yX8_as : Cond) ∈ ALL := AL_in32 _ (List.mem_of_getElem? (i := 20) rfl)
theorem q_821 : (.selects RX8 yX8_become yX8_become : Cond) ∈ ALL := AL_in32 _ (List.mem_of_getElem? (i := 21) rfl)
theorem q_822 : (.selects RX8 yX8_becomes yX8_becomes : Cond) ∈ ALL := AL_in32 _ (List.mem_of_getElem? (i := 22) rfl)
theorem q_823 : (.selects RX8 yX8_begins yX8_begins : Cond) ∈ ALL := AL_in32 _ (List.mem_of_getElem? (i := 23) rfl)
theorem q_824 : (.selects RX8 yX8_bestLead yX8_bestLead : Cond) ∈ ALL := AL_in32 _ (List.mem_of_getElem? (i := 24) rfl)
theorem q_825 : (.selects RX8 yX8_body yX8_body : Cond) ∈ ALL := AL_in33 _ (List.mem_of_getElem? (i := 0) rfl)
theorem q_826 : (.selects RX8 yX8_check yX8_check : Cond) ∈ ALL := AL_in33 _ (List.mem_of_getElem? (i := 1) rfl)
theorem q_827 : (.selects RX8 yX8_compares yX8_compares : Cond) ∈ ALL := AL_in33 _ (List.mem_of_getElem? (i := 2) rfl)
theorem q_828 : (.selects RX8 yX8_costsOf yX8_costsOf : Cond) ∈ ALL := AL_in33 _ (List.mem_of_getElem? (i := 3) rfl)
theorem q_829 : (.selects RX8 yX8_count yX8_count : Cond) ∈ ALL := AL_in33 _ (List.mem_of_getElem? (i := 4) rfl)
theorem q_830 : (.selects RX8 yX8_curveHisses yX8_curveHisses : Cond) ∈ ALL := AL_in33 _ (List.mem_of_getElem? (i := 5) rfl)
theorem q_831 : (.selects RX8 yX8_draw yX8_draw : Cond) ∈ ALL := AL_in33 _ (List.mem_of_getElem? (i := 6) rfl)
theorem q_832 : (.selects RX8 yX8_drawn yX8_drawn : Cond) ∈ ALL := AL_in33 _ (List.mem_of_getElem? (i := 7) rfl)
theorem q_833 : (.selects RX8 yX8_drops yX8_drops : Cond) ∈ ALL := AL_in33 _ (List.mem_of_getElem? (i := 8) rfl)
theorem q_834 : (.selects RX8 yX8_duel yX8_duel : Cond) ∈ ALL := AL_in33 _ (List.mem_of_getElem? (i := 9) rfl)
theorem q_835 : (.selects RX8 yX8_error yX8_error : Cond) ∈ ALL := AL_in33 _ (List.mem_of_getElem? (i := 10) rfl)
theorem q_836 : (.selects RX8 yX8_feed yX8_feed : Cond) ∈ ALL := AL_in33 _ (List.mem_of_getElem? (i := 11) rfl)
theorem q_837 : (.selects RX8 yX8_fits yX8_fits : Cond) ∈ ALL := AL_in33 _ (List.mem_of_getElem? (i := 12) rfl)
theorem q_838 : (.selects RX8 yX8_gainOf yX8_gainOf : Cond) ∈ ALL := AL_in33 _ (List.mem_of_getElem? (i := 13) rfl)
theorem q_839 : (.selects RX8 yX8_gainsFrom yX8_gainsFrom : Cond) ∈ ALL := AL_in33 _ (List.mem_of_getElem? (i := 14) rfl)
theorem q_840 : (.selects RX8 yX8_gives yX8_gives : Cond) ∈ ALL := AL_in33 _ (List.mem_of_getElem? (i := 15) rfl)
theorem q_841 : (.selects RX8 yX8_go yX8_go : Cond) ∈ ALL := AL_in33 _ (List.mem_of_getElem? (i := 16) rfl)
theorem q_842 : (.selects RX8 yX8_goes yX8_goes : Cond) ∈ ALL := AL_in33 _ (List.mem_of_getElem? (i := 17) rfl)
theorem q_843 : (.selects RX8 yX8_hardDrops yX8_hardDrops : Cond) ∈ ALL := AL_in33 _ (List.mem_of_getElem? (i := 18) rfl)
theorem q_844 : (.selects RX8 yX8_hisses yX8_hisses : Cond) ∈ ALL := AL_in33 _ (List.mem_of_getElem? (i := 19) rfl)
theorem q_845 : (.selects RX8 yX8_image yX8_image : Cond) ∈ ALL := AL_in33 _ (List.mem_of_getElem? (i := 20) rfl)
theorem q_846 : (.selects RX8 yX8_isOut yX8_isOut : Cond) ∈ ALL := AL_in33 _ (List.mem_of_getElem? (i := 21) rfl)
theorem q_847 : (.selects RX8 yX8_isPickedAt yX8_isPickedAt : Cond) ∈ ALL := AL_in33 _ (List.mem_of_getElem? (i := 22) rfl)
theorem q_848 : (.selects RX8 yX8_isPitch yX8_isPitch : Cond) ∈ ALL := AL_in33 _ (List.mem_of_getElem? (i := 23) rfl)
theorem q_849 : (.selects RX8 yX8_isRunner yX8_isRunner : Cond) ∈ ALL := AL_in33 _ (List.mem_of_getElem? (i := 24) rfl)
theorem q_850 : (.selects RX8 yX8_isSafe yX8_isSafe : Cond) ∈ ALL := AL_in34 _ (List.mem_of_getElem? (i := 0) rfl)
theorem q_851 : (.selects RX8 yX8_isSo yX8_isSo : Cond) ∈ ALL := AL_in34 _ (List.mem_of_getElem? (i := 1) rfl)
theorem q_852 : (.selects RX8 yX8_judge yX8_judge : Cond) ∈ ALL := AL_in34 _ (List.mem_of_getElem? (i := 2) rfl)
theorem q_853 : (.selects RX8 yX8_law yX8_law : Cond) ∈ ALL := AL_in34 _ (List.mem_of_getElem? (i := 3) rfl)
theorem q_854 : (.selects RX8 yX8_lays yX8_lays : Cond) ∈ ALL := AL_in34 _ (List.mem_of_getElem? (i := 4) rfl)
theorem q_855 : (.selects RX8 yX8_leadFor yX8_leadFor : Cond) ∈ ALL := AL_in34 _ (List.mem_of_getElem? (i := 5) rfl)
theorem q_856 : (.selects RX8 yX8_leads yX8_leads : Cond) ∈ ALL := AL_in34 _ (List.mem_of_getElem? (i := 6) rfl)
theorem q_857 : (.selects RX8 yX8_lets yX8_lets : Cond) ∈ ALL := AL_in34 _ (List.mem_of_getElem? (i := 7) rfl)
theorem q_858 : (.selects RX8 yX8_look yX8_look : Cond) ∈ ALL := AL_in34 _ (List.mem_of_getElem? (i := 8) rfl)
theorem q_859 : (.selects RX8 yX8_loose yX8_loose : Cond) ∈ ALL := AL_in34 _ (List.mem_of_getElem? (i := 9) rfl)
theorem q_860 : (.selects RX8 yX8_margin yX8_margin : Cond) ∈ ALL := AL_in34 _ (List.mem_of_getElem? (i := 10) rfl)
theorem q_861 : (.selects RX8 yX8_marginOf yX8_marginOf : Cond) ∈ ALL := AL_in34 _ (List.mem_of_getElem? (i := 11) rfl)
theorem q_862 : (.selects RX8 yX8_more yX8_more : Cond) ∈ ALL := AL_in34 _ (List.mem_of_getElem? (i := 12) rfl)
theorem q_863 : (.selects RX8 yX8_move yX8_move : Cond) ∈ ALL := AL_in34 _ (List.mem_of_getElem? (i := 13) rfl)
theorem q_864 : (.selects RX8 yX8_nameOf yX8_nameOf : Cond) ∈ ALL := AL_in34 _ (List.mem_of_getElem? (i := 14) rfl)
theorem q_865 : (.selects RX8 yX8_notMoved yX8_notMoved : Cond) ∈ ALL := AL_in34 _ (List.mem_of_getElem? (i := 15) rfl)
theorem q_866 : (.selects RX8 yX8_notThere yX8_notThere : Cond) ∈ ALL := AL_in34 _ (List.mem_of_getElem? (i := 16) rfl)
theorem q_867 : (.selects RX8 yX8_number yX8_number : Cond) ∈ ALL := AL_in34 _ (List.mem_of_getElem? (i := 17) rfl)
theorem q_868 : (.selects RX8 yX8_odds yX8_odds : Cond) ∈ ALL := AL_in34 _ (List.mem_of_getElem? (i := 18) rfl)
theorem q_869 : (.selects RX8 yX8_of yX8_of : Cond) ∈ ALL := AL_in34 _ (List.mem_of_getElem? (i := 19) rfl)
theorem q_870 : (.selects RX8 yX8_one yX8_one : Cond) ∈ ALL := AL_in34 _ (List.mem_of_getElem? (i := 20) rfl)
theorem q_871 : (.selects RX8 yX8_opens yX8_opens : Cond) ∈ ALL := AL_in34 _ (List.mem_of_getElem? (i := 21) rfl)
theorem q_872 : (.selects RX8 yX8_over yX8_over : Cond) ∈ ALL := AL_in34 _ (List.mem_of_getElem? (i := 22) rfl)
theorem q_873 : (.selects RX8 yX8_partsBy yX8_partsBy : Cond) ∈ ALL := AL_in34 _ (List.mem_of_getElem? (i := 23) rfl)
theorem q_874 : (.selects RX8 yX8_pitch yX8_pitch : Cond) ∈ ALL := AL_in34 _ (List.mem_of_getElem? (i := 24) rfl)
theorem q_875 : (.selects RX8 yX8_pitchIs yX8_pitchIs : Cond) ∈ ALL := AL_in35 _ (List.mem_of_getElem? (i := 0) rfl)
theorem q_876 : (.selects RX8 yX8_plainAir yX8_plainAir : Cond) ∈ ALL := AL_in35 _ (List.mem_of_getElem? (i := 1) rfl)
theorem q_877 : (.selects RX8 yX8_plainDrops yX8_plainDrops : Cond) ∈ ALL := AL_in35 _ (List.mem_of_getElem? (i := 2) rfl)
theorem q_878 : (.selects RX8 yX8_plainHisses yX8_plainHisses : Cond) ∈ ALL := AL_in35 _ (List.mem_of_getElem? (i := 3) rfl)
theorem q_879 : (.selects RX8 yX8_plainParts yX8_plainParts : Cond) ∈ ALL := AL_in35 _ (List.mem_of_getElem? (i := 4) rfl)
theorem q_880 : (.selects RX8 yX8_plainThuds yX8_plainThuds : Cond) ∈ ALL := AL_in35 _ (List.mem_of_getElem? (i := 5) rfl)
theorem q_881 : (.selects RX8 yX8_put yX8_put : Cond) ∈ ALL := AL_in35 _ (List.mem_of_getElem? (i := 6) rfl)
theorem q_882 : (.selects RX8 yX8_restore yX8_restore : Cond) ∈ ALL := AL_in35 _ (List.mem_of_getElem? (i := 7) rfl)
theorem q_883 : (.selects RX8 yX8_runFrom yX8_runFrom : Cond) ∈ ALL := AL_in35 _ (List.mem_of_getElem? (i := 8) rfl)
theorem q_884 : (.selects RX8 yX8_runner yX8_runner : Cond) ∈ ALL := AL_in35 _ (List.mem_of_getElem? (i := 9) rfl)
theorem q_885 : (.selects RX8 yX8_runnerIs yX8_runnerIs : Cond) ∈ ALL := AL_in35 _ (List.mem_of_getElem? (i := 10) rfl)
theorem q_886 : (.selects RX8 yX8_seed yX8_seed : Cond) ∈ ALL := AL_in35 _ (List.mem_of_getElem? (i := 11) rfl)
theorem q_887 : (.selects RX8 yX8_set yX8_set : Cond) ∈ ALL := AL_in35 _ (List.mem_of_getElem? (i := 12) rfl)
theorem q_888 : (.selects RX8 yX8_sheet yX8_sheet : Cond) ∈ ALL := AL_in35 _ (List.mem_of_getElem? (i := 13) rfl)
theorem q_889 : (.selects RX8 yX8_steal yX8_steal : Cond) ∈ ALL := AL_in35 _ (List.mem_of_getElem? (i := 14) rfl)
theorem q_890 : (.selects RX8 yX8_sum yX8_sum : Cond) ∈ ALL := AL_in35 _ (List.mem_of_getElem? (i := 15) rfl)
theorem q_891 : (.selects RX8 yX8_surely yX8_surely : Cond) ∈ ALL := AL_in35 _ (List.mem_of_getElem? (i := 16) rfl)
theorem q_892 : (.selects RX8 yX8_tell yX8_tell : Cond) ∈ ALL := AL_in35 _ (List.mem_of_getElem? (i := 17) rfl)
theorem q_893 : (.selects RX8 yX8_text yX8_text : Cond) ∈ ALL := AL_in35 _ (List.mem_of_getElem? (i := 18) rfl)
theorem q_894 : (.selects RX8 yX8_thuds yX8_thuds : Cond) ∈ ALL := AL_in35 _ (List.mem_of_getElem? (i := 19) rfl)
theorem q_895 : (.selects RX8 yX8_times yX8_times : Cond) ∈ ALL := AL_in35 _ (List.mem_of_getElem? (i := 20) rfl)
theorem q_896 : (.selects RX8 yX8_told yX8_told : Cond) ∈ ALL := AL_in35 _ (List.mem_of_getElem? (i := 21) rfl)
theorem q_897 : (.selects RX8 yX8_untell yX8_untell : Cond) ∈ ALL := AL_in35 _ (List.mem_of_getElem? (i := 22) rfl)
theorem q_898 : (.selects RX8 yX8_voice yX8_voice : Cond) ∈ ALL := AL_in35 _ (List.mem_of_getElem? (i := 23) rfl)
theorem q_899 : (.selects RX8 yX8_weighs yX8_weighs : Cond) ∈ ALL := AL_in35 _ (List.mem_of_getElem? (i := 24) rfl)
theorem q_900 : (.selects RX8 yX8_weights yX8_weights : Cond) ∈ ALL := AL_in36 _ (List.mem_of_getElem? (i := 0) rfl)
theorem q_901 : (.selects RX8 yX8_weightsBy yX8_weightsBy : Cond) ∈ ALL := AL_in36 _ (List.mem_of_getElem? (i := 1) rfl)
theorem q_902 : (.selects RX8 yX8_works yX8_works : Cond) ∈ ALL := AL_in36 _ (List.mem_of_getElem? (i := 2) rfl)
theorem q_903 : (.static Lib.Math.abs.name : Cond) ∈ ALL := AL_in36 _ (List.mem_of_getElem? (i := 3) rfl)
theorem q_904 : (.static Lib.Math.max.name : Cond) ∈ ALL := AL_in36 _ (List.mem_of_getElem? (i := 4) rfl)
theorem q_905 : (.static Lib.Math.min.name : Cond) ∈ ALL := AL_in36 _ (List.mem_of_getElem? (i := 5) rfl)
theorem q_906 : (.static arraycopyName : Cond) ∈ ALL := AL_in36 _ (List.mem_of_getElem? (i := 6) rfl)
theorem q_907 : (.static yJ6_bitCount_0f7a4 : Cond) ∈ ALL := AL_in36 _ (List.mem_of_getElem? (i := 7) rfl)
theorem q_908 : (.static yX1_isNumeral : Cond) ∈ ALL := AL_in36 _ (List.mem_of_getElem? (i := 8) rfl)
theorem q_909 : (.static yX1_rankOf : Cond) ∈ ALL := AL_in36 _ (List.mem_of_getElem? (i := 9) rfl)
theorem q_910 : (.static yX3_held : Cond) ∈ ALL := AL_in36 _ (List.mem_of_getElem? (i := 10) rfl)
theorem q_911 : (.static yX3_oneMore : Cond) ∈ ALL := AL_in36 _ (List.mem_of_getElem? (i := 11) rfl)
theorem q_912 : (.static yX5_joined : Cond) ∈ ALL := AL_in36 _ (List.mem_of_getElem? (i := 12) rfl)
theorem q_913 : (.static yX5_named : Cond) ∈ ALL := AL_in36 _ (List.mem_of_getElem? (i := 13) rfl)
theorem q_914 : (.static yX6_bodyOf : Cond) ∈ ALL := AL_in36 _ (List.mem_of_getElem? (i := 14) rfl)
theorem q_915 : (.static yX7_commonOf : Cond) ∈ ALL := AL_in36 _ (List.mem_of_getElem? (i := 15) rfl)
theorem q_916 : (.static yX7_isDigit : Cond) ∈ ALL := AL_in36 _ (List.mem_of_getElem? (i := 16) rfl)
theorem q_917 : (.static yX7_isFeet : Cond) ∈ ALL := AL_in36 _ (List.mem_of_getElem? (i := 17) rfl)
theorem q_918 : (.static yX7_isKindAndM : Cond) ∈ ALL := AL_in36 _ (List.mem_of_getElem? (i := 18) rfl)
theorem q_919 : (.static yX7_isSheet : Cond) ∈ ALL := AL_in36 _ (List.mem_of_getElem? (i := 19) rfl)
theorem q_920 : (.static yX7_isUnder : Cond) ∈ ALL := AL_in36 _ (List.mem_of_getElem? (i := 20) rfl)
theorem q_921 : (.static yX7_isUse : Cond) ∈ ALL := AL_in36 _ (List.mem_of_getElem? (i := 21) rfl)
theorem q_922 : (.static yX7_mostOfSetting : Cond) ∈ ALL := AL_in36 _ (List.mem_of_getElem? (i := 22) rfl)
theorem q_923 : (.static yX7_partOf : Cond) ∈ ALL := AL_in36 _ (List.mem_of_getElem? (i := 23) rfl)
theorem q_924 : (.static yX7_within : Cond) ∈ ALL := AL_in36 _ (List.mem_of_getElem? (i := 24) rfl)
theorem q_925 : (.static yX8_copyAll : Cond) ∈ ALL := AL_in37 _ (List.mem_of_getElem? (i := 0) rfl)
theorem q_926 : (.static yX8_greater : Cond) ∈ ALL := AL_in37 _ (List.mem_of_getElem? (i := 1) rfl)
theorem q_927 : (.static yX8_held : Cond) ∈ ALL := AL_in37 _ (List.mem_of_getElem? (i := 2) rfl)
theorem q_928 : (.static yX8_in : Cond) ∈ ALL := AL_in37 _ (List.mem_of_getElem? (i := 3) rfl)
theorem q_929 : (.static yX8_isKm : Cond) ∈ ALL := AL_in37 _ (List.mem_of_getElem? (i := 4) rfl)
theorem q_930 : (.static yX8_isLead : Cond) ∈ ALL := AL_in37 _ (List.mem_of_getElem? (i := 5) rfl)
theorem q_931 : (.static yX8_isSheet : Cond) ∈ ALL := AL_in37 _ (List.mem_of_getElem? (i := 6) rfl)
theorem q_932 : (.static yX8_lesser : Cond) ∈ ALL := AL_in37 _ (List.mem_of_getElem? (i := 7) rfl)
theorem q_933 : (.static yX8_partOf : Cond) ∈ ALL := AL_in37 _ (List.mem_of_getElem? (i := 8) rfl)
theorem q_934 : (.static yX8_twoOf : Cond) ∈ ALL := AL_in37 _ (List.mem_of_getElem? (i := 9) rfl)
end
section
/-! decode rows, as printed -/
theorem dX0_init_0 : decode cX0_init 0 = .ok (.aload_n 0, 1) := by decide +kernel
theorem dX0_init_1 : decode cX0_init 1 = .ok (.invokespecial 3, 3) := by decide +kernel
theorem dX0_init_4 : decode cX0_init 4 = .ok (.aload_n 0, 1) := by decide +kernel
theorem dX0_init_5 : decode cX0_init 5 = .ok (.bipush 6, 2) := by decide +kernel
theorem dX0_init_7 : decode cX0_init 7 = .ok (.newarray .int, 2) := by decide +kernel
theorem dX0_init_9 : decode cX0_init 9 = .ok (.putfield 9, 3) := by decide +kernel
theorem dX0_init_12 : decode cX0_init 12 = .ok (.aload_n 0, 1) := by decide +kernel
theorem dX0_init_13 : decode cX0_init 13 = .ok (.bipush 6, 2) := by decide +kernel
theorem dX0_init_15 : decode cX0_init 15 = .ok (.newarray .int, 2) := by decide +kernel
theorem dX0_init_17 : decode cX0_init 17 = .ok (.putfield 15, 3) := by decide +kernel
theorem dX0_init_20 : decode cX0_init 20 = .ok (.aload_n 0, 1) := by decide +kernel
theorem dX0_init_21 : decode cX0_init 21 = .ok (.bipush 6, 2) := by decide +kernel
theorem dX0_init_23 : decode cX0_init 23 = .ok (.newarray .int, 2) := by decide +kernel
theorem dX0_init_25 : decode cX0_init 25 = .ok (.putfield 18, 3) := by decide +kernel
theorem dX0_init_28 : decode cX0_init 28 = .ok (.aload_n 0, 1) := by decide +kernel
theorem dX0_init_29 : decode cX0_init 29 = .ok (.bipush 6, 2) := by decide +kernel
theorem dX0_init_31 : decode cX0_init 31 = .ok (.newarray .int, 2) := by decide +kernel
theorem dX0_init_33 : decode cX0_init 33 = .ok (.putfield 21, 3) := by decide +kernel
theorem dX0_init_36 : decode cX0_init 36 = .ok (.aload_n 0, 1) := by decide +kernel
theorem dX0_init_37 : decode cX0_init 37 = .ok (.iconst 0, 1) := by decide +kernel
theorem dX0_init_38 : decode cX0_init 38 = .ok (.putfield 24, 3) := by decide +kernel
theorem dX0_init_41 : decode cX0_init 41 = .ok (.return_, 1) := by decide +kernel
theorem dX0_add_0 : decode cX0_add 0 = .ok (.aload_n 0, 1) := by decide +kernel
theorem dX0_add_1 : decode cX0_add 1 = .ok (.getfield 24, 3) := by decide +kernel
theorem dX0_add_4 : decode cX0_add 4 = .ok (.istore_n 3, 1) := by decide +kernel
theorem dX0_add_5 : decode cX0_add 5 = .ok (.iload_n 3, 1) := by decide +kernel
theorem dX0_add_6 : decode cX0_add 6 = .ok (.bipush 6, 2) := by decide +kernel
theorem dX0_add_8 : decode cX0_add 8 = .ok (.if_icmp .lt 5, 3) := by decide +kernel
theorem dX0_add_11 : decode cX0_add 11 = .ok (.iconst (-1), 1) := by decide +kernel
theorem dX0_add_12 : decode cX0_add 12 = .ok (.ireturn, 1) := by decide +kernel
theorem dX0_add_13 : decode cX0_add 13 = .ok (.aload_n 0, 1) := by decide +kernel
theorem dX0_add_14 : decode cX0_add 14 = .ok (.getfield 9, 3) := by decide +kernel
theorem dX0_add_17 : decode cX0_add 17 = .ok (.iload_n 3, 1) := by decide +kernel
theorem dX0_add_18 : decode cX0_add 18 = .ok (.iload_n 1, 1) := by decide +kernel
theorem dX0_add_19 : decode cX0_add 19 = .ok (.bipush 10, 2) := by decide +kernel
theorem dX0_add_21 : decode cX0_add 21 = .ok (.idiv, 1) := by decide +kernel
theorem dX0_add_22 : decode cX0_add 22 = .ok (.iastore, 1) := by decide +kernel
theorem dX0_add_23 : decode cX0_add 23 = .ok (.aload_n 0, 1) := by decide +kernel
theorem dX0_add_24 : decode cX0_add 24 = .ok (.getfield 15, 3) := by decide +kernel
theorem dX0_add_27 : decode cX0_add 27 = .ok (.iload_n 3, 1) := by decide +kernel
theorem dX0_add_28 : decode cX0_add 28 = .ok (.iload_n 1, 1) := by decide +kernel
theorem dX0_add_29 : decode cX0_add 29 = .ok (.bipush 10, 2) := by decide +kernel
theorem dX0_add_31 : decode cX0_add 31 = .ok (.irem, 1) := by decide +kernel
theorem dX0_add_32 : decode cX0_add 32 = .ok (.iastore, 1) := by decide +kernel
theorem dX0_add_33 : decode cX0_add 33 = .ok (.aload_n 0, 1) := by decide +kernel
theorem dX0_add_34 : decode cX0_add 34 = .ok (.getfield 18, 3) := by decide +kernel
theorem dX0_add_37 : decode cX0_add 37 = .ok (.iload_n 3, 1) := by decide +kernel
theorem dX0_add_38 : decode cX0_add 38 = .ok (.iload_n 2, 1) := by decide +kernel
theorem dX0_add_39 : decode cX0_add 39 = .ok (.iastore, 1) := by decide +kernel
theorem dX0_add_40 : decode cX0_add 40 = .ok (.aload_n 0, 1) := by decide +kernel
theorem dX0_add_41 : decode cX0_add 41 = .ok (.getfield 21, 3) := by decide +kernel
theorem dX0_add_44 : decode cX0_add 44 = .ok (.iload_n 3, 1) := by decide +kernel
theorem dX0_add_45 : decode cX0_add 45 = .ok (.iconst 0, 1) := by decide +kernel
theorem dX0_add_46 : decode cX0_add 46 = .ok (.iastore, 1) := by decide +kernel
theorem dX0_add_47 : decode cX0_add 47 = .ok (.aload_n 0, 1) := by decide +kernel
theorem dX0_add_48 : decode cX0_add 48 = .ok (.dup, 1) := by decide +kernel
theorem dX0_add_49 : decode cX0_add 49 = .ok (.getfield 24, 3) := by decide +kernel
theorem dX0_add_52 : decode cX0_add 52 = .ok (.iconst 1, 1) := by decide +kernel
theorem dX0_add_53 : decode cX0_add 53 = .ok (.iadd, 1) := by decide +kernel
theorem dX0_add_54 : decode cX0_add 54 = .ok (.putfield 24, 3) := by decide +kernel
theorem dX0_add_57 : decode cX0_add 57 = .ok (.iload_n 3, 1) := by decide +kernel
theorem dX0_add_58 : decode cX0_add 58 = .ok (.ireturn, 1) := by decide +kernel
theorem dX0_allWeights_0 : decode cX0_allWeights 0 = .ok (.iconst 0, 1) := by decide +kernel
theorem dX0_allWeights_1 : decode cX0_allWeights 1 = .ok (.istore_n 1, 1) := by decide +kernel
theorem dX0_allWeights_2 : decode cX0_allWeights 2 = .ok (.iconst 0, 1) := by decide +kernel
theorem dX0_allWeights_3 : decode cX0_allWeights 3 = .ok (.istore_n 2, 1) := by decide +kernel
theorem dX0_allWeights_4 : decode cX0_allWeights 4 = .ok (.iload_n 2, 1) := by decide +kernel
theorem dX0_allWeights_5 : decode cX0_allWeights 5 = .ok (.aload_n 0, 1) := by decide +kernel
theorem dX0_allWeights_6 : decode cX0_allWeights 6 = .ok (.getfield 24, 3) := by decide +kernel
theorem dX0_allWeights_9 : decode cX0_allWeights 9 = .ok (.if_icmp .ge 18, 3) := by decide +kernel
theorem dX0_allWeights_12 : decode cX0_allWeights 12 = .ok (.iload_n 1, 1) := by decide +kernel
theorem dX0_allWeights_13 : decode cX0_allWeights 13 = .ok (.aload_n 0, 1) := by decide +kernel
theorem dX0_allWeights_14 : decode cX0_allWeights 14 = .ok (.getfield 18, 3) := by decide +kernel
theorem dX0_allWeights_17 : decode cX0_allWeights 17 = .ok (.iload_n 2, 1) := by decide +kernel
theorem dX0_allWeights_18 : decode cX0_allWeights 18 = .ok (.iaload, 1) := by decide +kernel
theorem dX0_allWeights_19 : decode cX0_allWeights 19 = .ok (.iadd, 1) := by decide +kernel
theorem dX0_allWeights_20 : decode cX0_allWeights 20 = .ok (.istore_n 1, 1) := by decide +kernel
theorem dX0_allWeights_21 : decode cX0_allWeights 21 = .ok (.iinc 2 1, 3) := by decide +kernel
theorem dX0_allWeights_24 : decode cX0_allWeights 24 = .ok (.goto (-20), 3) := by decide +kernel
theorem dX0_allWeights_27 : decode cX0_allWeights 27 = .ok (.iload_n 1, 1) := by decide +kernel
theorem dX0_allWeights_28 : decode cX0_allWeights 28 = .ok (.ireturn, 1) := by decide +kernel
theorem dX0_byWeight_0 : decode cX0_byWeight 0 = .ok (.iload_n 1, 1) := by decide +kernel
theorem dX0_byWeight_1 : decode cX0_byWeight 1 = .ok (.istore_n 2, 1) := by decide +kernel
theorem dX0_byWeight_2 : decode cX0_byWeight 2 = .ok (.iconst 0, 1) := by decide +kernel
theorem dX0_byWeight_3 : decode cX0_byWeight 3 = .ok (.istore_n 3, 1) := by decide +kernel
theorem dX0_byWeight_4 : decode cX0_byWeight 4 = .ok (.iload_n 3, 1) := by decide +kernel
theorem dX0_byWeight_5 : decode cX0_byWeight 5 = .ok (.aload_n 0, 1) := by decide +kernel
theorem dX0_byWeight_6 : decode cX0_byWeight 6 = .ok (.getfield 24, 3) := by decide +kernel
theorem dX0_byWeight_9 : decode cX0_byWeight 9 = .ok (.if_icmp .ge 30, 3) := by decide +kernel
theorem dX0_byWeight_12 : decode cX0_byWeight 12 = .ok (.iload_n 2, 1) := by decide +kernel
theorem dX0_byWeight_13 : decode cX0_byWeight 13 = .ok (.aload_n 0, 1) := by decide +kernel
theorem dX0_byWeight_14 : decode cX0_byWeight 14 = .ok (.getfield 18, 3) := by decide +kernel
theorem dX0_byWeight_17 : decode cX0_byWeight 17 = .ok (.iload_n 3, 1) := by decide +kernel
theorem dX0_byWeight_18 : decode cX0_byWeight 18 = .ok (.iaload, 1) := by decide +kernel
theorem dX0_byWeight_19 : decode cX0_byWeight 19 = .ok (.if_icmp .ge 5, 3) := by decide +kernel
theorem dX0_byWeight_22 : decode cX0_byWeight 22 = .ok (.iload_n 3, 1) := by decide +kernel
theorem dX0_byWeight_23 : decode cX0_byWeight 23 = .ok (.ireturn, 1) := by decide +kernel
theorem dX0_byWeight_24 : decode cX0_byWeight 24 = .ok (.iload_n 2, 1) := by decide +kernel
theorem dX0_byWeight_25 : decode cX0_byWeight 25 = .ok (.aload_n 0, 1) := by decide +kernel
theorem dX0_byWeight_26 : decode cX0_byWeight 26 = .ok (.getfield 18, 3) := by decide +kernel
theorem dX0_byWeight_29 : decode cX0_byWeight 29 = .ok (.iload_n 3, 1) := by decide +kernel
theorem dX0_byWeight_30 : decode cX0_byWeight 30 = .ok (.iaload, 1) := by decide +kernel
theorem dX0_byWeight_31 : decode cX0_byWeight 31 = .ok (.isub, 1) := by decide +kernel
theorem dX0_byWeight_32 : decode cX0_byWeight 32 = .ok (.istore_n 2, 1) := by decide +kernel
theorem dX0_byWeight_33 : decode cX0_byWeight 33 = .ok (.iinc 3 1, 3) := by decide +kernel
theorem dX0_byWeight_36 : decode cX0_byWeight 36 = .ok (.goto (-32), 3) := by decide +kernel
theorem dX0_byWeight_39 : decode cX0_byWeight 39 = .ok (.iconst 0, 1) := by decide +kernel
theorem dX0_byWeight_40 : decode cX0_byWeight 40 = .ok (.ireturn, 1) := by decide +kernel
theorem dX0_takes_0 : decode cX0_takes 0 = .ok (.aload_n 1, 1) := by decide +kernel
theorem dX0_takes_1 : decode cX0_takes 1 = .ok (.getfield 9, 3) := by decide +kernel
theorem dX0_takes_4 : decode cX0_takes 4 = .ok (.iconst 0, 1) := by decide +kernel
theorem dX0_takes_5 : decode cX0_takes 5 = .ok (.aload_n 0, 1) := by decide +kernel
theorem dX0_takes_6 : decode cX0_takes 6 = .ok (.getfield 9, 3) := by decide +kernel
theorem dX0_takes_9 : decode cX0_takes 9 = .ok (.iconst 0, 1) := by decide +kernel
theorem dX0_takes_10 : decode cX0_takes 10 = .ok (.bipush 6, 2) := by decide +kernel
theorem dX0_takes_12 : decode cX0_takes 12 = .ok (.invokestatic 28, 3) := by decide +kernel
theorem dX0_takes_15 : decode cX0_takes 15 = .ok (.aload_n 1, 1) := by decide +kernel
theorem dX0_takes_16 : decode cX0_takes 16 = .ok (.getfield 15, 3) := by decide +kernel
theorem dX0_takes_19 : decode cX0_takes 19 = .ok (.iconst 0, 1) := by decide +kernel
theorem dX0_takes_20 : decode cX0_takes 20 = .ok (.aload_n 0, 1) := by decide +kernel
theorem dX0_takes_21 : decode cX0_takes 21 = .ok (.getfield 15, 3) := by decide +kernel
theorem dX0_takes_24 : decode cX0_takes 24 = .ok (.iconst 0, 1) := by decide +kernel
theorem dX0_takes_25 : decode cX0_takes 25 = .ok (.bipush 6, 2) := by decide +kernel
theorem dX0_takes_27 : decode cX0_takes 27 = .ok (.invokestatic 28, 3) := by decide +kernel
theorem dX0_takes_30 : decode cX0_takes 30 = .ok (.aload_n 1, 1) := by decide +kernel
theorem dX0_takes_31 : decode cX0_takes 31 = .ok (.getfield 18, 3) := by decide +kernel
theorem dX0_takes_34 : decode cX0_takes 34 = .ok (.iconst 0, 1) := by decide +kernel
theorem dX0_takes_35 : decode cX0_takes 35 = .ok (.aload_n 0, 1) := by decide +kernel
theorem dX0_takes_36 : decode cX0_takes 36 = .ok (.getfield 18, 3) := by decide +kernel
theorem dX0_takes_39 : decode cX0_takes 39 = .ok (.iconst 0, 1) := by decide +kernel
theorem dX0_takes_40 : decode cX0_takes 40 = .ok (.bipush 6, 2) := by decide +kernel
theorem dX0_takes_42 : decode cX0_takes 42 = .ok (.invokestatic 28, 3) := by decide +kernel
theorem dX0_takes_45 : decode cX0_takes 45 = .ok (.aload_n 1, 1) := by decide +kernel
theorem dX0_takes_46 : decode cX0_takes 46 = .ok (.getfield 21, 3) := by decide +kernel
theorem dX0_takes_49 : decode cX0_takes 49 = .ok (.iconst 0, 1) := by decide +kernel
theorem dX0_takes_50 : decode cX0_takes 50 = .ok (.aload_n 0, 1) := by decide +kernel
theorem dX0_takes_51 : decode cX0_takes 51 = .ok (.getfield 21, 3) := by decide +kernel
theorem dX0_takes_54 : decode cX0_takes 54 = .ok (.iconst 0, 1) := by decide +kernel
theorem dX0_takes_55 : decode cX0_takes 55 = .ok (.bipush 6, 2) := by decide +kernel
theorem dX0_takes_57 : decode cX0_takes 57 = .ok (.invokestatic 28, 3) := by decide +kernel
theorem dX0_takes_60 : decode cX0_takes 60 = .ok (.aload_n 0, 1) := by decide +kernel
theorem dX0_takes_61 : decode cX0_takes 61 = .ok (.aload_n 1, 1) := by decide +kernel
theorem dX0_takes_62 : decode cX0_takes 62 = .ok (.getfield 24, 3) := by decide +kernel
theorem dX0_takes_65 : decode cX0_takes 65 = .ok (.putfield 24, 3) := by decide +kernel
theorem dX0_takes_68 : decode cX0_takes 68 = .ok (.return_, 1) := by decide +kernel
theorem dX1_init_0 : decode cX1_init 0 = .ok (.aload_n 0, 1) := by decide +kernel
theorem dX1_init_1 : decode cX1_init 1 = .ok (.invokespecial 3, 3) := by decide +kernel
theorem dX1_init_4 : decode cX1_init 4 = .ok (.aload_n 0, 1) := by decide +kernel
theorem dX1_init_5 : decode cX1_init 5 = .ok (.new 9, 3) := by decide +kernel
theorem dX1_init_8 : decode cX1_init 8 = .ok (.dup, 1) := by decide +kernel
theorem dX1_init_9 : decode cX1_init 9 = .ok (.invokespecial 11, 3) := by decide +kernel
theorem dX1_init_12 : decode cX1_init 12 = .ok (.putfield 12, 3) := by decide +kernel
theorem dX1_init_15 : decode cX1_init 15 = .ok (.aload_n 0, 1) := by decide +kernel
theorem dX1_init_16 : decode cX1_init 16 = .ok (.bipush 60, 2) := by decide +kernel
theorem dX1_init_18 : decode cX1_init 18 = .ok (.newarray .int, 2) := by decide +kernel
theorem dX1_init_20 : decode cX1_init 20 = .ok (.putfield 18, 3) := by decide +kernel
theorem dX1_init_23 : decode cX1_init 23 = .ok (.aload_n 0, 1) := by decide +kernel
theorem dX1_init_24 : decode cX1_init 24 = .ok (.iconst 0, 1) := by decide +kernel
theorem dX1_init_25 : decode cX1_init 25 = .ok (.putfield 22, 3) := by decide +kernel
theorem dX1_init_28 : decode cX1_init 28 = .ok (.aload_n 0, 1) := by decide +kernel
theorem dX1_init_29 : decode cX1_init 29 = .ok (.iconst 0, 1) := by decide +kernel
theorem dX1_init_30 : decode cX1_init 30 = .ok (.putfield 26, 3) := by decide +kernel
theorem dX1_init_33 : decode cX1_init 33 = .ok (.aload_n 0, 1) := by decide +kernel
theorem dX1_init_34 : decode cX1_init 34 = .ok (.iconst 0, 1) := by decide +kernel
theorem dX1_init_35 : decode cX1_init 35 = .ok (.putfield 29, 3) := by decide +kernel
theorem dX1_init_38 : decode cX1_init 38 = .ok (.aload_n 0, 1) := by decide +kernel
theorem dX1_init_39 : decode cX1_init 39 = .ok (.iconst 0, 1) := by decide +kernel
theorem dX1_init_40 : decode cX1_init 40 = .ok (.putfield 32, 3) := by decide +kernel
theorem dX1_init_43 : decode cX1_init 43 = .ok (.aload_n 0, 1) := by decide +kernel
theorem dX1_init_44 : decode cX1_init 44 = .ok (.iconst 1, 1) := by decide +kernel
theorem dX1_init_45 : decode cX1_init 45 = .ok (.putfield 35, 3) := by decide +kernel
theorem dX1_init_48 : decode cX1_init 48 = .ok (.return_, 1) := by decide +kernel
theorem dX1_faultOf_0 : decode cX1_faultOf 0 = .ok (.aload_n 0, 1) := by decide +kernel
theorem dX1_faultOf_1 : decode cX1_faultOf 1 = .ok (.getfield 12, 3) := by decide +kernel
theorem dX1_faultOf_4 : decode cX1_faultOf 4 = .ok (.iconst 0, 1) := by decide +kernel
theorem dX1_faultOf_5 : decode cX1_faultOf 5 = .ok (.putfield 39, 3) := by decide +kernel
theorem dX1_faultOf_8 : decode cX1_faultOf 8 = .ok (.aload_n 0, 1) := by decide +kernel
theorem dX1_faultOf_9 : decode cX1_faultOf 9 = .ok (.getfield 12, 3) := by decide +kernel
theorem dX1_faultOf_12 : decode cX1_faultOf 12 = .ok (.iconst 1, 1) := by decide +kernel
theorem dX1_faultOf_13 : decode cX1_faultOf 13 = .ok (.putfield 42, 3) := by decide +kernel
theorem dX1_faultOf_16 : decode cX1_faultOf 16 = .ok (.aload_n 0, 1) := by decide +kernel
theorem dX1_faultOf_17 : decode cX1_faultOf 17 = .ok (.iconst 0, 1) := by decide +kernel
theorem dX1_faultOf_18 : decode cX1_faultOf 18 = .ok (.putfield 22, 3) := by decide +kernel
theorem dX1_faultOf_21 : decode cX1_faultOf 21 = .ok (.aload_n 0, 1) := by decide +kernel
theorem dX1_faultOf_22 : decode cX1_faultOf 22 = .ok (.iconst 0, 1) := by decide +kernel
theorem dX1_faultOf_23 : decode cX1_faultOf 23 = .ok (.putfield 26, 3) := by decide +kernel
theorem dX1_faultOf_26 : decode cX1_faultOf 26 = .ok (.aload_n 0, 1) := by decide +kernel
theorem dX1_faultOf_27 : decode cX1_faultOf 27 = .ok (.iconst 0, 1) := by decide +kernel
theorem dX1_faultOf_28 : decode cX1_faultOf 28 = .ok (.putfield 29, 3) := by decide +kernel
theorem dX1_faultOf_31 : decode cX1_faultOf 31 = .ok (.aload_n 0, 1) := by decide +kernel
theorem dX1_faultOf_32 : decode cX1_faultOf 32 = .ok (.iconst 0, 1) := by decide +kernel
theorem dX1_faultOf_33 : decode cX1_faultOf 33 = .ok (.putfield 32, 3) := by decide +kernel
theorem dX1_faultOf_36 : decode cX1_faultOf 36 = .ok (.aload_n 0, 1) := by decide +kernel
theorem dX1_faultOf_37 : decode cX1_faultOf 37 = .ok (.iconst 1, 1) := by decide +kernel
theorem dX1_faultOf_38 : decode cX1_faultOf 38 = .ok (.putfield 35, 3) := by decide +kernel
theorem dX1_faultOf_41 : decode cX1_faultOf 41 = .ok (.iconst 0, 1) := by decide +kernel
theorem dX1_faultOf_42 : decode cX1_faultOf 42 = .ok (.istore 4, 2) := by decide +kernel
theorem dX1_faultOf_44 : decode cX1_faultOf 44 = .ok (.iload 4, 2) := by decide +kernel
theorem dX1_faultOf_46 : decode cX1_faultOf 46 = .ok (.iload_n 2, 1) := by decide +kernel
theorem dX1_faultOf_47 : decode cX1_faultOf 47 = .ok (.if_icmp .ge 55, 3) := by decide +kernel
theorem dX1_faultOf_50 : decode cX1_faultOf 50 = .ok (.iload 4, 2) := by decide +kernel
theorem dX1_faultOf_52 : decode cX1_faultOf 52 = .ok (.aload_n 1, 1) := by decide +kernel
theorem dX1_faultOf_53 : decode cX1_faultOf 53 = .ok (.arraylength, 1) := by decide +kernel
theorem dX1_faultOf_54 : decode cX1_faultOf 54 = .ok (.if_icmp .ge 48, 3) := by decide +kernel
theorem dX1_faultOf_57 : decode cX1_faultOf 57 = .ok (.aload_n 1, 1) := by decide +kernel
theorem dX1_faultOf_58 : decode cX1_faultOf 58 = .ok (.iload 4, 2) := by decide +kernel
theorem dX1_faultOf_60 : decode cX1_faultOf 60 = .ok (.baload, 1) := by decide +kernel
theorem dX1_faultOf_61 : decode cX1_faultOf 61 = .ok (.istore 5, 2) := by decide +kernel
theorem dX1_faultOf_63 : decode cX1_faultOf 63 = .ok (.aload_n 0, 1) := by decide +kernel
theorem dX1_faultOf_64 : decode cX1_faultOf 64 = .ok (.getfield 35, 3) := by decide +kernel
theorem dX1_faultOf_67 : decode cX1_faultOf 67 = .ok (.ifCond .eq 13, 3) := by decide +kernel
theorem dX1_faultOf_70 : decode cX1_faultOf 70 = .ok (.aload_n 0, 1) := by decide +kernel
theorem dX1_faultOf_71 : decode cX1_faultOf 71 = .ok (.iload 5, 2) := by decide +kernel
theorem dX1_faultOf_73 : decode cX1_faultOf 73 = .ok (.iload_n 3, 1) := by decide +kernel
theorem dX1_faultOf_74 : decode cX1_faultOf 74 = .ok (.invokevirtual 45, 3) := by decide +kernel
theorem dX1_faultOf_77 : decode cX1_faultOf 77 = .ok (.goto 9, 3) := by decide +kernel
theorem dX1_faultOf_80 : decode cX1_faultOf 80 = .ok (.aload_n 0, 1) := by decide +kernel
theorem dX1_faultOf_81 : decode cX1_faultOf 81 = .ok (.iload 5, 2) := by decide +kernel
theorem dX1_faultOf_83 : decode cX1_faultOf 83 = .ok (.invokevirtual 49, 3) := by decide +kernel
theorem dX1_faultOf_86 : decode cX1_faultOf 86 = .ok (.istore 6, 2) := by decide +kernel
theorem dX1_faultOf_88 : decode cX1_faultOf 88 = .ok (.iload 6, 2) := by decide +kernel
theorem dX1_faultOf_90 : decode cX1_faultOf 90 = .ok (.ifCond .ne 6, 3) := by decide +kernel
theorem dX1_faultOf_93 : decode cX1_faultOf 93 = .ok (.iload 4, 2) := by decide +kernel
theorem dX1_faultOf_95 : decode cX1_faultOf 95 = .ok (.ireturn, 1) := by decide +kernel
theorem dX1_faultOf_96 : decode cX1_faultOf 96 = .ok (.iinc 4 1, 3) := by decide +kernel
theorem dX1_faultOf_99 : decode cX1_faultOf 99 = .ok (.goto (-55), 3) := by decide +kernel
theorem dX1_faultOf_102 : decode cX1_faultOf 102 = .ok (.aload_n 0, 1) := by decide +kernel
theorem dX1_faultOf_103 : decode cX1_faultOf 103 = .ok (.getfield 35, 3) := by decide +kernel
theorem dX1_faultOf_106 : decode cX1_faultOf 106 = .ok (.ifCond .ne 10, 3) := by decide +kernel
theorem dX1_faultOf_109 : decode cX1_faultOf 109 = .ok (.aload_n 0, 1) := by decide +kernel
theorem dX1_faultOf_110 : decode cX1_faultOf 110 = .ok (.getfield 29, 3) := by decide +kernel
theorem dX1_faultOf_113 : decode cX1_faultOf 113 = .ok (.ifCond .le 5, 3) := by decide +kernel
theorem dX1_faultOf_116 : decode cX1_faultOf 116 = .ok (.iload_n 2, 1) := by decide +kernel
theorem dX1_faultOf_117 : decode cX1_faultOf 117 = .ok (.ireturn, 1) := by decide +kernel
theorem dX1_faultOf_118 : decode cX1_faultOf 118 = .ok (.aload_n 0, 1) := by decide +kernel
theorem dX1_faultOf_119 : decode cX1_faultOf 119 = .ok (.iconst 1, 1) := by decide +kernel
theorem dX1_faultOf_120 : decode cX1_faultOf 120 = .ok (.invokevirtual 53, 3) := by decide +kernel
theorem dX1_faultOf_123 : decode cX1_faultOf 123 = .ok (.iconst (-1), 1) := by decide +kernel
theorem dX1_faultOf_124 : decode cX1_faultOf 124 = .ok (.ireturn, 1) := by decide +kernel
theorem dX1_begins_0 : decode cX1_begins 0 = .ok (.iload_n 1, 1) := by decide +kernel
theorem dX1_begins_1 : decode cX1_begins 1 = .ok (.bipush 33, 2) := by decide +kernel
theorem dX1_begins_3 : decode cX1_begins 3 = .ok (.if_icmp .eq 9, 3) := by decide +kernel
theorem dX1_begins_6 : decode cX1_begins 6 = .ok (.iload_n 1, 1) := by decide +kernel
theorem dX1_begins_7 : decode cX1_begins 7 = .ok (.bipush 40, 2) := by decide +kernel
theorem dX1_begins_9 : decode cX1_begins 9 = .ok (.if_icmp .ne 50, 3) := by decide +kernel
theorem dX1_begins_12 : decode cX1_begins 12 = .ok (.aload_n 0, 1) := by decide +kernel
theorem dX1_begins_13 : decode cX1_begins 13 = .ok (.getfield 26, 3) := by decide +kernel
theorem dX1_begins_16 : decode cX1_begins 16 = .ok (.iconst 5, 1) := by decide +kernel
theorem dX1_begins_17 : decode cX1_begins 17 = .ok (.if_icmp .lt 5, 3) := by decide +kernel
theorem dX1_begins_20 : decode cX1_begins 20 = .ok (.iconst 0, 1) := by decide +kernel
theorem dX1_begins_21 : decode cX1_begins 21 = .ok (.ireturn, 1) := by decide +kernel
theorem dX1_begins_22 : decode cX1_begins 22 = .ok (.aload_n 0, 1) := by decide +kernel
theorem dX1_begins_23 : decode cX1_begins 23 = .ok (.dup, 1) := by decide +kernel
theorem dX1_begins_24 : decode cX1_begins 24 = .ok (.getfield 26, 3) := by decide +kernel
theorem dX1_begins_27 : decode cX1_begins 27 = .ok (.iconst 1, 1) := by decide +kernel
theorem dX1_begins_28 : decode cX1_begins 28 = .ok (.iadd, 1) := by decide +kernel
theorem dX1_begins_29 : decode cX1_begins 29 = .ok (.putfield 26, 3) := by decide +kernel
theorem dX1_begins_32 : decode cX1_begins 32 = .ok (.aload_n 0, 1) := by decide +kernel
theorem dX1_begins_33 : decode cX1_begins 33 = .ok (.dup, 1) := by decide +kernel
theorem dX1_begins_34 : decode cX1_begins 34 = .ok (.getfield 29, 3) := by decide +kernel
theorem dX1_begins_37 : decode cX1_begins 37 = .ok (.iload_n 1, 1) := by decide +kernel
theorem dX1_begins_38 : decode cX1_begins 38 = .ok (.bipush 40, 2) := by decide +kernel
theorem dX1_begins_40 : decode cX1_begins 40 = .ok (.if_icmp .ne 7, 3) := by decide +kernel
theorem dX1_begins_43 : decode cX1_begins 43 = .ok (.iconst 1, 1) := by decide +kernel
theorem dX1_begins_44 : decode cX1_begins 44 = .ok (.goto 4, 3) := by decide +kernel
theorem dX1_begins_47 : decode cX1_begins 47 = .ok (.iconst 0, 1) := by decide +kernel
theorem dX1_begins_48 : decode cX1_begins 48 = .ok (.iadd, 1) := by decide +kernel
theorem dX1_begins_49 : decode cX1_begins 49 = .ok (.putfield 29, 3) := by decide +kernel
theorem dX1_begins_52 : decode cX1_begins 52 = .ok (.aload_n 0, 1) := by decide +kernel
theorem dX1_begins_53 : decode cX1_begins 53 = .ok (.iload_n 1, 1) := by decide +kernel
theorem dX1_begins_54 : decode cX1_begins 54 = .ok (.invokevirtual 57, 3) := by decide +kernel
theorem dX1_begins_57 : decode cX1_begins 57 = .ok (.iconst 1, 1) := by decide +kernel
theorem dX1_begins_58 : decode cX1_begins 58 = .ok (.ireturn, 1) := by decide +kernel
theorem dX1_begins_59 : decode cX1_begins 59 = .ok (.iload_n 1, 1) := by decide +kernel
theorem dX1_begins_60 : decode cX1_begins 60 = .ok (.invokestatic 60, 3) := by decide +kernel
theorem dX1_begins_63 : decode cX1_begins 63 = .ok (.ifCond .eq 26, 3) := by decide +kernel
theorem dX1_begins_66 : decode cX1_begins 66 = .ok (.aload_n 0, 1) := by decide +kernel
theorem dX1_begins_67 : decode cX1_begins 67 = .ok (.getfield 12, 3) := by decide +kernel
theorem dX1_begins_70 : decode cX1_begins 70 = .ok (.iload_n 1, 1) := by decide +kernel
theorem dX1_begins_71 : decode cX1_begins 71 = .ok (.bipush 48, 2) := by decide +kernel
theorem dX1_begins_73 : decode cX1_begins 73 = .ok (.isub, 1) := by decide +kernel
theorem dX1_begins_74 : decode cX1_begins 74 = .ok (.invokevirtual 63, 3) := by decide +kernel
theorem dX1_begins_77 : decode cX1_begins 77 = .ok (.aload_n 0, 1) := by decide +kernel
theorem dX1_begins_78 : decode cX1_begins 78 = .ok (.iconst 1, 1) := by decide +kernel
theorem dX1_begins_79 : decode cX1_begins 79 = .ok (.putfield 32, 3) := by decide +kernel
theorem dX1_begins_82 : decode cX1_begins 82 = .ok (.aload_n 0, 1) := by decide +kernel
theorem dX1_begins_83 : decode cX1_begins 83 = .ok (.iconst 0, 1) := by decide +kernel
theorem dX1_begins_84 : decode cX1_begins 84 = .ok (.putfield 35, 3) := by decide +kernel
theorem dX1_begins_87 : decode cX1_begins 87 = .ok (.iconst 1, 1) := by decide +kernel
theorem dX1_begins_88 : decode cX1_begins 88 = .ok (.ireturn, 1) := by decide +kernel
theorem dX1_begins_89 : decode cX1_begins 89 = .ok (.iconst 0, 1) := by decide +kernel
theorem dX1_begins_90 : decode cX1_begins 90 = .ok (.istore_n 3, 1) := by decide +kernel
theorem dX1_begins_91 : decode cX1_begins 91 = .ok (.iload_n 3, 1) := by decide +kernel
theorem dX1_begins_92 : decode cX1_begins 92 = .ok (.iconst 3, 1) := by decide +kernel
theorem dX1_begins_93 : decode cX1_begins 93 = .ok (.if_icmp .ge 44, 3) := by decide +kernel
theorem dX1_begins_96 : decode cX1_begins 96 = .ok (.iload_n 1, 1) := by decide +kernel
theorem dX1_begins_97 : decode cX1_begins 97 = .ok (.getstatic 66, 3) := by decide +kernel
theorem dX1_begins_100 : decode cX1_begins 100 = .ok (.iload_n 2, 1) := by decide +kernel
theorem dX1_begins_101 : decode cX1_begins 101 = .ok (.iconst 3, 1) := by decide +kernel
theorem dX1_begins_102 : decode cX1_begins 102 = .ok (.imul, 1) := by decide +kernel
theorem dX1_begins_103 : decode cX1_begins 103 = .ok (.iload_n 3, 1) := by decide +kernel
theorem dX1_begins_104 : decode cX1_begins 104 = .ok (.iadd, 1) := by decide +kernel
theorem dX1_begins_105 : decode cX1_begins 105 = .ok (.caload, 1) := by decide +kernel
theorem dX1_begins_106 : decode cX1_begins 106 = .ok (.if_icmp .ne 25, 3) := by decide +kernel
theorem dX1_begins_109 : decode cX1_begins 109 = .ok (.aload_n 0, 1) := by decide +kernel
theorem dX1_begins_110 : decode cX1_begins 110 = .ok (.getfield 12, 3) := by decide +kernel
theorem dX1_begins_113 : decode cX1_begins 113 = .ok (.iconst (-1), 1) := by decide +kernel
theorem dX1_begins_114 : decode cX1_begins 114 = .ok (.iload_n 3, 1) := by decide +kernel
theorem dX1_begins_115 : decode cX1_begins 115 = .ok (.isub, 1) := by decide +kernel
theorem dX1_begins_116 : decode cX1_begins 116 = .ok (.invokevirtual 63, 3) := by decide +kernel
theorem dX1_begins_119 : decode cX1_begins 119 = .ok (.aload_n 0, 1) := by decide +kernel
theorem dX1_begins_120 : decode cX1_begins 120 = .ok (.iconst 0, 1) := by decide +kernel
theorem dX1_begins_121 : decode cX1_begins 121 = .ok (.putfield 32, 3) := by decide +kernel
theorem dX1_begins_124 : decode cX1_begins 124 = .ok (.aload_n 0, 1) := by decide +kernel
theorem dX1_begins_125 : decode cX1_begins 125 = .ok (.iconst 0, 1) := by decide +kernel
theorem dX1_begins_126 : decode cX1_begins 126 = .ok (.putfield 35, 3) := by decide +kernel
theorem dX1_begins_129 : decode cX1_begins 129 = .ok (.iconst 1, 1) := by decide +kernel
theorem dX1_begins_130 : decode cX1_begins 130 = .ok (.ireturn, 1) := by decide +kernel
theorem dX1_begins_131 : decode cX1_begins 131 = .ok (.iinc 3 1, 3) := by decide +kernel
theorem dX1_begins_134 : decode cX1_begins 134 = .ok (.goto (-43), 3) := by decide +kernel
theorem dX1_begins_137 : decode cX1_begins 137 = .ok (.iconst 0, 1) := by decide +kernel
theorem dX1_begins_138 : decode cX1_begins 138 = .ok (.ireturn, 1) := by decide +kernel
theorem dX1_continues_0 : decode cX1_continues 0 = .ok (.iload_n 1, 1) := by decide +kernel
theorem dX1_continues_1 : decode cX1_continues 1 = .ok (.invokestatic 60, 3) := by decide +kernel
theorem dX1_continues_4 : decode cX1_continues 4 = .ok (.ifCond .eq 12, 3) := by decide +kernel
theorem dX1_continues_7 : decode cX1_continues 7 = .ok (.aload_n 0, 1) := by decide +kernel
theorem dX1_continues_8 : decode cX1_continues 8 = .ok (.iload_n 1, 1) := by decide +kernel
theorem dX1_continues_9 : decode cX1_continues 9 = .ok (.bipush 48, 2) := by decide +kernel
theorem dX1_continues_11 : decode cX1_continues 11 = .ok (.isub, 1) := by decide +kernel
theorem dX1_continues_12 : decode cX1_continues 12 = .ok (.invokevirtual 70, 3) := by decide +kernel
theorem dX1_continues_15 : decode cX1_continues 15 = .ok (.ireturn, 1) := by decide +kernel
theorem dX1_continues_16 : decode cX1_continues 16 = .ok (.aload_n 0, 1) := by decide +kernel
theorem dX1_continues_17 : decode cX1_continues 17 = .ok (.iconst 0, 1) := by decide +kernel
theorem dX1_continues_18 : decode cX1_continues 18 = .ok (.putfield 32, 3) := by decide +kernel
theorem dX1_continues_21 : decode cX1_continues 21 = .ok (.iload_n 1, 1) := by decide +kernel
theorem dX1_continues_22 : decode cX1_continues 22 = .ok (.bipush 41, 2) := by decide +kernel
theorem dX1_continues_24 : decode cX1_continues 24 = .ok (.if_icmp .ne 8, 3) := by decide +kernel
theorem dX1_continues_27 : decode cX1_continues 27 = .ok (.aload_n 0, 1) := by decide +kernel
theorem dX1_continues_28 : decode cX1_continues 28 = .ok (.invokevirtual 73, 3) := by decide +kernel
theorem dX1_continues_31 : decode cX1_continues 31 = .ok (.ireturn, 1) := by decide +kernel
theorem dX1_continues_32 : decode cX1_continues 32 = .ok (.iload_n 1, 1) := by decide +kernel
theorem dX1_continues_33 : decode cX1_continues 33 = .ok (.invokestatic 77, 3) := by decide +kernel
theorem dX1_continues_36 : decode cX1_continues 36 = .ok (.istore_n 2, 1) := by decide +kernel
theorem dX1_continues_37 : decode cX1_continues 37 = .ok (.iload_n 2, 1) := by decide +kernel
theorem dX1_continues_38 : decode cX1_continues 38 = .ok (.ifCond .eq 9, 3) := by decide +kernel
theorem dX1_continues_41 : decode cX1_continues 41 = .ok (.iload_n 2, 1) := by decide +kernel
theorem dX1_continues_42 : decode cX1_continues 42 = .ok (.bipush 6, 2) := by decide +kernel
theorem dX1_continues_44 : decode cX1_continues 44 = .ok (.if_icmp .ne 5, 3) := by decide +kernel
theorem dX1_continues_47 : decode cX1_continues 47 = .ok (.iconst 0, 1) := by decide +kernel
theorem dX1_continues_48 : decode cX1_continues 48 = .ok (.ireturn, 1) := by decide +kernel
theorem dX1_continues_49 : decode cX1_continues 49 = .ok (.aload_n 0, 1) := by decide +kernel
theorem dX1_continues_50 : decode cX1_continues 50 = .ok (.iload_n 2, 1) := by decide +kernel
theorem dX1_continues_51 : decode cX1_continues 51 = .ok (.iconst 3, 1) := by decide +kernel
theorem dX1_continues_52 : decode cX1_continues 52 = .ok (.if_icmp .ne 9, 3) := by decide +kernel
theorem dX1_continues_55 : decode cX1_continues 55 = .ok (.iload_n 2, 1) := by decide +kernel
theorem dX1_continues_56 : decode cX1_continues 56 = .ok (.iconst 1, 1) := by decide +kernel
theorem dX1_continues_57 : decode cX1_continues 57 = .ok (.iadd, 1) := by decide +kernel
theorem dX1_continues_58 : decode cX1_continues 58 = .ok (.goto 4, 3) := by decide +kernel
theorem dX1_continues_61 : decode cX1_continues 61 = .ok (.iload_n 2, 1) := by decide +kernel
theorem dX1_continues_62 : decode cX1_continues 62 = .ok (.invokevirtual 53, 3) := by decide +kernel
theorem dX1_continues_65 : decode cX1_continues 65 = .ok (.iload_n 2, 1) := by decide +kernel
theorem dX1_continues_66 : decode cX1_continues 66 = .ok (.iconst 3, 1) := by decide +kernel
theorem dX1_continues_67 : decode cX1_continues 67 = .ok (.if_icmp .ne 30, 3) := by decide +kernel
theorem dX1_continues_70 : decode cX1_continues 70 = .ok (.aload_n 0, 1) := by decide +kernel
theorem dX1_continues_71 : decode cX1_continues 71 = .ok (.getfield 22, 3) := by decide +kernel
theorem dX1_continues_74 : decode cX1_continues 74 = .ok (.ifCond .le 23, 3) := by decide +kernel
theorem dX1_continues_77 : decode cX1_continues 77 = .ok (.aload_n 0, 1) := by decide +kernel
theorem dX1_continues_78 : decode cX1_continues 78 = .ok (.getfield 18, 3) := by decide +kernel
theorem dX1_continues_81 : decode cX1_continues 81 = .ok (.aload_n 0, 1) := by decide +kernel
theorem dX1_continues_82 : decode cX1_continues 82 = .ok (.getfield 22, 3) := by decide +kernel
theorem dX1_continues_85 : decode cX1_continues 85 = .ok (.iconst 1, 1) := by decide +kernel
theorem dX1_continues_86 : decode cX1_continues 86 = .ok (.isub, 1) := by decide +kernel
theorem dX1_continues_87 : decode cX1_continues 87 = .ok (.iaload, 1) := by decide +kernel
theorem dX1_continues_88 : decode cX1_continues 88 = .ok (.invokestatic 77, 3) := by decide +kernel
theorem dX1_continues_91 : decode cX1_continues 91 = .ok (.iconst 3, 1) := by decide +kernel
theorem dX1_continues_92 : decode cX1_continues 92 = .ok (.if_icmp .ne 5, 3) := by decide +kernel
theorem dX1_continues_95 : decode cX1_continues 95 = .ok (.iconst 0, 1) := by decide +kernel
theorem dX1_continues_96 : decode cX1_continues 96 = .ok (.ireturn, 1) := by decide +kernel
theorem dX1_continues_97 : decode cX1_continues 97 = .ok (.aload_n 0, 1) := by decide +kernel
theorem dX1_continues_98 : decode cX1_continues 98 = .ok (.iload_n 1, 1) := by decide +kernel
theorem dX1_continues_99 : decode cX1_continues 99 = .ok (.invokevirtual 57, 3) := by decide +kernel
theorem dX1_continues_102 : decode cX1_continues 102 = .ok (.aload_n 0, 1) := by decide +kernel
theorem dX1_continues_103 : decode cX1_continues 103 = .ok (.iconst 1, 1) := by decide +kernel
theorem dX1_continues_104 : decode cX1_continues 104 = .ok (.putfield 35, 3) := by decide +kernel
theorem dX1_continues_107 : decode cX1_continues 107 = .ok (.iconst 1, 1) := by decide +kernel
theorem dX1_continues_108 : decode cX1_continues 108 = .ok (.ireturn, 1) := by decide +kernel
theorem dX1_lengthens_0 : decode cX1_lengthens 0 = .ok (.aload_n 0, 1) := by decide +kernel
theorem dX1_lengthens_1 : decode cX1_lengthens 1 = .ok (.getfield 12, 3) := by decide +kernel
theorem dX1_lengthens_4 : decode cX1_lengthens 4 = .ok (.getfield 39, 3) := by decide +kernel
theorem dX1_lengthens_7 : decode cX1_lengthens 7 = .ok (.iconst 1, 1) := by decide +kernel
theorem dX1_lengthens_8 : decode cX1_lengthens 8 = .ok (.isub, 1) := by decide +kernel
theorem dX1_lengthens_9 : decode cX1_lengthens 9 = .ok (.istore_n 2, 1) := by decide +kernel
theorem dX1_lengthens_10 : decode cX1_lengthens 10 = .ok (.aload_n 0, 1) := by decide +kernel
theorem dX1_lengthens_11 : decode cX1_lengthens 11 = .ok (.getfield 32, 3) := by decide +kernel
theorem dX1_lengthens_14 : decode cX1_lengthens 14 = .ok (.iconst 1, 1) := by decide +kernel
theorem dX1_lengthens_15 : decode cX1_lengthens 15 = .ok (.if_icmp .lt 15, 3) := by decide +kernel
theorem dX1_lengthens_18 : decode cX1_lengthens 18 = .ok (.aload_n 0, 1) := by decide +kernel
theorem dX1_lengthens_19 : decode cX1_lengthens 19 = .ok (.getfield 32, 3) := by decide +kernel
theorem dX1_lengthens_22 : decode cX1_lengthens 22 = .ok (.iconst 4, 1) := by decide +kernel
theorem dX1_lengthens_23 : decode cX1_lengthens 23 = .ok (.if_icmp .ge 7, 3) := by decide +kernel
theorem dX1_lengthens_26 : decode cX1_lengthens 26 = .ok (.iload_n 2, 1) := by decide +kernel
theorem dX1_lengthens_27 : decode cX1_lengthens 27 = .ok (.ifCond .ge 5, 3) := by decide +kernel
theorem dX1_lengthens_30 : decode cX1_lengthens 30 = .ok (.iconst 0, 1) := by decide +kernel
theorem dX1_lengthens_31 : decode cX1_lengthens 31 = .ok (.ireturn, 1) := by decide +kernel
theorem dX1_lengthens_32 : decode cX1_lengthens 32 = .ok (.aload_n 0, 1) := by decide +kernel
theorem dX1_lengthens_33 : decode cX1_lengthens 33 = .ok (.getfield 12, 3) := by decide +kernel
theorem dX1_lengthens_36 : decode cX1_lengthens 36 = .ok (.getfield 81, 3) := by decide +kernel
theorem dX1_lengthens_39 : decode cX1_lengthens 39 = .ok (.iload_n 2, 1) := by decide +kernel
theorem dX1_lengthens_40 : decode cX1_lengthens 40 = .ok (.aload_n 0, 1) := by decide +kernel
theorem dX1_lengthens_41 : decode cX1_lengthens 41 = .ok (.getfield 12, 3) := by decide +kernel
theorem dX1_lengthens_44 : decode cX1_lengthens 44 = .ok (.getfield 81, 3) := by decide +kernel
theorem dX1_lengthens_47 : decode cX1_lengthens 47 = .ok (.iload_n 2, 1) := by decide +kernel
theorem dX1_lengthens_48 : decode cX1_lengthens 48 = .ok (.iaload, 1) := by decide +kernel
theorem dX1_lengthens_49 : decode cX1_lengthens 49 = .ok (.bipush 10, 2) := by decide +kernel
theorem dX1_lengthens_51 : decode cX1_lengthens 51 = .ok (.imul, 1) := by decide +kernel
theorem dX1_lengthens_52 : decode cX1_lengthens 52 = .ok (.iload_n 1, 1) := by decide +kernel
theorem dX1_lengthens_53 : decode cX1_lengthens 53 = .ok (.iadd, 1) := by decide +kernel
theorem dX1_lengthens_54 : decode cX1_lengthens 54 = .ok (.iastore, 1) := by decide +kernel
theorem dX1_lengthens_55 : decode cX1_lengthens 55 = .ok (.aload_n 0, 1) := by decide +kernel
theorem dX1_lengthens_56 : decode cX1_lengthens 56 = .ok (.dup, 1) := by decide +kernel
theorem dX1_lengthens_57 : decode cX1_lengthens 57 = .ok (.getfield 32, 3) := by decide +kernel
theorem dX1_lengthens_60 : decode cX1_lengthens 60 = .ok (.iconst 1, 1) := by decide +kernel
theorem dX1_lengthens_61 : decode cX1_lengthens 61 = .ok (.iadd, 1) := by decide +kernel
theorem dX1_lengthens_62 : decode cX1_lengthens 62 = .ok (.putfield 32, 3) := by decide +kernel
theorem dX1_lengthens_65 : decode cX1_lengthens 65 = .ok (.iconst 1, 1) := by decide +kernel
theorem dX1_lengthens_66 : decode cX1_lengthens 66 = .ok (.ireturn, 1) := by decide +kernel
theorem dX1_closes_0 : decode cX1_closes 0 = .ok (.aload_n 0, 1) := by decide +kernel
theorem dX1_closes_1 : decode cX1_closes 1 = .ok (.getfield 29, 3) := by decide +kernel
theorem dX1_closes_4 : decode cX1_closes 4 = .ok (.ifCond .ne 5, 3) := by decide +kernel
theorem dX1_closes_7 : decode cX1_closes 7 = .ok (.iconst 0, 1) := by decide +kernel
theorem dX1_closes_8 : decode cX1_closes 8 = .ok (.ireturn, 1) := by decide +kernel
theorem dX1_closes_9 : decode cX1_closes 9 = .ok (.aload_n 0, 1) := by decide +kernel
theorem dX1_closes_10 : decode cX1_closes 10 = .ok (.iconst 1, 1) := by decide +kernel
theorem dX1_closes_11 : decode cX1_closes 11 = .ok (.invokevirtual 53, 3) := by decide +kernel
theorem dX1_closes_14 : decode cX1_closes 14 = .ok (.aload_n 0, 1) := by decide +kernel
theorem dX1_closes_15 : decode cX1_closes 15 = .ok (.getfield 22, 3) := by decide +kernel
theorem dX1_closes_18 : decode cX1_closes 18 = .ok (.ifCond .le 13, 3) := by decide +kernel
theorem dX1_closes_21 : decode cX1_closes 21 = .ok (.aload_n 0, 1) := by decide +kernel
theorem dX1_closes_22 : decode cX1_closes 22 = .ok (.dup, 1) := by decide +kernel
theorem dX1_closes_23 : decode cX1_closes 23 = .ok (.getfield 22, 3) := by decide +kernel
theorem dX1_closes_26 : decode cX1_closes 26 = .ok (.iconst 1, 1) := by decide +kernel
theorem dX1_closes_27 : decode cX1_closes 27 = .ok (.isub, 1) := by decide +kernel
theorem dX1_closes_28 : decode cX1_closes 28 = .ok (.putfield 22, 3) := by decide +kernel
theorem dX1_closes_31 : decode cX1_closes 31 = .ok (.aload_n 0, 1) := by decide +kernel
theorem dX1_closes_32 : decode cX1_closes 32 = .ok (.dup, 1) := by decide +kernel
theorem dX1_closes_33 : decode cX1_closes 33 = .ok (.getfield 26, 3) := by decide +kernel
theorem dX1_closes_36 : decode cX1_closes 36 = .ok (.iconst 1, 1) := by decide +kernel
theorem dX1_closes_37 : decode cX1_closes 37 = .ok (.isub, 1) := by decide +kernel
theorem dX1_closes_38 : decode cX1_closes 38 = .ok (.putfield 26, 3) := by decide +kernel
theorem dX1_closes_41 : decode cX1_closes 41 = .ok (.aload_n 0, 1) := by decide +kernel
theorem dX1_closes_42 : decode cX1_closes 42 = .ok (.dup, 1) := by decide +kernel
theorem dX1_closes_43 : decode cX1_closes 43 = .ok (.getfield 29, 3) := by decide +kernel
theorem dX1_closes_46 : decode cX1_closes 46 = .ok (.iconst 1, 1) := by decide +kernel
theorem dX1_closes_47 : decode cX1_closes 47 = .ok (.isub, 1) := by decide +kernel
theorem dX1_closes_48 : decode cX1_closes 48 = .ok (.putfield 29, 3) := by decide +kernel
theorem dX1_closes_51 : decode cX1_closes 51 = .ok (.iconst 1, 1) := by decide +kernel
theorem dX1_closes_52 : decode cX1_closes 52 = .ok (.ireturn, 1) := by decide +kernel
theorem dX1_settle_0 : decode cX1_settle 0 = .ok (.aload_n 0, 1) := by decide +kernel
theorem dX1_settle_1 : decode cX1_settle 1 = .ok (.getfield 22, 3) := by decide +kernel
theorem dX1_settle_4 : decode cX1_settle 4 = .ok (.ifCond .le 75, 3) := by decide +kernel
theorem dX1_settle_7 : decode cX1_settle 7 = .ok (.aload_n 0, 1) := by decide +kernel
theorem dX1_settle_8 : decode cX1_settle 8 = .ok (.getfield 18, 3) := by decide +kernel
theorem dX1_settle_11 : decode cX1_settle 11 = .ok (.aload_n 0, 1) := by decide +kernel
theorem dX1_settle_12 : decode cX1_settle 12 = .ok (.getfield 22, 3) := by decide +kernel
theorem dX1_settle_15 : decode cX1_settle 15 = .ok (.iconst 1, 1) := by decide +kernel
theorem dX1_settle_16 : decode cX1_settle 16 = .ok (.isub, 1) := by decide +kernel
theorem dX1_settle_17 : decode cX1_settle 17 = .ok (.iaload, 1) := by decide +kernel
theorem dX1_settle_18 : decode cX1_settle 18 = .ok (.invokestatic 77, 3) := by decide +kernel
theorem dX1_settle_21 : decode cX1_settle 21 = .ok (.iload_n 1, 1) := by decide +kernel
theorem dX1_settle_22 : decode cX1_settle 22 = .ok (.if_icmp .lt 57, 3) := by decide +kernel
theorem dX1_settle_25 : decode cX1_settle 25 = .ok (.aload_n 0, 1) := by decide +kernel
theorem dX1_settle_26 : decode cX1_settle 26 = .ok (.dup, 1) := by decide +kernel
theorem dX1_settle_27 : decode cX1_settle 27 = .ok (.getfield 22, 3) := by decide +kernel
theorem dX1_settle_30 : decode cX1_settle 30 = .ok (.iconst 1, 1) := by decide +kernel
theorem dX1_settle_31 : decode cX1_settle 31 = .ok (.isub, 1) := by decide +kernel
theorem dX1_settle_32 : decode cX1_settle 32 = .ok (.putfield 22, 3) := by decide +kernel
theorem dX1_settle_35 : decode cX1_settle 35 = .ok (.aload_n 0, 1) := by decide +kernel
theorem dX1_settle_36 : decode cX1_settle 36 = .ok (.getfield 12, 3) := by decide +kernel
theorem dX1_settle_39 : decode cX1_settle 39 = .ok (.aload_n 0, 1) := by decide +kernel
theorem dX1_settle_40 : decode cX1_settle 40 = .ok (.getfield 18, 3) := by decide +kernel
theorem dX1_settle_43 : decode cX1_settle 43 = .ok (.aload_n 0, 1) := by decide +kernel
theorem dX1_settle_44 : decode cX1_settle 44 = .ok (.getfield 22, 3) := by decide +kernel
theorem dX1_settle_47 : decode cX1_settle 47 = .ok (.iaload, 1) := by decide +kernel
theorem dX1_settle_48 : decode cX1_settle 48 = .ok (.ineg, 1) := by decide +kernel
theorem dX1_settle_49 : decode cX1_settle 49 = .ok (.invokevirtual 63, 3) := by decide +kernel
theorem dX1_settle_52 : decode cX1_settle 52 = .ok (.aload_n 0, 1) := by decide +kernel
theorem dX1_settle_53 : decode cX1_settle 53 = .ok (.getfield 18, 3) := by decide +kernel
theorem dX1_settle_56 : decode cX1_settle 56 = .ok (.aload_n 0, 1) := by decide +kernel
theorem dX1_settle_57 : decode cX1_settle 57 = .ok (.getfield 22, 3) := by decide +kernel
theorem dX1_settle_60 : decode cX1_settle 60 = .ok (.iaload, 1) := by decide +kernel
theorem dX1_settle_61 : decode cX1_settle 61 = .ok (.bipush 33, 2) := by decide +kernel
theorem dX1_settle_63 : decode cX1_settle 63 = .ok (.if_icmp .ne (-63), 3) := by decide +kernel
theorem dX1_settle_66 : decode cX1_settle 66 = .ok (.aload_n 0, 1) := by decide +kernel
theorem dX1_settle_67 : decode cX1_settle 67 = .ok (.dup, 1) := by decide +kernel
theorem dX1_settle_68 : decode cX1_settle 68 = .ok (.getfield 26, 3) := by decide +kernel
theorem dX1_settle_71 : decode cX1_settle 71 = .ok (.iconst 1, 1) := by decide +kernel
theorem dX1_settle_72 : decode cX1_settle 72 = .ok (.isub, 1) := by decide +kernel
theorem dX1_settle_73 : decode cX1_settle 73 = .ok (.putfield 26, 3) := by decide +kernel
theorem dX1_settle_76 : decode cX1_settle 76 = .ok (.goto (-76), 3) := by decide +kernel
theorem dX1_settle_79 : decode cX1_settle 79 = .ok (.return_, 1) := by decide +kernel
theorem dX1_park_0 : decode cX1_park 0 = .ok (.aload_n 0, 1) := by decide +kernel
theorem dX1_park_1 : decode cX1_park 1 = .ok (.getfield 22, 3) := by decide +kernel
theorem dX1_park_4 : decode cX1_park 4 = .ok (.bipush 60, 2) := by decide +kernel
theorem dX1_park_6 : decode cX1_park 6 = .ok (.if_icmp .ge 23, 3) := by decide +kernel
theorem dX1_park_9 : decode cX1_park 9 = .ok (.aload_n 0, 1) := by decide +kernel
theorem dX1_park_10 : decode cX1_park 10 = .ok (.getfield 18, 3) := by decide +kernel
theorem dX1_park_13 : decode cX1_park 13 = .ok (.aload_n 0, 1) := by decide +kernel
theorem dX1_park_14 : decode cX1_park 14 = .ok (.getfield 22, 3) := by decide +kernel
theorem dX1_park_17 : decode cX1_park 17 = .ok (.iload_n 1, 1) := by decide +kernel
theorem dX1_park_18 : decode cX1_park 18 = .ok (.iastore, 1) := by decide +kernel
theorem dX1_park_19 : decode cX1_park 19 = .ok (.aload_n 0, 1) := by decide +kernel
theorem dX1_park_20 : decode cX1_park 20 = .ok (.dup, 1) := by decide +kernel
theorem dX1_park_21 : decode cX1_park 21 = .ok (.getfield 22, 3) := by decide +kernel
theorem dX1_park_24 : decode cX1_park 24 = .ok (.iconst 1, 1) := by decide +kernel
theorem dX1_park_25 : decode cX1_park 25 = .ok (.iadd, 1) := by decide +kernel
theorem dX1_park_26 : decode cX1_park 26 = .ok (.putfield 22, 3) := by decide +kernel
theorem dX1_park_29 : decode cX1_park 29 = .ok (.return_, 1) := by decide +kernel
theorem dX1_isNumeral_0 : decode cX1_isNumeral 0 = .ok (.iload_n 0, 1) := by decide +kernel
theorem dX1_isNumeral_1 : decode cX1_isNumeral 1 = .ok (.bipush 48, 2) := by decide +kernel
theorem dX1_isNumeral_3 : decode cX1_isNumeral 3 = .ok (.if_icmp .lt 13, 3) := by decide +kernel
theorem dX1_isNumeral_6 : decode cX1_isNumeral 6 = .ok (.iload_n 0, 1) := by decide +kernel
theorem dX1_isNumeral_7 : decode cX1_isNumeral 7 = .ok (.bipush 57, 2) := by decide +kernel
theorem dX1_isNumeral_9 : decode cX1_isNumeral 9 = .ok (.if_icmp .gt 7, 3) := by decide +kernel
theorem dX1_isNumeral_12 : decode cX1_isNumeral 12 = .ok (.iconst 1, 1) := by decide +kernel
theorem dX1_isNumeral_13 : decode cX1_isNumeral 13 = .ok (.goto 4, 3) := by decide +kernel
theorem dX1_isNumeral_16 : decode cX1_isNumeral 16 = .ok (.iconst 0, 1) := by decide +kernel
theorem dX1_isNumeral_17 : decode cX1_isNumeral 17 = .ok (.ireturn, 1) := by decide +kernel
theorem dX1_rankOf_0 : decode cX1_rankOf 0 = .ok (.iload_n 0, 1) := by decide +kernel
theorem dX1_rankOf_1 : decode cX1_rankOf 1 = .ok (.lookupswitch 122 #[(33, 119), (37, 117), (38, 101), (42, 113), (43, 109), (45, 111), (47, 115), (60, 103), (61, 105), (62, 107), (124, 99)], 99) := by decide +kernel
theorem dX1_rankOf_100 : decode cX1_rankOf 100 = .ok (.iconst 1, 1) := by decide +kernel
theorem dX1_rankOf_101 : decode cX1_rankOf 101 = .ok (.ireturn, 1) := by decide +kernel
theorem dX1_rankOf_102 : decode cX1_rankOf 102 = .ok (.iconst 2, 1) := by decide +kernel
theorem dX1_rankOf_103 : decode cX1_rankOf 103 = .ok (.ireturn, 1) := by decide +kernel
theorem dX1_rankOf_104 : decode cX1_rankOf 104 = .ok (.iconst 3, 1) := by decide +kernel
theorem dX1_rankOf_105 : decode cX1_rankOf 105 = .ok (.ireturn, 1) := by decide +kernel
theorem dX1_rankOf_106 : decode cX1_rankOf 106 = .ok (.iconst 3, 1) := by decide +kernel
theorem dX1_rankOf_107 : decode cX1_rankOf 107 = .ok (.ireturn, 1) := by decide +kernel
theorem dX1_rankOf_108 : decode cX1_rankOf 108 = .ok (.iconst 3, 1) := by decide +kernel
theorem dX1_rankOf_109 : decode cX1_rankOf 109 = .ok (.ireturn, 1) := by decide +kernel
theorem dX1_rankOf_110 : decode cX1_rankOf 110 = .ok (.iconst 4, 1) := by decide +kernel
theorem dX1_rankOf_111 : decode cX1_rankOf 111 = .ok (.ireturn, 1) := by decide +kernel
theorem dX1_rankOf_112 : decode cX1_rankOf 112 = .ok (.iconst 4, 1) := by decide +kernel
theorem dX1_rankOf_113 : decode cX1_rankOf 113 = .ok (.ireturn, 1) := by decide +kernel
theorem dX1_rankOf_114 : decode cX1_rankOf 114 = .ok (.iconst 5, 1) := by decide +kernel
theorem dX1_rankOf_115 : decode cX1_rankOf 115 = .ok (.ireturn, 1) := by decide +kernel
theorem dX1_rankOf_116 : decode cX1_rankOf 116 = .ok (.iconst 5, 1) := by decide +kernel
theorem dX1_rankOf_117 : decode cX1_rankOf 117 = .ok (.ireturn, 1) := by decide +kernel
theorem dX1_rankOf_118 : decode cX1_rankOf 118 = .ok (.iconst 5, 1) := by decide +kernel
theorem dX1_rankOf_119 : decode cX1_rankOf 119 = .ok (.ireturn, 1) := by decide +kernel
theorem dX1_rankOf_120 : decode cX1_rankOf 120 = .ok (.bipush 6, 2) := by decide +kernel
theorem dX1_rankOf_122 : decode cX1_rankOf 122 = .ok (.ireturn, 1) := by decide +kernel
theorem dX1_rankOf_123 : decode cX1_rankOf 123 = .ok (.iconst 0, 1) := by decide +kernel
theorem dX1_rankOf_124 : decode cX1_rankOf 124 = .ok (.ireturn, 1) := by decide +kernel
theorem dX2_init_0 : decode cX2_init 0 = .ok (.aload_n 0, 1) := by decide +kernel
theorem dX2_init_1 : decode cX2_init 1 = .ok (.invokespecial 3, 3) := by decide +kernel
theorem dX2_init_4 : decode cX2_init 4 = .ok (.aload_n 0, 1) := by decide +kernel
theorem dX2_init_5 : decode cX2_init 5 = .ok (.iconst 5, 1) := by decide +kernel
theorem dX2_init_6 : decode cX2_init 6 = .ok (.newarray .int, 2) := by decide +kernel
theorem dX2_init_8 : decode cX2_init 8 = .ok (.putfield 9, 3) := by decide +kernel
theorem dX2_init_11 : decode cX2_init 11 = .ok (.aload_n 0, 1) := by decide +kernel
theorem dX2_init_12 : decode cX2_init 12 = .ok (.iconst 5, 1) := by decide +kernel
theorem dX2_init_13 : decode cX2_init 13 = .ok (.newarray .int, 2) := by decide +kernel
theorem dX2_init_15 : decode cX2_init 15 = .ok (.putfield 15, 3) := by decide +kernel
theorem dX2_init_18 : decode cX2_init 18 = .ok (.aload_n 0, 1) := by decide +kernel
theorem dX2_init_19 : decode cX2_init 19 = .ok (.iconst 5, 1) := by decide +kernel
theorem dX2_init_20 : decode cX2_init 20 = .ok (.newarray .int, 2) := by decide +kernel
theorem dX2_init_22 : decode cX2_init 22 = .ok (.putfield 18, 3) := by decide +kernel
theorem dX2_init_25 : decode cX2_init 25 = .ok (.aload_n 0, 1) := by decide +kernel
theorem dX2_init_26 : decode cX2_init 26 = .ok (.iconst 5, 1) := by decide +kernel
theorem dX2_init_27 : decode cX2_init 27 = .ok (.newarray .int, 2) := by decide +kernel
theorem dX2_init_29 : decode cX2_init 29 = .ok (.putfield 21, 3) := by decide +kernel
theorem dX2_init_32 : decode cX2_init 32 = .ok (.aload_n 0, 1) := by decide +kernel
theorem dX2_init_33 : decode cX2_init 33 = .ok (.iconst 5, 1) := by decide +kernel
theorem dX2_init_34 : decode cX2_init 34 = .ok (.newarray .int, 2) := by decide +kernel
theorem dX2_init_36 : decode cX2_init 36 = .ok (.putfield 24, 3) := by decide +kernel
theorem dX2_init_39 : decode cX2_init 39 = .ok (.aload_n 0, 1) := by decide +kernel
theorem dX2_init_40 : decode cX2_init 40 = .ok (.iconst 0, 1) := by decide +kernel
theorem dX2_init_41 : decode cX2_init 41 = .ok (.putfield 27, 3) := by decide +kernel
theorem dX2_init_44 : decode cX2_init 44 = .ok (.return_, 1) := by decide +kernel
theorem dX2_add_0 : decode cX2_add 0 = .ok (.aload_n 0, 1) := by decide +kernel
theorem dX2_add_1 : decode cX2_add 1 = .ok (.getfield 27, 3) := by decide +kernel
theorem dX2_add_4 : decode cX2_add 4 = .ok (.istore_n 3, 1) := by decide +kernel
theorem dX2_add_5 : decode cX2_add 5 = .ok (.iload_n 3, 1) := by decide +kernel
theorem dX2_add_6 : decode cX2_add 6 = .ok (.iconst 5, 1) := by decide +kernel
theorem dX2_add_7 : decode cX2_add 7 = .ok (.if_icmp .lt 5, 3) := by decide +kernel
theorem dX2_add_10 : decode cX2_add 10 = .ok (.iconst (-1), 1) := by decide +kernel
theorem dX2_add_11 : decode cX2_add 11 = .ok (.ireturn, 1) := by decide +kernel
theorem dX2_add_12 : decode cX2_add 12 = .ok (.aload_n 0, 1) := by decide +kernel
theorem dX2_add_13 : decode cX2_add 13 = .ok (.getfield 9, 3) := by decide +kernel
theorem dX2_add_16 : decode cX2_add 16 = .ok (.iload_n 3, 1) := by decide +kernel
theorem dX2_add_17 : decode cX2_add 17 = .ok (.iload_n 1, 1) := by decide +kernel
theorem dX2_add_18 : decode cX2_add 18 = .ok (.iastore, 1) := by decide +kernel
theorem dX2_add_19 : decode cX2_add 19 = .ok (.aload_n 0, 1) := by decide +kernel
theorem dX2_add_20 : decode cX2_add 20 = .ok (.getfield 15, 3) := by decide +kernel
theorem dX2_add_23 : decode cX2_add 23 = .ok (.iload_n 3, 1) := by decide +kernel
theorem dX2_add_24 : decode cX2_add 24 = .ok (.iload_n 2, 1) := by decide +kernel
theorem dX2_add_25 : decode cX2_add 25 = .ok (.iastore, 1) := by decide +kernel
theorem dX2_add_26 : decode cX2_add 26 = .ok (.aload_n 0, 1) := by decide +kernel
theorem dX2_add_27 : decode cX2_add 27 = .ok (.getfield 18, 3) := by decide +kernel
theorem dX2_add_30 : decode cX2_add 30 = .ok (.iload_n 3, 1) := by decide +kernel
theorem dX2_add_31 : decode cX2_add 31 = .ok (.iconst 0, 1) := by decide +kernel
theorem dX2_add_32 : decode cX2_add 32 = .ok (.iastore, 1) := by decide +kernel
theorem dX2_add_33 : decode cX2_add 33 = .ok (.aload_n 0, 1) := by decide +kernel
theorem dX2_add_34 : decode cX2_add 34 = .ok (.getfield 21, 3) := by decide +kernel
theorem dX2_add_37 : decode cX2_add 37 = .ok (.iload_n 3, 1) := by decide +kernel
theorem dX2_add_38 : decode cX2_add 38 = .ok (.iconst 0, 1) := by decide +kernel
theorem dX2_add_39 : decode cX2_add 39 = .ok (.iastore, 1) := by decide +kernel
theorem dX2_add_40 : decode cX2_add 40 = .ok (.aload_n 0, 1) := by decide +kernel
theorem dX2_add_41 : decode cX2_add 41 = .ok (.getfield 24, 3) := by decide +kernel
theorem dX2_add_44 : decode cX2_add 44 = .ok (.iload_n 3, 1) := by decide +kernel
theorem dX2_add_45 : decode cX2_add 45 = .ok (.iconst 0, 1) := by decide +kernel
theorem dX2_add_46 : decode cX2_add 46 = .ok (.iastore, 1) := by decide +kernel
theorem dX2_add_47 : decode cX2_add 47 = .ok (.aload_n 0, 1) := by decide +kernel
theorem dX2_add_48 : decode cX2_add 48 = .ok (.dup, 1) := by decide +kernel
theorem dX2_add_49 : decode cX2_add 49 = .ok (.getfield 27, 3) := by decide +kernel
theorem dX2_add_52 : decode cX2_add 52 = .ok (.iconst 1, 1) := by decide +kernel
theorem dX2_add_53 : decode cX2_add 53 = .ok (.iadd, 1) := by decide +kernel
theorem dX2_add_54 : decode cX2_add 54 = .ok (.putfield 27, 3) := by decide +kernel
theorem dX2_add_57 : decode cX2_add 57 = .ok (.iload_n 3, 1) := by decide +kernel
theorem dX2_add_58 : decode cX2_add 58 = .ok (.ireturn, 1) := by decide +kernel
theorem dX2_runFrom_0 : decode cX2_runFrom 0 = .ok (.aload_n 0, 1) := by decide +kernel
theorem dX2_runFrom_1 : decode cX2_runFrom 1 = .ok (.getfield 9, 3) := by decide +kernel
theorem dX2_runFrom_4 : decode cX2_runFrom 4 = .ok (.iload_n 1, 1) := by decide +kernel
theorem dX2_runFrom_5 : decode cX2_runFrom 5 = .ok (.iaload, 1) := by decide +kernel
theorem dX2_runFrom_6 : decode cX2_runFrom 6 = .ok (.aload_n 0, 1) := by decide +kernel
theorem dX2_runFrom_7 : decode cX2_runFrom 7 = .ok (.getfield 15, 3) := by decide +kernel
theorem dX2_runFrom_10 : decode cX2_runFrom 10 = .ok (.iload_n 1, 1) := by decide +kernel
theorem dX2_runFrom_11 : decode cX2_runFrom 11 = .ok (.iaload, 1) := by decide +kernel
theorem dX2_runFrom_12 : decode cX2_runFrom 12 = .ok (.bipush 90, 2) := by decide +kernel
theorem dX2_runFrom_14 : decode cX2_runFrom 14 = .ok (.iload_n 2, 1) := by decide +kernel
theorem dX2_runFrom_15 : decode cX2_runFrom 15 = .ok (.isub, 1) := by decide +kernel
theorem dX2_runFrom_16 : decode cX2_runFrom 16 = .ok (.imul, 1) := by decide +kernel
theorem dX2_runFrom_17 : decode cX2_runFrom 17 = .ok (.bipush 10, 2) := by decide +kernel
theorem dX2_runFrom_19 : decode cX2_runFrom 19 = .ok (.idiv, 1) := by decide +kernel
theorem dX2_runFrom_20 : decode cX2_runFrom 20 = .ok (.iadd, 1) := by decide +kernel
theorem dX2_runFrom_21 : decode cX2_runFrom 21 = .ok (.ireturn, 1) := by decide +kernel
theorem dX2_backFrom_0 : decode cX2_backFrom 0 = .ok (.aload_n 0, 1) := by decide +kernel
theorem dX2_backFrom_1 : decode cX2_backFrom 1 = .ok (.getfield 9, 3) := by decide +kernel
theorem dX2_backFrom_4 : decode cX2_backFrom 4 = .ok (.iload_n 1, 1) := by decide +kernel
theorem dX2_backFrom_5 : decode cX2_backFrom 5 = .ok (.iaload, 1) := by decide +kernel
theorem dX2_backFrom_6 : decode cX2_backFrom 6 = .ok (.aload_n 0, 1) := by decide +kernel
theorem dX2_backFrom_7 : decode cX2_backFrom 7 = .ok (.getfield 15, 3) := by decide +kernel
theorem dX2_backFrom_10 : decode cX2_backFrom 10 = .ok (.iload_n 1, 1) := by decide +kernel
theorem dX2_backFrom_11 : decode cX2_backFrom 11 = .ok (.iaload, 1) := by decide +kernel
theorem dX2_backFrom_12 : decode cX2_backFrom 12 = .ok (.iload_n 2, 1) := by decide +kernel
theorem dX2_backFrom_13 : decode cX2_backFrom 13 = .ok (.imul, 1) := by decide +kernel
theorem dX2_backFrom_14 : decode cX2_backFrom 14 = .ok (.bipush 10, 2) := by decide +kernel
theorem dX2_backFrom_16 : decode cX2_backFrom 16 = .ok (.idiv, 1) := by decide +kernel
theorem dX2_backFrom_17 : decode cX2_backFrom 17 = .ok (.iadd, 1) := by decide +kernel
theorem dX2_backFrom_18 : decode cX2_backFrom 18 = .ok (.ireturn, 1) := by decide +kernel
theorem dX2_takes_0 : decode cX2_takes 0 = .ok (.aload_n 1, 1) := by decide +kernel
theorem dX2_takes_1 : decode cX2_takes 1 = .ok (.getfield 9, 3) := by decide +kernel
theorem dX2_takes_4 : decode cX2_takes 4 = .ok (.iconst 0, 1) := by decide +kernel
theorem dX2_takes_5 : decode cX2_takes 5 = .ok (.aload_n 0, 1) := by decide +kernel
theorem dX2_takes_6 : decode cX2_takes 6 = .ok (.getfield 9, 3) := by decide +kernel
theorem dX2_takes_9 : decode cX2_takes 9 = .ok (.iconst 0, 1) := by decide +kernel
theorem dX2_takes_10 : decode cX2_takes 10 = .ok (.iconst 5, 1) := by decide +kernel
theorem dX2_takes_11 : decode cX2_takes 11 = .ok (.invokestatic 31, 3) := by decide +kernel
theorem dX2_takes_14 : decode cX2_takes 14 = .ok (.aload_n 1, 1) := by decide +kernel
theorem dX2_takes_15 : decode cX2_takes 15 = .ok (.getfield 15, 3) := by decide +kernel
theorem dX2_takes_18 : decode cX2_takes 18 = .ok (.iconst 0, 1) := by decide +kernel
theorem dX2_takes_19 : decode cX2_takes 19 = .ok (.aload_n 0, 1) := by decide +kernel
theorem dX2_takes_20 : decode cX2_takes 20 = .ok (.getfield 15, 3) := by decide +kernel
theorem dX2_takes_23 : decode cX2_takes 23 = .ok (.iconst 0, 1) := by decide +kernel
theorem dX2_takes_24 : decode cX2_takes 24 = .ok (.iconst 5, 1) := by decide +kernel
theorem dX2_takes_25 : decode cX2_takes 25 = .ok (.invokestatic 31, 3) := by decide +kernel
theorem dX2_takes_28 : decode cX2_takes 28 = .ok (.aload_n 1, 1) := by decide +kernel
theorem dX2_takes_29 : decode cX2_takes 29 = .ok (.getfield 18, 3) := by decide +kernel
theorem dX2_takes_32 : decode cX2_takes 32 = .ok (.iconst 0, 1) := by decide +kernel
theorem dX2_takes_33 : decode cX2_takes 33 = .ok (.aload_n 0, 1) := by decide +kernel
theorem dX2_takes_34 : decode cX2_takes 34 = .ok (.getfield 18, 3) := by decide +kernel
theorem dX2_takes_37 : decode cX2_takes 37 = .ok (.iconst 0, 1) := by decide +kernel
theorem dX2_takes_38 : decode cX2_takes 38 = .ok (.iconst 5, 1) := by decide +kernel
theorem dX2_takes_39 : decode cX2_takes 39 = .ok (.invokestatic 31, 3) := by decide +kernel
theorem dX2_takes_42 : decode cX2_takes 42 = .ok (.aload_n 1, 1) := by decide +kernel
theorem dX2_takes_43 : decode cX2_takes 43 = .ok (.getfield 21, 3) := by decide +kernel
theorem dX2_takes_46 : decode cX2_takes 46 = .ok (.iconst 0, 1) := by decide +kernel
theorem dX2_takes_47 : decode cX2_takes 47 = .ok (.aload_n 0, 1) := by decide +kernel
theorem dX2_takes_48 : decode cX2_takes 48 = .ok (.getfield 21, 3) := by decide +kernel
theorem dX2_takes_51 : decode cX2_takes 51 = .ok (.iconst 0, 1) := by decide +kernel
theorem dX2_takes_52 : decode cX2_takes 52 = .ok (.iconst 5, 1) := by decide +kernel
theorem dX2_takes_53 : decode cX2_takes 53 = .ok (.invokestatic 31, 3) := by decide +kernel
theorem dX2_takes_56 : decode cX2_takes 56 = .ok (.aload_n 1, 1) := by decide +kernel
theorem dX2_takes_57 : decode cX2_takes 57 = .ok (.getfield 24, 3) := by decide +kernel
theorem dX2_takes_60 : decode cX2_takes 60 = .ok (.iconst 0, 1) := by decide +kernel
theorem dX2_takes_61 : decode cX2_takes 61 = .ok (.aload_n 0, 1) := by decide +kernel
theorem dX2_takes_62 : decode cX2_takes 62 = .ok (.getfield 24, 3) := by decide +kernel
theorem dX2_takes_65 : decode cX2_takes 65 = .ok (.iconst 0, 1) := by decide +kernel
theorem dX2_takes_66 : decode cX2_takes 66 = .ok (.iconst 5, 1) := by decide +kernel
theorem dX2_takes_67 : decode cX2_takes 67 = .ok (.invokestatic 31, 3) := by decide +kernel
theorem dX2_takes_70 : decode cX2_takes 70 = .ok (.aload_n 0, 1) := by decide +kernel
theorem dX2_takes_71 : decode cX2_takes 71 = .ok (.aload_n 1, 1) := by decide +kernel
theorem dX2_takes_72 : decode cX2_takes 72 = .ok (.getfield 27, 3) := by decide +kernel
theorem dX2_takes_75 : decode cX2_takes 75 = .ok (.putfield 27, 3) := by decide +kernel
theorem dX2_takes_78 : decode cX2_takes 78 = .ok (.return_, 1) := by decide +kernel
theorem dX3_init_0 : decode cX3_init 0 = .ok (.aload_n 0, 1) := by decide +kernel
theorem dX3_init_1 : decode cX3_init 1 = .ok (.invokespecial 3, 3) := by decide +kernel
theorem dX3_init_4 : decode cX3_init 4 = .ok (.aload_n 0, 1) := by decide +kernel
theorem dX3_init_5 : decode cX3_init 5 = .ok (.new 9, 3) := by decide +kernel
theorem dX3_init_8 : decode cX3_init 8 = .ok (.dup, 1) := by decide +kernel
theorem dX3_init_9 : decode cX3_init 9 = .ok (.invokespecial 11, 3) := by decide +kernel
theorem dX3_init_12 : decode cX3_init 12 = .ok (.putfield 12, 3) := by decide +kernel
theorem dX3_init_15 : decode cX3_init 15 = .ok (.aload_n 0, 1) := by decide +kernel
theorem dX3_init_16 : decode cX3_init 16 = .ok (.new 18, 3) := by decide +kernel
theorem dX3_init_19 : decode cX3_init 19 = .ok (.dup, 1) := by decide +kernel
theorem dX3_init_20 : decode cX3_init 20 = .ok (.invokespecial 20, 3) := by decide +kernel
theorem dX3_init_23 : decode cX3_init 23 = .ok (.putfield 21, 3) := by decide +kernel
theorem dX3_init_26 : decode cX3_init 26 = .ok (.aload_n 0, 1) := by decide +kernel
theorem dX3_init_27 : decode cX3_init 27 = .ok (.new 25, 3) := by decide +kernel
theorem dX3_init_30 : decode cX3_init 30 = .ok (.dup, 1) := by decide +kernel
theorem dX3_init_31 : decode cX3_init 31 = .ok (.invokespecial 27, 3) := by decide +kernel
theorem dX3_init_34 : decode cX3_init 34 = .ok (.putfield 28, 3) := by decide +kernel
theorem dX3_init_37 : decode cX3_init 37 = .ok (.aload_n 0, 1) := by decide +kernel
theorem dX3_init_38 : decode cX3_init 38 = .ok (.new 25, 3) := by decide +kernel
theorem dX3_init_41 : decode cX3_init 41 = .ok (.dup, 1) := by decide +kernel
theorem dX3_init_42 : decode cX3_init 42 = .ok (.invokespecial 27, 3) := by decide +kernel
theorem dX3_init_45 : decode cX3_init 45 = .ok (.putfield 32, 3) := by decide +kernel
theorem dX3_init_48 : decode cX3_init 48 = .ok (.aload_n 0, 1) := by decide +kernel
theorem dX3_init_49 : decode cX3_init 49 = .ok (.bipush 60, 2) := by decide +kernel
theorem dX3_init_51 : decode cX3_init 51 = .ok (.newarray .byte, 2) := by decide +kernel
theorem dX3_init_53 : decode cX3_init 53 = .ok (.putfield 35, 3) := by decide +kernel
theorem dX3_init_56 : decode cX3_init 56 = .ok (.aload_n 0, 1) := by decide +kernel
theorem dX3_init_57 : decode cX3_init 57 = .ok (.iconst 0, 1) := by decide +kernel
theorem dX3_init_58 : decode cX3_init 58 = .ok (.putfield 39, 3) := by decide +kernel
theorem dX3_init_61 : decode cX3_init 61 = .ok (.aload_n 0, 1) := by decide +kernel
theorem dX3_init_62 : decode cX3_init 62 = .ok (.bipush 24, 2) := by decide +kernel
theorem dX3_init_64 : decode cX3_init 64 = .ok (.newarray .int, 2) := by decide +kernel
theorem dX3_init_66 : decode cX3_init 66 = .ok (.putfield 43, 3) := by decide +kernel
theorem dX3_init_69 : decode cX3_init 69 = .ok (.aload_n 0, 1) := by decide +kernel
theorem dX3_init_70 : decode cX3_init 70 = .ok (.iconst 0, 1) := by decide +kernel
theorem dX3_init_71 : decode cX3_init 71 = .ok (.putfield 47, 3) := by decide +kernel
theorem dX3_init_74 : decode cX3_init 74 = .ok (.aload_n 0, 1) := by decide +kernel
theorem dX3_init_75 : decode cX3_init 75 = .ok (.bipush 100, 2) := by decide +kernel
theorem dX3_init_77 : decode cX3_init 77 = .ok (.putfield 50, 3) := by decide +kernel
theorem dX3_init_80 : decode cX3_init 80 = .ok (.aload_n 0, 1) := by decide +kernel
theorem dX3_init_81 : decode cX3_init 81 = .ok (.sipush 130, 3) := by decide +kernel
theorem dX3_init_84 : decode cX3_init 84 = .ok (.putfield 53, 3) := by decide +kernel
theorem dX3_init_87 : decode cX3_init 87 = .ok (.aload_n 0, 1) := by decide +kernel
theorem dX3_init_88 : decode cX3_init 88 = .ok (.iconst 0, 1) := by decide +kernel
theorem dX3_init_89 : decode cX3_init 89 = .ok (.putfield 56, 3) := by decide +kernel
theorem dX3_init_92 : decode cX3_init 92 = .ok (.aload_n 0, 1) := by decide +kernel
theorem dX3_init_93 : decode cX3_init 93 = .ok (.iconst 0, 1) := by decide +kernel
theorem dX3_init_94 : decode cX3_init 94 = .ok (.putfield 59, 3) := by decide +kernel
theorem dX3_init_97 : decode cX3_init 97 = .ok (.aload_n 0, 1) := by decide +kernel
theorem dX3_init_98 : decode cX3_init 98 = .ok (.iconst 0, 1) := by decide +kernel
theorem dX3_init_99 : decode cX3_init 99 = .ok (.putfield 62, 3) := by decide +kernel
theorem dX3_init_102 : decode cX3_init 102 = .ok (.aload_n 0, 1) := by decide +kernel
theorem dX3_init_103 : decode cX3_init 103 = .ok (.iconst 0, 1) := by decide +kernel
theorem dX3_init_104 : decode cX3_init 104 = .ok (.putfield 65, 3) := by decide +kernel
theorem dX3_init_107 : decode cX3_init 107 = .ok (.aload_n 0, 1) := by decide +kernel
theorem dX3_init_108 : decode cX3_init 108 = .ok (.iconst 1, 1) := by decide +kernel
theorem dX3_init_109 : decode cX3_init 109 = .ok (.putfield 68, 3) := by decide +kernel
theorem dX3_init_112 : decode cX3_init 112 = .ok (.return_, 1) := by decide +kernel
theorem dX3_takes_0 : decode cX3_takes 0 = .ok (.aload_n 0, 1) := by decide +kernel
theorem dX3_takes_1 : decode cX3_takes 1 = .ok (.getfield 12, 3) := by decide +kernel
theorem dX3_takes_4 : decode cX3_takes 4 = .ok (.aload_n 1, 1) := by decide +kernel
theorem dX3_takes_5 : decode cX3_takes 5 = .ok (.getfield 12, 3) := by decide +kernel
theorem dX3_takes_8 : decode cX3_takes 8 = .ok (.invokevirtual 71, 3) := by decide +kernel
theorem dX3_takes_11 : decode cX3_takes 11 = .ok (.aload_n 0, 1) := by decide +kernel
theorem dX3_takes_12 : decode cX3_takes 12 = .ok (.getfield 21, 3) := by decide +kernel
theorem dX3_takes_15 : decode cX3_takes 15 = .ok (.aload_n 1, 1) := by decide +kernel
theorem dX3_takes_16 : decode cX3_takes 16 = .ok (.getfield 21, 3) := by decide +kernel
theorem dX3_takes_19 : decode cX3_takes 19 = .ok (.invokevirtual 75, 3) := by decide +kernel
theorem dX3_takes_22 : decode cX3_takes 22 = .ok (.aload_n 0, 1) := by decide +kernel
theorem dX3_takes_23 : decode cX3_takes 23 = .ok (.getfield 28, 3) := by decide +kernel
theorem dX3_takes_26 : decode cX3_takes 26 = .ok (.aload_n 1, 1) := by decide +kernel
theorem dX3_takes_27 : decode cX3_takes 27 = .ok (.getfield 28, 3) := by decide +kernel
theorem dX3_takes_30 : decode cX3_takes 30 = .ok (.invokevirtual 78, 3) := by decide +kernel
theorem dX3_takes_33 : decode cX3_takes 33 = .ok (.aload_n 0, 1) := by decide +kernel
theorem dX3_takes_34 : decode cX3_takes 34 = .ok (.getfield 32, 3) := by decide +kernel
theorem dX3_takes_37 : decode cX3_takes 37 = .ok (.aload_n 1, 1) := by decide +kernel
theorem dX3_takes_38 : decode cX3_takes 38 = .ok (.getfield 32, 3) := by decide +kernel
theorem dX3_takes_41 : decode cX3_takes 41 = .ok (.invokevirtual 78, 3) := by decide +kernel
theorem dX3_takes_44 : decode cX3_takes 44 = .ok (.aload_n 1, 1) := by decide +kernel
theorem dX3_takes_45 : decode cX3_takes 45 = .ok (.getfield 35, 3) := by decide +kernel
theorem dX3_takes_48 : decode cX3_takes 48 = .ok (.iconst 0, 1) := by decide +kernel
theorem dX3_takes_49 : decode cX3_takes 49 = .ok (.aload_n 0, 1) := by decide +kernel
theorem dX3_takes_50 : decode cX3_takes 50 = .ok (.getfield 35, 3) := by decide +kernel
theorem dX3_takes_53 : decode cX3_takes 53 = .ok (.iconst 0, 1) := by decide +kernel
theorem dX3_takes_54 : decode cX3_takes 54 = .ok (.bipush 60, 2) := by decide +kernel
theorem dX3_takes_56 : decode cX3_takes 56 = .ok (.invokestatic 81, 3) := by decide +kernel
theorem dX3_takes_59 : decode cX3_takes 59 = .ok (.aload_n 0, 1) := by decide +kernel
theorem dX3_takes_60 : decode cX3_takes 60 = .ok (.aload_n 1, 1) := by decide +kernel
theorem dX3_takes_61 : decode cX3_takes 61 = .ok (.getfield 39, 3) := by decide +kernel
theorem dX3_takes_64 : decode cX3_takes 64 = .ok (.putfield 39, 3) := by decide +kernel
theorem dX3_takes_67 : decode cX3_takes 67 = .ok (.aload_n 1, 1) := by decide +kernel
theorem dX3_takes_68 : decode cX3_takes 68 = .ok (.getfield 43, 3) := by decide +kernel
theorem dX3_takes_71 : decode cX3_takes 71 = .ok (.iconst 0, 1) := by decide +kernel
theorem dX3_takes_72 : decode cX3_takes 72 = .ok (.aload_n 0, 1) := by decide +kernel
theorem dX3_takes_73 : decode cX3_takes 73 = .ok (.getfield 43, 3) := by decide +kernel
theorem dX3_takes_76 : decode cX3_takes 76 = .ok (.iconst 0, 1) := by decide +kernel
theorem dX3_takes_77 : decode cX3_takes 77 = .ok (.bipush 24, 2) := by decide +kernel
theorem dX3_takes_79 : decode cX3_takes 79 = .ok (.invokestatic 81, 3) := by decide +kernel
theorem dX3_takes_82 : decode cX3_takes 82 = .ok (.aload_n 0, 1) := by decide +kernel
theorem dX3_takes_83 : decode cX3_takes 83 = .ok (.aload_n 1, 1) := by decide +kernel
theorem dX3_takes_84 : decode cX3_takes 84 = .ok (.getfield 47, 3) := by decide +kernel
theorem dX3_takes_87 : decode cX3_takes 87 = .ok (.putfield 47, 3) := by decide +kernel
theorem dX3_takes_90 : decode cX3_takes 90 = .ok (.aload_n 0, 1) := by decide +kernel
theorem dX3_takes_91 : decode cX3_takes 91 = .ok (.aload_n 1, 1) := by decide +kernel
theorem dX3_takes_92 : decode cX3_takes 92 = .ok (.getfield 50, 3) := by decide +kernel
theorem dX3_takes_95 : decode cX3_takes 95 = .ok (.putfield 50, 3) := by decide +kernel
theorem dX3_takes_98 : decode cX3_takes 98 = .ok (.aload_n 0, 1) := by decide +kernel
theorem dX3_takes_99 : decode cX3_takes 99 = .ok (.aload_n 1, 1) := by decide +kernel
theorem dX3_takes_100 : decode cX3_takes 100 = .ok (.getfield 53, 3) := by decide +kernel
theorem dX3_takes_103 : decode cX3_takes 103 = .ok (.putfield 53, 3) := by decide +kernel
theorem dX3_takes_106 : decode cX3_takes 106 = .ok (.aload_n 0, 1) := by decide +kernel
theorem dX3_takes_107 : decode cX3_takes 107 = .ok (.aload_n 1, 1) := by decide +kernel
theorem dX3_takes_108 : decode cX3_takes 108 = .ok (.getfield 56, 3) := by decide +kernel
theorem dX3_takes_111 : decode cX3_takes 111 = .ok (.putfield 56, 3) := by decide +kernel
theorem dX3_takes_114 : decode cX3_takes 114 = .ok (.aload_n 0, 1) := by decide +kernel
theorem dX3_takes_115 : decode cX3_takes 115 = .ok (.aload_n 1, 1) := by decide +kernel
theorem dX3_takes_116 : decode cX3_takes 116 = .ok (.getfield 59, 3) := by decide +kernel
theorem dX3_takes_119 : decode cX3_takes 119 = .ok (.putfield 59, 3) := by decide +kernel
theorem dX3_takes_122 : decode cX3_takes 122 = .ok (.aload_n 0, 1) := by decide +kernel
theorem dX3_takes_123 : decode cX3_takes 123 = .ok (.aload_n 1, 1) := by decide +kernel
theorem dX3_takes_124 : decode cX3_takes 124 = .ok (.getfield 62, 3) := by decide +kernel
theorem dX3_takes_127 : decode cX3_takes 127 = .ok (.putfield 62, 3) := by decide +kernel
theorem dX3_takes_130 : decode cX3_takes 130 = .ok (.aload_n 0, 1) := by decide +kernel
theorem dX3_takes_131 : decode cX3_takes 131 = .ok (.aload_n 1, 1) := by decide +kernel
theorem dX3_takes_132 : decode cX3_takes 132 = .ok (.getfield 65, 3) := by decide +kernel
theorem dX3_takes_135 : decode cX3_takes 135 = .ok (.putfield 65, 3) := by decide +kernel
theorem dX3_takes_138 : decode cX3_takes 138 = .ok (.aload_n 0, 1) := by decide +kernel
theorem dX3_takes_139 : decode cX3_takes 139 = .ok (.aload_n 1, 1) := by decide +kernel
theorem dX3_takes_140 : decode cX3_takes 140 = .ok (.getfield 68, 3) := by decide +kernel
theorem dX3_takes_143 : decode cX3_takes 143 = .ok (.putfield 68, 3) := by decide +kernel
theorem dX3_takes_146 : decode cX3_takes 146 = .ok (.return_, 1) := by decide +kernel
theorem dX3_change_0 : decode cX3_change 0 = .ok (.iload_n 1, 1) := by decide +kernel
theorem dX3_change_1 : decode cX3_change 1 = .ok (.tableswitch 66 0 2 #[27, 40, 53], 27) := by decide +kernel
theorem dX3_change_28 : decode cX3_change 28 = .ok (.aload_n 0, 1) := by decide +kernel
theorem dX3_change_29 : decode cX3_change 29 = .ok (.getfield 50, 3) := by decide +kernel
theorem dX3_change_32 : decode cX3_change 32 = .ok (.istore_n 3, 1) := by decide +kernel
theorem dX3_change_33 : decode cX3_change 33 = .ok (.aload_n 0, 1) := by decide +kernel
theorem dX3_change_34 : decode cX3_change 34 = .ok (.iload_n 2, 1) := by decide +kernel
theorem dX3_change_35 : decode cX3_change 35 = .ok (.putfield 50, 3) := by decide +kernel
theorem dX3_change_38 : decode cX3_change 38 = .ok (.goto 39, 3) := by decide +kernel
theorem dX3_change_41 : decode cX3_change 41 = .ok (.aload_n 0, 1) := by decide +kernel
theorem dX3_change_42 : decode cX3_change 42 = .ok (.getfield 53, 3) := by decide +kernel
theorem dX3_change_45 : decode cX3_change 45 = .ok (.istore_n 3, 1) := by decide +kernel
theorem dX3_change_46 : decode cX3_change 46 = .ok (.aload_n 0, 1) := by decide +kernel
theorem dX3_change_47 : decode cX3_change 47 = .ok (.iload_n 2, 1) := by decide +kernel
theorem dX3_change_48 : decode cX3_change 48 = .ok (.putfield 53, 3) := by decide +kernel
theorem dX3_change_51 : decode cX3_change 51 = .ok (.goto 26, 3) := by decide +kernel
theorem dX3_change_54 : decode cX3_change 54 = .ok (.aload_n 0, 1) := by decide +kernel
theorem dX3_change_55 : decode cX3_change 55 = .ok (.getfield 56, 3) := by decide +kernel
theorem dX3_change_58 : decode cX3_change 58 = .ok (.istore_n 3, 1) := by decide +kernel
theorem dX3_change_59 : decode cX3_change 59 = .ok (.aload_n 0, 1) := by decide +kernel
theorem dX3_change_60 : decode cX3_change 60 = .ok (.iload_n 2, 1) := by decide +kernel
theorem dX3_change_61 : decode cX3_change 61 = .ok (.putfield 56, 3) := by decide +kernel
theorem dX3_change_64 : decode cX3_change 64 = .ok (.goto 13, 3) := by decide +kernel
theorem dX3_change_67 : decode cX3_change 67 = .ok (.aload_n 0, 1) := by decide +kernel
theorem dX3_change_68 : decode cX3_change 68 = .ok (.getfield 59, 3) := by decide +kernel
theorem dX3_change_71 : decode cX3_change 71 = .ok (.istore_n 3, 1) := by decide +kernel
theorem dX3_change_72 : decode cX3_change 72 = .ok (.aload_n 0, 1) := by decide +kernel
theorem dX3_change_73 : decode cX3_change 73 = .ok (.iload_n 2, 1) := by decide +kernel
theorem dX3_change_74 : decode cX3_change 74 = .ok (.putfield 59, 3) := by decide +kernel
theorem dX3_change_77 : decode cX3_change 77 = .ok (.iload_n 3, 1) := by decide +kernel
theorem dX3_change_78 : decode cX3_change 78 = .ok (.ireturn, 1) := by decide +kernel
theorem dX3_textOf_0 : decode cX3_textOf 0 = .ok (.iload_n 1, 1) := by decide +kernel
theorem dX3_textOf_1 : decode cX3_textOf 1 = .ok (.ifCond .ne 10, 3) := by decide +kernel
theorem dX3_textOf_4 : decode cX3_textOf 4 = .ok (.aload_n 0, 1) := by decide +kernel
theorem dX3_textOf_5 : decode cX3_textOf 5 = .ok (.getfield 28, 3) := by decide +kernel
theorem dX3_textOf_8 : decode cX3_textOf 8 = .ok (.goto 7, 3) := by decide +kernel
theorem dX3_textOf_11 : decode cX3_textOf 11 = .ok (.aload_n 0, 1) := by decide +kernel
theorem dX3_textOf_12 : decode cX3_textOf 12 = .ok (.getfield 32, 3) := by decide +kernel
theorem dX3_textOf_15 : decode cX3_textOf 15 = .ok (.areturn, 1) := by decide +kernel
theorem dX3_gives_0 : decode cX3_gives 0 = .ok (.iload_n 1, 1) := by decide +kernel
theorem dX3_gives_1 : decode cX3_gives 1 = .ok (.ifCond .ne 36, 3) := by decide +kernel
theorem dX3_gives_4 : decode cX3_gives 4 = .ok (.aload_n 0, 1) := by decide +kernel
theorem dX3_gives_5 : decode cX3_gives 5 = .ok (.getfield 28, 3) := by decide +kernel
theorem dX3_gives_8 : decode cX3_gives 8 = .ok (.getfield 87, 3) := by decide +kernel
theorem dX3_gives_11 : decode cX3_gives 11 = .ok (.ifCond .eq 17, 3) := by decide +kernel
theorem dX3_gives_14 : decode cX3_gives 14 = .ok (.aload_n 0, 1) := by decide +kernel
theorem dX3_gives_15 : decode cX3_gives 15 = .ok (.getfield 28, 3) := by decide +kernel
theorem dX3_gives_18 : decode cX3_gives 18 = .ok (.iload_n 2, 1) := by decide +kernel
theorem dX3_gives_19 : decode cX3_gives 19 = .ok (.iload_n 3, 1) := by decide +kernel
theorem dX3_gives_20 : decode cX3_gives 20 = .ok (.iload 4, 2) := by decide +kernel
theorem dX3_gives_22 : decode cX3_gives 22 = .ok (.invokevirtual 91, 3) := by decide +kernel
theorem dX3_gives_25 : decode cX3_gives 25 = .ok (.goto 4, 3) := by decide +kernel
theorem dX3_gives_28 : decode cX3_gives 28 = .ok (.iload_n 2, 1) := by decide +kernel
theorem dX3_gives_29 : decode cX3_gives 29 = .ok (.iconst 0, 1) := by decide +kernel
theorem dX3_gives_30 : decode cX3_gives 30 = .ok (.sipush 199, 3) := by decide +kernel
theorem dX3_gives_33 : decode cX3_gives 33 = .ok (.invokestatic 95, 3) := by decide +kernel
theorem dX3_gives_36 : decode cX3_gives 36 = .ok (.ireturn, 1) := by decide +kernel
theorem dX3_gives_37 : decode cX3_gives 37 = .ok (.iload_n 2, 1) := by decide +kernel
theorem dX3_gives_38 : decode cX3_gives 38 = .ok (.iconst 1, 1) := by decide +kernel
theorem dX3_gives_39 : decode cX3_gives 39 = .ok (.if_icmp .ne 8, 3) := by decide +kernel
theorem dX3_gives_42 : decode cX3_gives 42 = .ok (.bipush 25, 2) := by decide +kernel
theorem dX3_gives_44 : decode cX3_gives 44 = .ok (.goto 5, 3) := by decide +kernel
theorem dX3_gives_47 : decode cX3_gives 47 = .ok (.bipush (-50), 2) := by decide +kernel
theorem dX3_gives_49 : decode cX3_gives 49 = .ok (.istore 5, 2) := by decide +kernel
theorem dX3_gives_51 : decode cX3_gives 51 = .ok (.aload_n 0, 1) := by decide +kernel
theorem dX3_gives_52 : decode cX3_gives 52 = .ok (.getfield 32, 3) := by decide +kernel
theorem dX3_gives_55 : decode cX3_gives 55 = .ok (.getfield 87, 3) := by decide +kernel
theorem dX3_gives_58 : decode cX3_gives 58 = .ok (.ifCond .eq 17, 3) := by decide +kernel
theorem dX3_gives_61 : decode cX3_gives 61 = .ok (.aload_n 0, 1) := by decide +kernel
theorem dX3_gives_62 : decode cX3_gives 62 = .ok (.getfield 32, 3) := by decide +kernel
theorem dX3_gives_65 : decode cX3_gives 65 = .ok (.iload_n 2, 1) := by decide +kernel
theorem dX3_gives_66 : decode cX3_gives 66 = .ok (.iload_n 3, 1) := by decide +kernel
theorem dX3_gives_67 : decode cX3_gives 67 = .ok (.iload 4, 2) := by decide +kernel
theorem dX3_gives_69 : decode cX3_gives 69 = .ok (.invokevirtual 91, 3) := by decide +kernel
theorem dX3_gives_72 : decode cX3_gives 72 = .ok (.goto 5, 3) := by decide +kernel
theorem dX3_gives_75 : decode cX3_gives 75 = .ok (.iload 5, 2) := by decide +kernel
theorem dX3_gives_77 : decode cX3_gives 77 = .ok (.bipush (-99), 2) := by decide +kernel
theorem dX3_gives_79 : decode cX3_gives 79 = .ok (.bipush 99, 2) := by decide +kernel
theorem dX3_gives_81 : decode cX3_gives 81 = .ok (.invokestatic 95, 3) := by decide +kernel
theorem dX3_gives_84 : decode cX3_gives 84 = .ok (.ireturn, 1) := by decide +kernel
theorem dX3_airByKind_0 : decode cX3_airByKind 0 = .ok (.aload_n 0, 1) := by decide +kernel
theorem dX3_airByKind_1 : decode cX3_airByKind 1 = .ok (.getfield 12, 3) := by decide +kernel
theorem dX3_airByKind_4 : decode cX3_airByKind 4 = .ok (.getfield 98, 3) := by decide +kernel
theorem dX3_airByKind_7 : decode cX3_airByKind 7 = .ok (.iload_n 1, 1) := by decide +kernel
theorem dX3_airByKind_8 : decode cX3_airByKind 8 = .ok (.iaload, 1) := by decide +kernel
theorem dX3_airByKind_9 : decode cX3_airByKind 9 = .ok (.istore_n 2, 1) := by decide +kernel
theorem dX3_airByKind_10 : decode cX3_airByKind 10 = .ok (.bipush 45, 2) := by decide +kernel
theorem dX3_airByKind_12 : decode cX3_airByKind 12 = .ok (.iload_n 2, 1) := by decide +kernel
theorem dX3_airByKind_13 : decode cX3_airByKind 13 = .ok (.iadd, 1) := by decide +kernel
theorem dX3_airByKind_14 : decode cX3_airByKind 14 = .ok (.istore_n 3, 1) := by decide +kernel
theorem dX3_airByKind_15 : decode cX3_airByKind 15 = .ok (.aload_n 0, 1) := by decide +kernel
theorem dX3_airByKind_16 : decode cX3_airByKind 16 = .ok (.getfield 12, 3) := by decide +kernel
theorem dX3_airByKind_19 : decode cX3_airByKind 19 = .ok (.getfield 101, 3) := by decide +kernel
theorem dX3_airByKind_22 : decode cX3_airByKind 22 = .ok (.iload_n 1, 1) := by decide +kernel
theorem dX3_airByKind_23 : decode cX3_airByKind 23 = .ok (.iaload, 1) := by decide +kernel
theorem dX3_airByKind_24 : decode cX3_airByKind 24 = .ok (.tableswitch 91 1 6 #[40, 45, 49, 56, 68, 77], 40) := by decide +kernel
theorem dX3_airByKind_64 : decode cX3_airByKind 64 = .ok (.iload_n 3, 1) := by decide +kernel
theorem dX3_airByKind_65 : decode cX3_airByKind 65 = .ok (.bipush 15, 2) := by decide +kernel
theorem dX3_airByKind_67 : decode cX3_airByKind 67 = .ok (.iadd, 1) := by decide +kernel
theorem dX3_airByKind_68 : decode cX3_airByKind 68 = .ok (.ireturn, 1) := by decide +kernel
theorem dX3_airByKind_69 : decode cX3_airByKind 69 = .ok (.iload_n 3, 1) := by decide +kernel
theorem dX3_airByKind_70 : decode cX3_airByKind 70 = .ok (.iconst 5, 1) := by decide +kernel
theorem dX3_airByKind_71 : decode cX3_airByKind 71 = .ok (.isub, 1) := by decide +kernel
theorem dX3_airByKind_72 : decode cX3_airByKind 72 = .ok (.ireturn, 1) := by decide +kernel
theorem dX3_airByKind_73 : decode cX3_airByKind 73 = .ok (.iload_n 3, 1) := by decide +kernel
theorem dX3_airByKind_74 : decode cX3_airByKind 74 = .ok (.bipush 12, 2) := by decide +kernel
theorem dX3_airByKind_76 : decode cX3_airByKind 76 = .ok (.isub, 1) := by decide +kernel
theorem dX3_airByKind_77 : decode cX3_airByKind 77 = .ok (.iload_n 2, 1) := by decide +kernel
theorem dX3_airByKind_78 : decode cX3_airByKind 78 = .ok (.isub, 1) := by decide +kernel
theorem dX3_airByKind_79 : decode cX3_airByKind 79 = .ok (.ireturn, 1) := by decide +kernel
theorem dX3_airByKind_80 : decode cX3_airByKind 80 = .ok (.iload_n 3, 1) := by decide +kernel
theorem dX3_airByKind_81 : decode cX3_airByKind 81 = .ok (.bipush 15, 2) := by decide +kernel
theorem dX3_airByKind_83 : decode cX3_airByKind 83 = .ok (.iadd, 1) := by decide +kernel
theorem dX3_airByKind_84 : decode cX3_airByKind 84 = .ok (.iconst 2, 1) := by decide +kernel
theorem dX3_airByKind_85 : decode cX3_airByKind 85 = .ok (.aload_n 0, 1) := by decide +kernel
theorem dX3_airByKind_86 : decode cX3_airByKind 86 = .ok (.getfield 56, 3) := by decide +kernel
theorem dX3_airByKind_89 : decode cX3_airByKind 89 = .ok (.imul, 1) := by decide +kernel
theorem dX3_airByKind_90 : decode cX3_airByKind 90 = .ok (.iadd, 1) := by decide +kernel
theorem dX3_airByKind_91 : decode cX3_airByKind 91 = .ok (.ireturn, 1) := by decide +kernel
theorem dX3_airByKind_92 : decode cX3_airByKind 92 = .ok (.iload_n 3, 1) := by decide +kernel
theorem dX3_airByKind_93 : decode cX3_airByKind 93 = .ok (.iconst 5, 1) := by decide +kernel
theorem dX3_airByKind_94 : decode cX3_airByKind 94 = .ok (.isub, 1) := by decide +kernel
theorem dX3_airByKind_95 : decode cX3_airByKind 95 = .ok (.aload_n 0, 1) := by decide +kernel
theorem dX3_airByKind_96 : decode cX3_airByKind 96 = .ok (.getfield 59, 3) := by decide +kernel
theorem dX3_airByKind_99 : decode cX3_airByKind 99 = .ok (.iadd, 1) := by decide +kernel
theorem dX3_airByKind_100 : decode cX3_airByKind 100 = .ok (.ireturn, 1) := by decide +kernel
theorem dX3_airByKind_101 : decode cX3_airByKind 101 = .ok (.iload_n 3, 1) := by decide +kernel
theorem dX3_airByKind_102 : decode cX3_airByKind 102 = .ok (.aload_n 0, 1) := by decide +kernel
theorem dX3_airByKind_103 : decode cX3_airByKind 103 = .ok (.getfield 12, 3) := by decide +kernel
theorem dX3_airByKind_106 : decode cX3_airByKind 106 = .ok (.getfield 104, 3) := by decide +kernel
theorem dX3_airByKind_109 : decode cX3_airByKind 109 = .ok (.iload_n 1, 1) := by decide +kernel
theorem dX3_airByKind_110 : decode cX3_airByKind 110 = .ok (.iaload, 1) := by decide +kernel
theorem dX3_airByKind_111 : decode cX3_airByKind 111 = .ok (.iconst 5, 1) := by decide +kernel
theorem dX3_airByKind_112 : decode cX3_airByKind 112 = .ok (.irem, 1) := by decide +kernel
theorem dX3_airByKind_113 : decode cX3_airByKind 113 = .ok (.iadd, 1) := by decide +kernel
theorem dX3_airByKind_114 : decode cX3_airByKind 114 = .ok (.ireturn, 1) := by decide +kernel
theorem dX3_airByKind_115 : decode cX3_airByKind 115 = .ok (.iload_n 3, 1) := by decide +kernel
theorem dX3_airByKind_116 : decode cX3_airByKind 116 = .ok (.ireturn, 1) := by decide +kernel
theorem dX3_air_0 : decode cX3_air 0 = .ok (.aload_n 0, 1) := by decide +kernel
theorem dX3_air_1 : decode cX3_air 1 = .ok (.iconst 0, 1) := by decide +kernel
theorem dX3_air_2 : decode cX3_air 2 = .ok (.aload_n 0, 1) := by decide +kernel
theorem dX3_air_3 : decode cX3_air 3 = .ok (.iload_n 1, 1) := by decide +kernel
theorem dX3_air_4 : decode cX3_air 4 = .ok (.invokevirtual 107, 3) := by decide +kernel
theorem dX3_air_7 : decode cX3_air 7 = .ok (.aload_n 0, 1) := by decide +kernel
theorem dX3_air_8 : decode cX3_air 8 = .ok (.getfield 56, 3) := by decide +kernel
theorem dX3_air_11 : decode cX3_air 11 = .ok (.aload_n 0, 1) := by decide +kernel
theorem dX3_air_12 : decode cX3_air 12 = .ok (.getfield 59, 3) := by decide +kernel
theorem dX3_air_15 : decode cX3_air 15 = .ok (.invokevirtual 111, 3) := by decide +kernel
theorem dX3_air_18 : decode cX3_air 18 = .ok (.ireturn, 1) := by decide +kernel
theorem dX3_costs_0 : decode cX3_costs 0 = .ok (.aload_n 0, 1) := by decide +kernel
theorem dX3_costs_1 : decode cX3_costs 1 = .ok (.getfield 12, 3) := by decide +kernel
theorem dX3_costs_4 : decode cX3_costs 4 = .ok (.getfield 101, 3) := by decide +kernel
theorem dX3_costs_7 : decode cX3_costs 7 = .ok (.iload_n 1, 1) := by decide +kernel
theorem dX3_costs_8 : decode cX3_costs 8 = .ok (.iaload, 1) := by decide +kernel
theorem dX3_costs_9 : decode cX3_costs 9 = .ok (.tableswitch 68 1 6 #[39, 68, 44, 56, 68, 63], 39) := by decide +kernel
theorem dX3_costs_48 : decode cX3_costs 48 = .ok (.aload_n 0, 1) := by decide +kernel
theorem dX3_costs_49 : decode cX3_costs 49 = .ok (.getfield 59, 3) := by decide +kernel
theorem dX3_costs_52 : decode cX3_costs 52 = .ok (.ireturn, 1) := by decide +kernel
theorem dX3_costs_53 : decode cX3_costs 53 = .ok (.iconst 5, 1) := by decide +kernel
theorem dX3_costs_54 : decode cX3_costs 54 = .ok (.aload_n 0, 1) := by decide +kernel
theorem dX3_costs_55 : decode cX3_costs 55 = .ok (.getfield 12, 3) := by decide +kernel
theorem dX3_costs_58 : decode cX3_costs 58 = .ok (.getfield 98, 3) := by decide +kernel
theorem dX3_costs_61 : decode cX3_costs 61 = .ok (.iload_n 1, 1) := by decide +kernel
theorem dX3_costs_62 : decode cX3_costs 62 = .ok (.iaload, 1) := by decide +kernel
theorem dX3_costs_63 : decode cX3_costs 63 = .ok (.iadd, 1) := by decide +kernel
theorem dX3_costs_64 : decode cX3_costs 64 = .ok (.ireturn, 1) := by decide +kernel
theorem dX3_costs_65 : decode cX3_costs 65 = .ok (.aload_n 0, 1) := by decide +kernel
theorem dX3_costs_66 : decode cX3_costs 66 = .ok (.getfield 59, 3) := by decide +kernel
theorem dX3_costs_69 : decode cX3_costs 69 = .ok (.iconst 1, 1) := by decide +kernel
theorem dX3_costs_70 : decode cX3_costs 70 = .ok (.iadd, 1) := by decide +kernel
theorem dX3_costs_71 : decode cX3_costs 71 = .ok (.ireturn, 1) := by decide +kernel
theorem dX3_costs_72 : decode cX3_costs 72 = .ok (.aload_n 0, 1) := by decide +kernel
theorem dX3_costs_73 : decode cX3_costs 73 = .ok (.getfield 56, 3) := by decide +kernel
theorem dX3_costs_76 : decode cX3_costs 76 = .ok (.ireturn, 1) := by decide +kernel
theorem dX3_costs_77 : decode cX3_costs 77 = .ok (.iconst 0, 1) := by decide +kernel
theorem dX3_costs_78 : decode cX3_costs 78 = .ok (.ireturn, 1) := by decide +kernel
theorem dX3_isPicked_0 : decode cX3_isPicked 0 = .ok (.aload_n 0, 1) := by decide +kernel
theorem dX3_isPicked_1 : decode cX3_isPicked 1 = .ok (.getfield 21, 3) := by decide +kernel
theorem dX3_isPicked_4 : decode cX3_isPicked 4 = .ok (.iload_n 1, 1) := by decide +kernel
theorem dX3_isPicked_5 : decode cX3_isPicked 5 = .ok (.iload_n 2, 1) := by decide +kernel
theorem dX3_isPicked_6 : decode cX3_isPicked 6 = .ok (.invokevirtual 115, 3) := by decide +kernel
theorem dX3_isPicked_9 : decode cX3_isPicked 9 = .ok (.aload_n 0, 1) := by decide +kernel
theorem dX3_isPicked_10 : decode cX3_isPicked 10 = .ok (.getfield 50, 3) := by decide +kernel
theorem dX3_isPicked_13 : decode cX3_isPicked 13 = .ok (.iconst 2, 1) := by decide +kernel
theorem dX3_isPicked_14 : decode cX3_isPicked 14 = .ok (.idiv, 1) := by decide +kernel
theorem dX3_isPicked_15 : decode cX3_isPicked 15 = .ok (.bipush 30, 2) := by decide +kernel
theorem dX3_isPicked_17 : decode cX3_isPicked 17 = .ok (.iadd, 1) := by decide +kernel
theorem dX3_isPicked_18 : decode cX3_isPicked 18 = .ok (.if_icmp .le 7, 3) := by decide +kernel
theorem dX3_isPicked_21 : decode cX3_isPicked 21 = .ok (.iconst 1, 1) := by decide +kernel
theorem dX3_isPicked_22 : decode cX3_isPicked 22 = .ok (.goto 4, 3) := by decide +kernel
theorem dX3_isPicked_25 : decode cX3_isPicked 25 = .ok (.iconst 0, 1) := by decide +kernel
theorem dX3_isPicked_26 : decode cX3_isPicked 26 = .ok (.ireturn, 1) := by decide +kernel
theorem dX3_marginFrom_0 : decode cX3_marginFrom 0 = .ok (.aload_n 0, 1) := by decide +kernel
theorem dX3_marginFrom_1 : decode cX3_marginFrom 1 = .ok (.getfield 50, 3) := by decide +kernel
theorem dX3_marginFrom_4 : decode cX3_marginFrom 4 = .ok (.aload_n 0, 1) := by decide +kernel
theorem dX3_marginFrom_5 : decode cX3_marginFrom 5 = .ok (.iload_n 2, 1) := by decide +kernel
theorem dX3_marginFrom_6 : decode cX3_marginFrom 6 = .ok (.invokevirtual 119, 3) := by decide +kernel
theorem dX3_marginFrom_9 : decode cX3_marginFrom 9 = .ok (.iadd, 1) := by decide +kernel
theorem dX3_marginFrom_10 : decode cX3_marginFrom 10 = .ok (.aload_n 0, 1) := by decide +kernel
theorem dX3_marginFrom_11 : decode cX3_marginFrom 11 = .ok (.getfield 53, 3) := by decide +kernel
theorem dX3_marginFrom_14 : decode cX3_marginFrom 14 = .ok (.iadd, 1) := by decide +kernel
theorem dX3_marginFrom_15 : decode cX3_marginFrom 15 = .ok (.aload_n 0, 1) := by decide +kernel
theorem dX3_marginFrom_16 : decode cX3_marginFrom 16 = .ok (.getfield 21, 3) := by decide +kernel
theorem dX3_marginFrom_19 : decode cX3_marginFrom 19 = .ok (.iload_n 1, 1) := by decide +kernel
theorem dX3_marginFrom_20 : decode cX3_marginFrom 20 = .ok (.iload_n 3, 1) := by decide +kernel
theorem dX3_marginFrom_21 : decode cX3_marginFrom 21 = .ok (.invokevirtual 122, 3) := by decide +kernel
theorem dX3_marginFrom_24 : decode cX3_marginFrom 24 = .ok (.isub, 1) := by decide +kernel
theorem dX3_marginFrom_25 : decode cX3_marginFrom 25 = .ok (.ireturn, 1) := by decide +kernel
theorem dX3_gainOf_0 : decode cX3_gainOf 0 = .ok (.aload_n 0, 1) := by decide +kernel
theorem dX3_gainOf_1 : decode cX3_gainOf 1 = .ok (.iconst 1, 1) := by decide +kernel
theorem dX3_gainOf_2 : decode cX3_gainOf 2 = .ok (.iload_n 1, 1) := by decide +kernel
theorem dX3_gainOf_3 : decode cX3_gainOf 3 = .ok (.ifCond .lt 7, 3) := by decide +kernel
theorem dX3_gainOf_6 : decode cX3_gainOf 6 = .ok (.iconst 1, 1) := by decide +kernel
theorem dX3_gainOf_7 : decode cX3_gainOf 7 = .ok (.goto 4, 3) := by decide +kernel
theorem dX3_gainOf_10 : decode cX3_gainOf 10 = .ok (.iconst 0, 1) := by decide +kernel
theorem dX3_gainOf_11 : decode cX3_gainOf 11 = .ok (.iload_n 1, 1) := by decide +kernel
theorem dX3_gainOf_12 : decode cX3_gainOf 12 = .ok (.aload_n 0, 1) := by decide +kernel
theorem dX3_gainOf_13 : decode cX3_gainOf 13 = .ok (.getfield 59, 3) := by decide +kernel
theorem dX3_gainOf_16 : decode cX3_gainOf 16 = .ok (.invokevirtual 111, 3) := by decide +kernel
theorem dX3_gainOf_19 : decode cX3_gainOf 19 = .ok (.ireturn, 1) := by decide +kernel
theorem dX3_gainFrom_0 : decode cX3_gainFrom 0 = .ok (.aload_n 0, 1) := by decide +kernel
theorem dX3_gainFrom_1 : decode cX3_gainFrom 1 = .ok (.aload_n 0, 1) := by decide +kernel
theorem dX3_gainFrom_2 : decode cX3_gainFrom 2 = .ok (.iload_n 1, 1) := by decide +kernel
theorem dX3_gainFrom_3 : decode cX3_gainFrom 3 = .ok (.iload_n 2, 1) := by decide +kernel
theorem dX3_gainFrom_4 : decode cX3_gainFrom 4 = .ok (.iload_n 3, 1) := by decide +kernel
theorem dX3_gainFrom_5 : decode cX3_gainFrom 5 = .ok (.invokevirtual 125, 3) := by decide +kernel
theorem dX3_gainFrom_8 : decode cX3_gainFrom 8 = .ok (.invokevirtual 128, 3) := by decide +kernel
theorem dX3_gainFrom_11 : decode cX3_gainFrom 11 = .ok (.ireturn, 1) := by decide +kernel
theorem dX3_weighedGains_0 : decode cX3_weighedGains 0 = .ok (.iconst 0, 1) := by decide +kernel
theorem dX3_weighedGains_1 : decode cX3_weighedGains 1 = .ok (.istore_n 3, 1) := by decide +kernel
theorem dX3_weighedGains_2 : decode cX3_weighedGains 2 = .ok (.iconst 0, 1) := by decide +kernel
theorem dX3_weighedGains_3 : decode cX3_weighedGains 3 = .ok (.istore 4, 2) := by decide +kernel
theorem dX3_weighedGains_5 : decode cX3_weighedGains 5 = .ok (.iload 4, 2) := by decide +kernel
theorem dX3_weighedGains_7 : decode cX3_weighedGains 7 = .ok (.aload_n 0, 1) := by decide +kernel
theorem dX3_weighedGains_8 : decode cX3_weighedGains 8 = .ok (.getfield 12, 3) := by decide +kernel
theorem dX3_weighedGains_11 : decode cX3_weighedGains 11 = .ok (.getfield 131, 3) := by decide +kernel
theorem dX3_weighedGains_14 : decode cX3_weighedGains 14 = .ok (.if_icmp .ge 31, 3) := by decide +kernel
theorem dX3_weighedGains_17 : decode cX3_weighedGains 17 = .ok (.iload_n 3, 1) := by decide +kernel
theorem dX3_weighedGains_18 : decode cX3_weighedGains 18 = .ok (.aload_n 0, 1) := by decide +kernel
theorem dX3_weighedGains_19 : decode cX3_weighedGains 19 = .ok (.getfield 12, 3) := by decide +kernel
theorem dX3_weighedGains_22 : decode cX3_weighedGains 22 = .ok (.getfield 134, 3) := by decide +kernel
theorem dX3_weighedGains_25 : decode cX3_weighedGains 25 = .ok (.iload 4, 2) := by decide +kernel
theorem dX3_weighedGains_27 : decode cX3_weighedGains 27 = .ok (.iaload, 1) := by decide +kernel
theorem dX3_weighedGains_28 : decode cX3_weighedGains 28 = .ok (.aload_n 0, 1) := by decide +kernel
theorem dX3_weighedGains_29 : decode cX3_weighedGains 29 = .ok (.iload_n 1, 1) := by decide +kernel
theorem dX3_weighedGains_30 : decode cX3_weighedGains 30 = .ok (.iload 4, 2) := by decide +kernel
theorem dX3_weighedGains_32 : decode cX3_weighedGains 32 = .ok (.iload_n 2, 1) := by decide +kernel
theorem dX3_weighedGains_33 : decode cX3_weighedGains 33 = .ok (.invokevirtual 137, 3) := by decide +kernel
theorem dX3_weighedGains_36 : decode cX3_weighedGains 36 = .ok (.imul, 1) := by decide +kernel
theorem dX3_weighedGains_37 : decode cX3_weighedGains 37 = .ok (.iadd, 1) := by decide +kernel
theorem dX3_weighedGains_38 : decode cX3_weighedGains 38 = .ok (.istore_n 3, 1) := by decide +kernel
theorem dX3_weighedGains_39 : decode cX3_weighedGains 39 = .ok (.iinc 4 1, 3) := by decide +kernel
theorem dX3_weighedGains_42 : decode cX3_weighedGains 42 = .ok (.goto (-37), 3) := by decide +kernel
theorem dX3_weighedGains_45 : decode cX3_weighedGains 45 = .ok (.iload_n 3, 1) := by decide +kernel
theorem dX3_weighedGains_46 : decode cX3_weighedGains 46 = .ok (.ireturn, 1) := by decide +kernel
theorem dX3_safeWeights_0 : decode cX3_safeWeights 0 = .ok (.iconst 0, 1) := by decide +kernel
theorem dX3_safeWeights_1 : decode cX3_safeWeights 1 = .ok (.istore_n 3, 1) := by decide +kernel
theorem dX3_safeWeights_2 : decode cX3_safeWeights 2 = .ok (.iconst 0, 1) := by decide +kernel
theorem dX3_safeWeights_3 : decode cX3_safeWeights 3 = .ok (.istore 4, 2) := by decide +kernel
theorem dX3_safeWeights_5 : decode cX3_safeWeights 5 = .ok (.iload 4, 2) := by decide +kernel
theorem dX3_safeWeights_7 : decode cX3_safeWeights 7 = .ok (.aload_n 0, 1) := by decide +kernel
theorem dX3_safeWeights_8 : decode cX3_safeWeights 8 = .ok (.getfield 12, 3) := by decide +kernel
theorem dX3_safeWeights_11 : decode cX3_safeWeights 11 = .ok (.getfield 131, 3) := by decide +kernel
theorem dX3_safeWeights_14 : decode cX3_safeWeights 14 = .ok (.if_icmp .ge 33, 3) := by decide +kernel
theorem dX3_safeWeights_17 : decode cX3_safeWeights 17 = .ok (.aload_n 0, 1) := by decide +kernel
theorem dX3_safeWeights_18 : decode cX3_safeWeights 18 = .ok (.iload_n 1, 1) := by decide +kernel
theorem dX3_safeWeights_19 : decode cX3_safeWeights 19 = .ok (.iload 4, 2) := by decide +kernel
theorem dX3_safeWeights_21 : decode cX3_safeWeights 21 = .ok (.iload_n 2, 1) := by decide +kernel
theorem dX3_safeWeights_22 : decode cX3_safeWeights 22 = .ok (.invokevirtual 125, 3) := by decide +kernel
theorem dX3_safeWeights_25 : decode cX3_safeWeights 25 = .ok (.ifCond .lt 16, 3) := by decide +kernel
theorem dX3_safeWeights_28 : decode cX3_safeWeights 28 = .ok (.iload_n 3, 1) := by decide +kernel
theorem dX3_safeWeights_29 : decode cX3_safeWeights 29 = .ok (.aload_n 0, 1) := by decide +kernel
theorem dX3_safeWeights_30 : decode cX3_safeWeights 30 = .ok (.getfield 12, 3) := by decide +kernel
theorem dX3_safeWeights_33 : decode cX3_safeWeights 33 = .ok (.getfield 134, 3) := by decide +kernel
theorem dX3_safeWeights_36 : decode cX3_safeWeights 36 = .ok (.iload 4, 2) := by decide +kernel
theorem dX3_safeWeights_38 : decode cX3_safeWeights 38 = .ok (.iaload, 1) := by decide +kernel
theorem dX3_safeWeights_39 : decode cX3_safeWeights 39 = .ok (.iadd, 1) := by decide +kernel
theorem dX3_safeWeights_40 : decode cX3_safeWeights 40 = .ok (.istore_n 3, 1) := by decide +kernel
theorem dX3_safeWeights_41 : decode cX3_safeWeights 41 = .ok (.iinc 4 1, 3) := by decide +kernel
theorem dX3_safeWeights_44 : decode cX3_safeWeights 44 = .ok (.goto (-39), 3) := by decide +kernel
theorem dX3_safeWeights_47 : decode cX3_safeWeights 47 = .ok (.iload_n 3, 1) := by decide +kernel
theorem dX3_safeWeights_48 : decode cX3_safeWeights 48 = .ok (.ireturn, 1) := by decide +kernel
theorem dX3_safePitches_0 : decode cX3_safePitches 0 = .ok (.iconst 0, 1) := by decide +kernel
theorem dX3_safePitches_1 : decode cX3_safePitches 1 = .ok (.istore_n 3, 1) := by decide +kernel
theorem dX3_safePitches_2 : decode cX3_safePitches 2 = .ok (.iconst 0, 1) := by decide +kernel
theorem dX3_safePitches_3 : decode cX3_safePitches 3 = .ok (.istore 4, 2) := by decide +kernel
theorem dX3_safePitches_5 : decode cX3_safePitches 5 = .ok (.iload 4, 2) := by decide +kernel
theorem dX3_safePitches_7 : decode cX3_safePitches 7 = .ok (.aload_n 0, 1) := by decide +kernel
theorem dX3_safePitches_8 : decode cX3_safePitches 8 = .ok (.getfield 12, 3) := by decide +kernel
theorem dX3_safePitches_11 : decode cX3_safePitches 11 = .ok (.getfield 131, 3) := by decide +kernel
theorem dX3_safePitches_14 : decode cX3_safePitches 14 = .ok (.if_icmp .ge 27, 3) := by decide +kernel
theorem dX3_safePitches_17 : decode cX3_safePitches 17 = .ok (.aload_n 0, 1) := by decide +kernel
theorem dX3_safePitches_18 : decode cX3_safePitches 18 = .ok (.iload_n 1, 1) := by decide +kernel
theorem dX3_safePitches_19 : decode cX3_safePitches 19 = .ok (.iload 4, 2) := by decide +kernel
theorem dX3_safePitches_21 : decode cX3_safePitches 21 = .ok (.iload_n 2, 1) := by decide +kernel
theorem dX3_safePitches_22 : decode cX3_safePitches 22 = .ok (.invokevirtual 125, 3) := by decide +kernel
theorem dX3_safePitches_25 : decode cX3_safePitches 25 = .ok (.ifCond .lt 10, 3) := by decide +kernel
theorem dX3_safePitches_28 : decode cX3_safePitches 28 = .ok (.iload_n 3, 1) := by decide +kernel
theorem dX3_safePitches_29 : decode cX3_safePitches 29 = .ok (.iconst 1, 1) := by decide +kernel
theorem dX3_safePitches_30 : decode cX3_safePitches 30 = .ok (.iload 4, 2) := by decide +kernel
theorem dX3_safePitches_32 : decode cX3_safePitches 32 = .ok (.ishl, 1) := by decide +kernel
theorem dX3_safePitches_33 : decode cX3_safePitches 33 = .ok (.ior, 1) := by decide +kernel
theorem dX3_safePitches_34 : decode cX3_safePitches 34 = .ok (.istore_n 3, 1) := by decide +kernel
theorem dX3_safePitches_35 : decode cX3_safePitches 35 = .ok (.iinc 4 1, 3) := by decide +kernel
theorem dX3_safePitches_38 : decode cX3_safePitches 38 = .ok (.goto (-33), 3) := by decide +kernel
theorem dX3_safePitches_41 : decode cX3_safePitches 41 = .ok (.iload_n 3, 1) := by decide +kernel
theorem dX3_safePitches_42 : decode cX3_safePitches 42 = .ok (.ireturn, 1) := by decide +kernel
theorem dX3_goes_0 : decode cX3_goes 0 = .ok (.aload_n 0, 1) := by decide +kernel
theorem dX3_goes_1 : decode cX3_goes 1 = .ok (.iload_n 1, 1) := by decide +kernel
theorem dX3_goes_2 : decode cX3_goes 2 = .ok (.iload_n 2, 1) := by decide +kernel
theorem dX3_goes_3 : decode cX3_goes 3 = .ok (.aload_n 0, 1) := by decide +kernel
theorem dX3_goes_4 : decode cX3_goes 4 = .ok (.getfield 21, 3) := by decide +kernel
theorem dX3_goes_7 : decode cX3_goes 7 = .ok (.getfield 140, 3) := by decide +kernel
theorem dX3_goes_10 : decode cX3_goes 10 = .ok (.iload_n 1, 1) := by decide +kernel
theorem dX3_goes_11 : decode cX3_goes 11 = .ok (.iaload, 1) := by decide +kernel
theorem dX3_goes_12 : decode cX3_goes 12 = .ok (.invokevirtual 125, 3) := by decide +kernel
theorem dX3_goes_15 : decode cX3_goes 15 = .ok (.istore_n 3, 1) := by decide +kernel
theorem dX3_goes_16 : decode cX3_goes 16 = .ok (.aload_n 0, 1) := by decide +kernel
theorem dX3_goes_17 : decode cX3_goes 17 = .ok (.aload_n 0, 1) := by decide +kernel
theorem dX3_goes_18 : decode cX3_goes 18 = .ok (.getfield 65, 3) := by decide +kernel
theorem dX3_goes_21 : decode cX3_goes 21 = .ok (.aload_n 0, 1) := by decide +kernel
theorem dX3_goes_22 : decode cX3_goes 22 = .ok (.iload_n 3, 1) := by decide +kernel
theorem dX3_goes_23 : decode cX3_goes 23 = .ok (.invokevirtual 128, 3) := by decide +kernel
theorem dX3_goes_26 : decode cX3_goes 26 = .ok (.iadd, 1) := by decide +kernel
theorem dX3_goes_27 : decode cX3_goes 27 = .ok (.sipush (-9999), 3) := by decide +kernel
theorem dX3_goes_30 : decode cX3_goes 30 = .ok (.sipush 9999, 3) := by decide +kernel
theorem dX3_goes_33 : decode cX3_goes 33 = .ok (.invokestatic 95, 3) := by decide +kernel
theorem dX3_goes_36 : decode cX3_goes 36 = .ok (.putfield 65, 3) := by decide +kernel
theorem dX3_goes_39 : decode cX3_goes 39 = .ok (.aload_n 0, 1) := by decide +kernel
theorem dX3_goes_40 : decode cX3_goes 40 = .ok (.getfield 12, 3) := by decide +kernel
theorem dX3_goes_43 : decode cX3_goes 43 = .ok (.getfield 104, 3) := by decide +kernel
theorem dX3_goes_46 : decode cX3_goes 46 = .ok (.iload_n 2, 1) := by decide +kernel
theorem dX3_goes_47 : decode cX3_goes 47 = .ok (.aload_n 0, 1) := by decide +kernel
theorem dX3_goes_48 : decode cX3_goes 48 = .ok (.getfield 12, 3) := by decide +kernel
theorem dX3_goes_51 : decode cX3_goes 51 = .ok (.getfield 104, 3) := by decide +kernel
theorem dX3_goes_54 : decode cX3_goes 54 = .ok (.iload_n 2, 1) := by decide +kernel
theorem dX3_goes_55 : decode cX3_goes 55 = .ok (.iaload, 1) := by decide +kernel
theorem dX3_goes_56 : decode cX3_goes 56 = .ok (.invokestatic 143, 3) := by decide +kernel
theorem dX3_goes_59 : decode cX3_goes 59 = .ok (.iastore, 1) := by decide +kernel
theorem dX3_goes_60 : decode cX3_goes 60 = .ok (.iload_n 3, 1) := by decide +kernel
theorem dX3_goes_61 : decode cX3_goes 61 = .ok (.ifCond .ge 10, 3) := by decide +kernel
theorem dX3_goes_64 : decode cX3_goes 64 = .ok (.aload_n 0, 1) := by decide +kernel
theorem dX3_goes_65 : decode cX3_goes 65 = .ok (.iload_n 1, 1) := by decide +kernel
theorem dX3_goes_66 : decode cX3_goes 66 = .ok (.invokevirtual 146, 3) := by decide +kernel
theorem dX3_goes_69 : decode cX3_goes 69 = .ok (.iconst 0, 1) := by decide +kernel
theorem dX3_goes_70 : decode cX3_goes 70 = .ok (.ireturn, 1) := by decide +kernel
theorem dX3_goes_71 : decode cX3_goes 71 = .ok (.aload_n 0, 1) := by decide +kernel
theorem dX3_goes_72 : decode cX3_goes 72 = .ok (.getfield 21, 3) := by decide +kernel
theorem dX3_goes_75 : decode cX3_goes 75 = .ok (.getfield 150, 3) := by decide +kernel
theorem dX3_goes_78 : decode cX3_goes 78 = .ok (.iload_n 1, 1) := by decide +kernel
theorem dX3_goes_79 : decode cX3_goes 79 = .ok (.aload_n 0, 1) := by decide +kernel
theorem dX3_goes_80 : decode cX3_goes 80 = .ok (.getfield 21, 3) := by decide +kernel
theorem dX3_goes_83 : decode cX3_goes 83 = .ok (.getfield 150, 3) := by decide +kernel
theorem dX3_goes_86 : decode cX3_goes 86 = .ok (.iload_n 1, 1) := by decide +kernel
theorem dX3_goes_87 : decode cX3_goes 87 = .ok (.iaload, 1) := by decide +kernel
theorem dX3_goes_88 : decode cX3_goes 88 = .ok (.invokestatic 143, 3) := by decide +kernel
theorem dX3_goes_91 : decode cX3_goes 91 = .ok (.iastore, 1) := by decide +kernel
theorem dX3_goes_92 : decode cX3_goes 92 = .ok (.aload_n 0, 1) := by decide +kernel
theorem dX3_goes_93 : decode cX3_goes 93 = .ok (.getfield 21, 3) := by decide +kernel
theorem dX3_goes_96 : decode cX3_goes 96 = .ok (.getfield 140, 3) := by decide +kernel
theorem dX3_goes_99 : decode cX3_goes 99 = .ok (.iload_n 1, 1) := by decide +kernel
theorem dX3_goes_100 : decode cX3_goes 100 = .ok (.iconst 0, 1) := by decide +kernel
theorem dX3_goes_101 : decode cX3_goes 101 = .ok (.iastore, 1) := by decide +kernel
theorem dX3_goes_102 : decode cX3_goes 102 = .ok (.iconst 1, 1) := by decide +kernel
theorem dX3_goes_103 : decode cX3_goes 103 = .ok (.ireturn, 1) := by decide +kernel
theorem dX3_isOut_0 : decode cX3_isOut 0 = .ok (.aload_n 0, 1) := by decide +kernel
theorem dX3_isOut_1 : decode cX3_isOut 1 = .ok (.getfield 21, 3) := by decide +kernel
theorem dX3_isOut_4 : decode cX3_isOut 4 = .ok (.getfield 153, 3) := by decide +kernel
theorem dX3_isOut_7 : decode cX3_isOut 7 = .ok (.iload_n 1, 1) := by decide +kernel
theorem dX3_isOut_8 : decode cX3_isOut 8 = .ok (.aload_n 0, 1) := by decide +kernel
theorem dX3_isOut_9 : decode cX3_isOut 9 = .ok (.getfield 21, 3) := by decide +kernel
theorem dX3_isOut_12 : decode cX3_isOut 12 = .ok (.getfield 153, 3) := by decide +kernel
theorem dX3_isOut_15 : decode cX3_isOut 15 = .ok (.iload_n 1, 1) := by decide +kernel
theorem dX3_isOut_16 : decode cX3_isOut 16 = .ok (.iaload, 1) := by decide +kernel
theorem dX3_isOut_17 : decode cX3_isOut 17 = .ok (.invokestatic 143, 3) := by decide +kernel
theorem dX3_isOut_20 : decode cX3_isOut 20 = .ok (.iastore, 1) := by decide +kernel
theorem dX3_isOut_21 : decode cX3_isOut 21 = .ok (.aload_n 0, 1) := by decide +kernel
theorem dX3_isOut_22 : decode cX3_isOut 22 = .ok (.getfield 21, 3) := by decide +kernel
theorem dX3_isOut_25 : decode cX3_isOut 25 = .ok (.getfield 140, 3) := by decide +kernel
theorem dX3_isOut_28 : decode cX3_isOut 28 = .ok (.iload_n 1, 1) := by decide +kernel
theorem dX3_isOut_29 : decode cX3_isOut 29 = .ok (.iconst 0, 1) := by decide +kernel
theorem dX3_isOut_30 : decode cX3_isOut 30 = .ok (.iastore, 1) := by decide +kernel
theorem dX3_isOut_31 : decode cX3_isOut 31 = .ok (.aload_n 0, 1) := by decide +kernel
theorem dX3_isOut_32 : decode cX3_isOut 32 = .ok (.dup, 1) := by decide +kernel
theorem dX3_isOut_33 : decode cX3_isOut 33 = .ok (.getfield 59, 3) := by decide +kernel
theorem dX3_isOut_36 : decode cX3_isOut 36 = .ok (.iconst 1, 1) := by decide +kernel
theorem dX3_isOut_37 : decode cX3_isOut 37 = .ok (.iadd, 1) := by decide +kernel
theorem dX3_isOut_38 : decode cX3_isOut 38 = .ok (.putfield 59, 3) := by decide +kernel
theorem dX3_isOut_41 : decode cX3_isOut 41 = .ok (.aload_n 0, 1) := by decide +kernel
theorem dX3_isOut_42 : decode cX3_isOut 42 = .ok (.getfield 59, 3) := by decide +kernel
theorem dX3_isOut_45 : decode cX3_isOut 45 = .ok (.iconst 3, 1) := by decide +kernel
theorem dX3_isOut_46 : decode cX3_isOut 46 = .ok (.if_icmp .lt 19, 3) := by decide +kernel
theorem dX3_isOut_49 : decode cX3_isOut 49 = .ok (.aload_n 0, 1) := by decide +kernel
theorem dX3_isOut_50 : decode cX3_isOut 50 = .ok (.iconst 0, 1) := by decide +kernel
theorem dX3_isOut_51 : decode cX3_isOut 51 = .ok (.putfield 59, 3) := by decide +kernel
theorem dX3_isOut_54 : decode cX3_isOut 54 = .ok (.aload_n 0, 1) := by decide +kernel
theorem dX3_isOut_55 : decode cX3_isOut 55 = .ok (.aload_n 0, 1) := by decide +kernel
theorem dX3_isOut_56 : decode cX3_isOut 56 = .ok (.getfield 62, 3) := by decide +kernel
theorem dX3_isOut_59 : decode cX3_isOut 59 = .ok (.invokestatic 143, 3) := by decide +kernel
theorem dX3_isOut_62 : decode cX3_isOut 62 = .ok (.putfield 62, 3) := by decide +kernel
theorem dX3_isOut_65 : decode cX3_isOut 65 = .ok (.return_, 1) := by decide +kernel
theorem dX3_draw_0 : decode cX3_draw 0 = .ok (.aload_n 0, 1) := by decide +kernel
theorem dX3_draw_1 : decode cX3_draw 1 = .ok (.aload_n 0, 1) := by decide +kernel
theorem dX3_draw_2 : decode cX3_draw 2 = .ok (.getfield 68, 3) := by decide +kernel
theorem dX3_draw_5 : decode cX3_draw 5 = .ok (.ldc 156, 2) := by decide +kernel
theorem dX3_draw_7 : decode cX3_draw 7 = .ok (.imul, 1) := by decide +kernel
theorem dX3_draw_8 : decode cX3_draw 8 = .ok (.sipush 12345, 3) := by decide +kernel
theorem dX3_draw_11 : decode cX3_draw 11 = .ok (.iadd, 1) := by decide +kernel
theorem dX3_draw_12 : decode cX3_draw 12 = .ok (.putfield 68, 3) := by decide +kernel
theorem dX3_draw_15 : decode cX3_draw 15 = .ok (.aload_n 0, 1) := by decide +kernel
theorem dX3_draw_16 : decode cX3_draw 16 = .ok (.getfield 68, 3) := by decide +kernel
theorem dX3_draw_19 : decode cX3_draw 19 = .ok (.bipush 8, 2) := by decide +kernel
theorem dX3_draw_21 : decode cX3_draw 21 = .ok (.iushr, 1) := by decide +kernel
theorem dX3_draw_22 : decode cX3_draw 22 = .ok (.ireturn, 1) := by decide +kernel
theorem dX3_isSafeByDraws_0 : decode cX3_isSafeByDraws 0 = .ok (.aload_n 0, 1) := by decide +kernel
theorem dX3_isSafeByDraws_1 : decode cX3_isSafeByDraws 1 = .ok (.getfield 12, 3) := by decide +kernel
theorem dX3_isSafeByDraws_4 : decode cX3_isSafeByDraws 4 = .ok (.invokevirtual 157, 3) := by decide +kernel
theorem dX3_isSafeByDraws_7 : decode cX3_isSafeByDraws 7 = .ok (.istore_n 1, 1) := by decide +kernel
theorem dX3_isSafeByDraws_8 : decode cX3_isSafeByDraws 8 = .ok (.aload_n 0, 1) := by decide +kernel
theorem dX3_isSafeByDraws_9 : decode cX3_isSafeByDraws 9 = .ok (.getfield 21, 3) := by decide +kernel
theorem dX3_isSafeByDraws_12 : decode cX3_isSafeByDraws 12 = .ok (.getfield 161, 3) := by decide +kernel
theorem dX3_isSafeByDraws_15 : decode cX3_isSafeByDraws 15 = .ok (.ifCond .le 7, 3) := by decide +kernel
theorem dX3_isSafeByDraws_18 : decode cX3_isSafeByDraws 18 = .ok (.iload_n 1, 1) := by decide +kernel
theorem dX3_isSafeByDraws_19 : decode cX3_isSafeByDraws 19 = .ok (.ifCond .gt 5, 3) := by decide +kernel
theorem dX3_isSafeByDraws_22 : decode cX3_isSafeByDraws 22 = .ok (.iconst 0, 1) := by decide +kernel
theorem dX3_isSafeByDraws_23 : decode cX3_isSafeByDraws 23 = .ok (.ireturn, 1) := by decide +kernel
theorem dX3_isSafeByDraws_24 : decode cX3_isSafeByDraws 24 = .ok (.aload_n 0, 1) := by decide +kernel
theorem dX3_isSafeByDraws_25 : decode cX3_isSafeByDraws 25 = .ok (.invokevirtual 162, 3) := by decide +kernel
theorem dX3_isSafeByDraws_28 : decode cX3_isSafeByDraws 28 = .ok (.aload_n 0, 1) := by decide +kernel
theorem dX3_isSafeByDraws_29 : decode cX3_isSafeByDraws 29 = .ok (.getfield 21, 3) := by decide +kernel
theorem dX3_isSafeByDraws_32 : decode cX3_isSafeByDraws 32 = .ok (.getfield 161, 3) := by decide +kernel
theorem dX3_isSafeByDraws_35 : decode cX3_isSafeByDraws 35 = .ok (.irem, 1) := by decide +kernel
theorem dX3_isSafeByDraws_36 : decode cX3_isSafeByDraws 36 = .ok (.istore_n 2, 1) := by decide +kernel
theorem dX3_isSafeByDraws_37 : decode cX3_isSafeByDraws 37 = .ok (.aload_n 0, 1) := by decide +kernel
theorem dX3_isSafeByDraws_38 : decode cX3_isSafeByDraws 38 = .ok (.getfield 21, 3) := by decide +kernel
theorem dX3_isSafeByDraws_41 : decode cX3_isSafeByDraws 41 = .ok (.getfield 140, 3) := by decide +kernel
theorem dX3_isSafeByDraws_44 : decode cX3_isSafeByDraws 44 = .ok (.iload_n 2, 1) := by decide +kernel
theorem dX3_isSafeByDraws_45 : decode cX3_isSafeByDraws 45 = .ok (.aload_n 0, 1) := by decide +kernel
theorem dX3_isSafeByDraws_46 : decode cX3_isSafeByDraws 46 = .ok (.invokevirtual 162, 3) := by decide +kernel
theorem dX3_isSafeByDraws_49 : decode cX3_isSafeByDraws 49 = .ok (.bipush 21, 2) := by decide +kernel
theorem dX3_isSafeByDraws_51 : decode cX3_isSafeByDraws 51 = .ok (.irem, 1) := by decide +kernel
theorem dX3_isSafeByDraws_52 : decode cX3_isSafeByDraws 52 = .ok (.iastore, 1) := by decide +kernel
theorem dX3_isSafeByDraws_53 : decode cX3_isSafeByDraws 53 = .ok (.aload_n 0, 1) := by decide +kernel
theorem dX3_isSafeByDraws_54 : decode cX3_isSafeByDraws 54 = .ok (.getfield 12, 3) := by decide +kernel
theorem dX3_isSafeByDraws_57 : decode cX3_isSafeByDraws 57 = .ok (.aload_n 0, 1) := by decide +kernel
theorem dX3_isSafeByDraws_58 : decode cX3_isSafeByDraws 58 = .ok (.invokevirtual 162, 3) := by decide +kernel
theorem dX3_isSafeByDraws_61 : decode cX3_isSafeByDraws 61 = .ok (.iload_n 1, 1) := by decide +kernel
theorem dX3_isSafeByDraws_62 : decode cX3_isSafeByDraws 62 = .ok (.irem, 1) := by decide +kernel
theorem dX3_isSafeByDraws_63 : decode cX3_isSafeByDraws 63 = .ok (.invokevirtual 165, 3) := by decide +kernel
theorem dX3_isSafeByDraws_66 : decode cX3_isSafeByDraws 66 = .ok (.istore_n 3, 1) := by decide +kernel
theorem dX3_isSafeByDraws_67 : decode cX3_isSafeByDraws 67 = .ok (.aload_n 0, 1) := by decide +kernel
theorem dX3_isSafeByDraws_68 : decode cX3_isSafeByDraws 68 = .ok (.invokevirtual 162, 3) := by decide +kernel
theorem dX3_isSafeByDraws_71 : decode cX3_isSafeByDraws 71 = .ok (.iconst 4, 1) := by decide +kernel
theorem dX3_isSafeByDraws_72 : decode cX3_isSafeByDraws 72 = .ok (.irem, 1) := by decide +kernel
theorem dX3_isSafeByDraws_73 : decode cX3_isSafeByDraws 73 = .ok (.ifCond .ne 27, 3) := by decide +kernel
theorem dX3_isSafeByDraws_76 : decode cX3_isSafeByDraws 76 = .ok (.aload_n 0, 1) := by decide +kernel
theorem dX3_isSafeByDraws_77 : decode cX3_isSafeByDraws 77 = .ok (.iload_n 2, 1) := by decide +kernel
theorem dX3_isSafeByDraws_78 : decode cX3_isSafeByDraws 78 = .ok (.aload_n 0, 1) := by decide +kernel
theorem dX3_isSafeByDraws_79 : decode cX3_isSafeByDraws 79 = .ok (.getfield 21, 3) := by decide +kernel
theorem dX3_isSafeByDraws_82 : decode cX3_isSafeByDraws 82 = .ok (.getfield 140, 3) := by decide +kernel
theorem dX3_isSafeByDraws_85 : decode cX3_isSafeByDraws 85 = .ok (.iload_n 2, 1) := by decide +kernel
theorem dX3_isSafeByDraws_86 : decode cX3_isSafeByDraws 86 = .ok (.iaload, 1) := by decide +kernel
theorem dX3_isSafeByDraws_87 : decode cX3_isSafeByDraws 87 = .ok (.invokevirtual 168, 3) := by decide +kernel
theorem dX3_isSafeByDraws_90 : decode cX3_isSafeByDraws 90 = .ok (.ifCond .eq 10, 3) := by decide +kernel
theorem dX3_isSafeByDraws_93 : decode cX3_isSafeByDraws 93 = .ok (.aload_n 0, 1) := by decide +kernel
theorem dX3_isSafeByDraws_94 : decode cX3_isSafeByDraws 94 = .ok (.iload_n 2, 1) := by decide +kernel
theorem dX3_isSafeByDraws_95 : decode cX3_isSafeByDraws 95 = .ok (.invokevirtual 146, 3) := by decide +kernel
theorem dX3_isSafeByDraws_98 : decode cX3_isSafeByDraws 98 = .ok (.iconst 0, 1) := by decide +kernel
theorem dX3_isSafeByDraws_99 : decode cX3_isSafeByDraws 99 = .ok (.ireturn, 1) := by decide +kernel
theorem dX3_isSafeByDraws_100 : decode cX3_isSafeByDraws 100 = .ok (.aload_n 0, 1) := by decide +kernel
theorem dX3_isSafeByDraws_101 : decode cX3_isSafeByDraws 101 = .ok (.iload_n 2, 1) := by decide +kernel
theorem dX3_isSafeByDraws_102 : decode cX3_isSafeByDraws 102 = .ok (.iload_n 3, 1) := by decide +kernel
theorem dX3_isSafeByDraws_103 : decode cX3_isSafeByDraws 103 = .ok (.invokevirtual 172, 3) := by decide +kernel
theorem dX3_isSafeByDraws_106 : decode cX3_isSafeByDraws 106 = .ok (.ireturn, 1) := by decide +kernel
theorem dX3_held_0 : decode cX3_held 0 = .ok (.iload_n 1, 1) := by decide +kernel
theorem dX3_held_1 : decode cX3_held 1 = .ok (.iload_n 2, 1) := by decide +kernel
theorem dX3_held_2 : decode cX3_held 2 = .ok (.iload_n 0, 1) := by decide +kernel
theorem dX3_held_3 : decode cX3_held 3 = .ok (.invokestatic 175, 3) := by decide +kernel
theorem dX3_held_6 : decode cX3_held 6 = .ok (.invokestatic 180, 3) := by decide +kernel
theorem dX3_held_9 : decode cX3_held 9 = .ok (.ireturn, 1) := by decide +kernel
theorem dX3_oneMore_0 : decode cX3_oneMore 0 = .ok (.sipush 9999, 3) := by decide +kernel
theorem dX3_oneMore_3 : decode cX3_oneMore 3 = .ok (.iload_n 0, 1) := by decide +kernel
theorem dX3_oneMore_4 : decode cX3_oneMore 4 = .ok (.iconst 1, 1) := by decide +kernel
theorem dX3_oneMore_5 : decode cX3_oneMore 5 = .ok (.iadd, 1) := by decide +kernel
theorem dX3_oneMore_6 : decode cX3_oneMore 6 = .ok (.invokestatic 175, 3) := by decide +kernel
theorem dX3_oneMore_9 : decode cX3_oneMore 9 = .ok (.ireturn, 1) := by decide +kernel
theorem dX4_init_0 : decode cX4_init 0 = .ok (.aload_n 0, 1) := by decide +kernel
theorem dX4_init_1 : decode cX4_init 1 = .ok (.invokespecial 3, 3) := by decide +kernel
theorem dX4_init_4 : decode cX4_init 4 = .ok (.aload_n 0, 1) := by decide +kernel
theorem dX4_init_5 : decode cX4_init 5 = .ok (.iconst 4, 1) := by decide +kernel
theorem dX4_init_6 : decode cX4_init 6 = .ok (.newarray .int, 2) := by decide +kernel
theorem dX4_init_8 : decode cX4_init 8 = .ok (.putfield 9, 3) := by decide +kernel
theorem dX4_init_11 : decode cX4_init 11 = .ok (.aload_n 0, 1) := by decide +kernel
theorem dX4_init_12 : decode cX4_init 12 = .ok (.iconst 4, 1) := by decide +kernel
theorem dX4_init_13 : decode cX4_init 13 = .ok (.newarray .int, 2) := by decide +kernel
theorem dX4_init_15 : decode cX4_init 15 = .ok (.putfield 15, 3) := by decide +kernel
theorem dX4_init_18 : decode cX4_init 18 = .ok (.aload_n 0, 1) := by decide +kernel
theorem dX4_init_19 : decode cX4_init 19 = .ok (.bipush 96, 2) := by decide +kernel
theorem dX4_init_21 : decode cX4_init 21 = .ok (.newarray .int, 2) := by decide +kernel
theorem dX4_init_23 : decode cX4_init 23 = .ok (.putfield 18, 3) := by decide +kernel
theorem dX4_init_26 : decode cX4_init 26 = .ok (.return_, 1) := by decide +kernel
theorem dX4_isMissing_0 : decode cX4_isMissing 0 = .ok (.aload_n 0, 1) := by decide +kernel
theorem dX4_isMissing_1 : decode cX4_isMissing 1 = .ok (.getfield 9, 3) := by decide +kernel
theorem dX4_isMissing_4 : decode cX4_isMissing 4 = .ok (.iload_n 1, 1) := by decide +kernel
theorem dX4_isMissing_5 : decode cX4_isMissing 5 = .ok (.iaload, 1) := by decide +kernel
theorem dX4_isMissing_6 : decode cX4_isMissing 6 = .ok (.ifCond .ne 7, 3) := by decide +kernel
theorem dX4_isMissing_9 : decode cX4_isMissing 9 = .ok (.iconst 1, 1) := by decide +kernel
theorem dX4_isMissing_10 : decode cX4_isMissing 10 = .ok (.goto 4, 3) := by decide +kernel
theorem dX4_isMissing_13 : decode cX4_isMissing 13 = .ok (.iconst 0, 1) := by decide +kernel
theorem dX4_isMissing_14 : decode cX4_isMissing 14 = .ok (.ireturn, 1) := by decide +kernel
theorem dX4_lay_0 : decode cX4_lay 0 = .ok (.aload_n 0, 1) := by decide +kernel
theorem dX4_lay_1 : decode cX4_lay 1 = .ok (.getfield 9, 3) := by decide +kernel
theorem dX4_lay_4 : decode cX4_lay 4 = .ok (.iload_n 1, 1) := by decide +kernel
theorem dX4_lay_5 : decode cX4_lay 5 = .ok (.iload_n 2, 1) := by decide +kernel
theorem dX4_lay_6 : decode cX4_lay 6 = .ok (.iastore, 1) := by decide +kernel
theorem dX4_lay_7 : decode cX4_lay 7 = .ok (.aload_n 0, 1) := by decide +kernel
theorem dX4_lay_8 : decode cX4_lay 8 = .ok (.getfield 15, 3) := by decide +kernel
theorem dX4_lay_11 : decode cX4_lay 11 = .ok (.iload_n 1, 1) := by decide +kernel
theorem dX4_lay_12 : decode cX4_lay 12 = .ok (.iload_n 3, 1) := by decide +kernel
theorem dX4_lay_13 : decode cX4_lay 13 = .ok (.iastore, 1) := by decide +kernel
theorem dX4_lay_14 : decode cX4_lay 14 = .ok (.iconst 0, 1) := by decide +kernel
theorem dX4_lay_15 : decode cX4_lay 15 = .ok (.istore 4, 2) := by decide +kernel
theorem dX4_lay_17 : decode cX4_lay 17 = .ok (.iload 4, 2) := by decide +kernel
theorem dX4_lay_19 : decode cX4_lay 19 = .ok (.bipush 24, 2) := by decide +kernel
theorem dX4_lay_21 : decode cX4_lay 21 = .ok (.if_icmp .ge 22, 3) := by decide +kernel
theorem dX4_lay_24 : decode cX4_lay 24 = .ok (.aload_n 0, 1) := by decide +kernel
theorem dX4_lay_25 : decode cX4_lay 25 = .ok (.getfield 18, 3) := by decide +kernel
theorem dX4_lay_28 : decode cX4_lay 28 = .ok (.iload_n 1, 1) := by decide +kernel
theorem dX4_lay_29 : decode cX4_lay 29 = .ok (.bipush 24, 2) := by decide +kernel
theorem dX4_lay_31 : decode cX4_lay 31 = .ok (.imul, 1) := by decide +kernel
theorem dX4_lay_32 : decode cX4_lay 32 = .ok (.iload 4, 2) := by decide +kernel
theorem dX4_lay_34 : decode cX4_lay 34 = .ok (.iadd, 1) := by decide +kernel
theorem dX4_lay_35 : decode cX4_lay 35 = .ok (.iconst 0, 1) := by decide +kernel
theorem dX4_lay_36 : decode cX4_lay 36 = .ok (.iastore, 1) := by decide +kernel
theorem dX4_lay_37 : decode cX4_lay 37 = .ok (.iinc 4 1, 3) := by decide +kernel
theorem dX4_lay_40 : decode cX4_lay 40 = .ok (.goto (-23), 3) := by decide +kernel
theorem dX4_lay_43 : decode cX4_lay 43 = .ok (.return_, 1) := by decide +kernel
theorem dX4_standsAt_0 : decode cX4_standsAt 0 = .ok (.iload_n 3, 1) := by decide +kernel
theorem dX4_standsAt_1 : decode cX4_standsAt 1 = .ok (.ifCond .lt 33, 3) := by decide +kernel
theorem dX4_standsAt_4 : decode cX4_standsAt 4 = .ok (.iload_n 2, 1) := by decide +kernel
theorem dX4_standsAt_5 : decode cX4_standsAt 5 = .ok (.ifCond .lt 29, 3) := by decide +kernel
theorem dX4_standsAt_8 : decode cX4_standsAt 8 = .ok (.iload_n 2, 1) := by decide +kernel
theorem dX4_standsAt_9 : decode cX4_standsAt 9 = .ok (.aload_n 0, 1) := by decide +kernel
theorem dX4_standsAt_10 : decode cX4_standsAt 10 = .ok (.getfield 15, 3) := by decide +kernel
theorem dX4_standsAt_13 : decode cX4_standsAt 13 = .ok (.iload_n 1, 1) := by decide +kernel
theorem dX4_standsAt_14 : decode cX4_standsAt 14 = .ok (.iaload, 1) := by decide +kernel
theorem dX4_standsAt_15 : decode cX4_standsAt 15 = .ok (.if_icmp .gt 19, 3) := by decide +kernel
theorem dX4_standsAt_18 : decode cX4_standsAt 18 = .ok (.iload_n 3, 1) := by decide +kernel
theorem dX4_standsAt_19 : decode cX4_standsAt 19 = .ok (.aload_n 0, 1) := by decide +kernel
theorem dX4_standsAt_20 : decode cX4_standsAt 20 = .ok (.getfield 15, 3) := by decide +kernel
theorem dX4_standsAt_23 : decode cX4_standsAt 23 = .ok (.iload_n 1, 1) := by decide +kernel
theorem dX4_standsAt_24 : decode cX4_standsAt 24 = .ok (.iaload, 1) := by decide +kernel
theorem dX4_standsAt_25 : decode cX4_standsAt 25 = .ok (.iload_n 2, 1) := by decide +kernel
theorem dX4_standsAt_26 : decode cX4_standsAt 26 = .ok (.isub, 1) := by decide +kernel
theorem dX4_standsAt_27 : decode cX4_standsAt 27 = .ok (.if_icmp .gt 7, 3) := by decide +kernel
theorem dX4_standsAt_30 : decode cX4_standsAt 30 = .ok (.iconst 1, 1) := by decide +kernel
theorem dX4_standsAt_31 : decode cX4_standsAt 31 = .ok (.goto 4, 3) := by decide +kernel
theorem dX4_standsAt_34 : decode cX4_standsAt 34 = .ok (.iconst 0, 1) := by decide +kernel
theorem dX4_standsAt_35 : decode cX4_standsAt 35 = .ok (.ireturn, 1) := by decide +kernel
theorem dX4_read_0 : decode cX4_read 0 = .ok (.aload_n 0, 1) := by decide +kernel
theorem dX4_read_1 : decode cX4_read 1 = .ok (.getfield 18, 3) := by decide +kernel
theorem dX4_read_4 : decode cX4_read 4 = .ok (.iload_n 1, 1) := by decide +kernel
theorem dX4_read_5 : decode cX4_read 5 = .ok (.bipush 24, 2) := by decide +kernel
theorem dX4_read_7 : decode cX4_read 7 = .ok (.imul, 1) := by decide +kernel
theorem dX4_read_8 : decode cX4_read 8 = .ok (.iload_n 2, 1) := by decide +kernel
theorem dX4_read_9 : decode cX4_read 9 = .ok (.iadd, 1) := by decide +kernel
theorem dX4_read_10 : decode cX4_read 10 = .ok (.iaload, 1) := by decide +kernel
theorem dX4_read_11 : decode cX4_read 11 = .ok (.ireturn, 1) := by decide +kernel
theorem dX4_write_0 : decode cX4_write 0 = .ok (.aload_n 0, 1) := by decide +kernel
theorem dX4_write_1 : decode cX4_write 1 = .ok (.getfield 9, 3) := by decide +kernel
theorem dX4_write_4 : decode cX4_write 4 = .ok (.iload_n 1, 1) := by decide +kernel
theorem dX4_write_5 : decode cX4_write 5 = .ok (.iaload, 1) := by decide +kernel
theorem dX4_write_6 : decode cX4_write 6 = .ok (.bipush 8, 2) := by decide +kernel
theorem dX4_write_8 : decode cX4_write 8 = .ok (.if_icmp .ne 11, 3) := by decide +kernel
theorem dX4_write_11 : decode cX4_write 11 = .ok (.iload_n 3, 1) := by decide +kernel
theorem dX4_write_12 : decode cX4_write 12 = .ok (.sipush 255, 3) := by decide +kernel
theorem dX4_write_15 : decode cX4_write 15 = .ok (.iand, 1) := by decide +kernel
theorem dX4_write_16 : decode cX4_write 16 = .ok (.goto 22, 3) := by decide +kernel
theorem dX4_write_19 : decode cX4_write 19 = .ok (.aload_n 0, 1) := by decide +kernel
theorem dX4_write_20 : decode cX4_write 20 = .ok (.getfield 9, 3) := by decide +kernel
theorem dX4_write_23 : decode cX4_write 23 = .ok (.iload_n 1, 1) := by decide +kernel
theorem dX4_write_24 : decode cX4_write 24 = .ok (.iaload, 1) := by decide +kernel
theorem dX4_write_25 : decode cX4_write 25 = .ok (.bipush 16, 2) := by decide +kernel
theorem dX4_write_27 : decode cX4_write 27 = .ok (.if_icmp .ne 10, 3) := by decide +kernel
theorem dX4_write_30 : decode cX4_write 30 = .ok (.iload_n 3, 1) := by decide +kernel
theorem dX4_write_31 : decode cX4_write 31 = .ok (.ldc 21, 2) := by decide +kernel
theorem dX4_write_33 : decode cX4_write 33 = .ok (.iand, 1) := by decide +kernel
theorem dX4_write_34 : decode cX4_write 34 = .ok (.goto 4, 3) := by decide +kernel
theorem dX4_write_37 : decode cX4_write 37 = .ok (.iload_n 3, 1) := by decide +kernel
theorem dX4_write_38 : decode cX4_write 38 = .ok (.istore 4, 2) := by decide +kernel
theorem dX4_write_40 : decode cX4_write 40 = .ok (.aload_n 0, 1) := by decide +kernel
theorem dX4_write_41 : decode cX4_write 41 = .ok (.getfield 18, 3) := by decide +kernel
theorem dX4_write_44 : decode cX4_write 44 = .ok (.iload_n 1, 1) := by decide +kernel
theorem dX4_write_45 : decode cX4_write 45 = .ok (.bipush 24, 2) := by decide +kernel
theorem dX4_write_47 : decode cX4_write 47 = .ok (.imul, 1) := by decide +kernel
theorem dX4_write_48 : decode cX4_write 48 = .ok (.iload_n 2, 1) := by decide +kernel
theorem dX4_write_49 : decode cX4_write 49 = .ok (.iadd, 1) := by decide +kernel
theorem dX4_write_50 : decode cX4_write 50 = .ok (.iload 4, 2) := by decide +kernel
theorem dX4_write_52 : decode cX4_write 52 = .ok (.iastore, 1) := by decide +kernel
theorem dX4_write_53 : decode cX4_write 53 = .ok (.return_, 1) := by decide +kernel
theorem dX4_copy_0 : decode cX4_copy 0 = .ok (.aload_n 0, 1) := by decide +kernel
theorem dX4_copy_1 : decode cX4_copy 1 = .ok (.getfield 18, 3) := by decide +kernel
theorem dX4_copy_4 : decode cX4_copy 4 = .ok (.iload_n 1, 1) := by decide +kernel
theorem dX4_copy_5 : decode cX4_copy 5 = .ok (.bipush 24, 2) := by decide +kernel
theorem dX4_copy_7 : decode cX4_copy 7 = .ok (.imul, 1) := by decide +kernel
theorem dX4_copy_8 : decode cX4_copy 8 = .ok (.iload_n 2, 1) := by decide +kernel
theorem dX4_copy_9 : decode cX4_copy 9 = .ok (.iadd, 1) := by decide +kernel
theorem dX4_copy_10 : decode cX4_copy 10 = .ok (.aload_n 0, 1) := by decide +kernel
theorem dX4_copy_11 : decode cX4_copy 11 = .ok (.getfield 18, 3) := by decide +kernel
theorem dX4_copy_14 : decode cX4_copy 14 = .ok (.iload_n 3, 1) := by decide +kernel
theorem dX4_copy_15 : decode cX4_copy 15 = .ok (.bipush 24, 2) := by decide +kernel
theorem dX4_copy_17 : decode cX4_copy 17 = .ok (.imul, 1) := by decide +kernel
theorem dX4_copy_18 : decode cX4_copy 18 = .ok (.iload 4, 2) := by decide +kernel
theorem dX4_copy_20 : decode cX4_copy 20 = .ok (.iadd, 1) := by decide +kernel
theorem dX4_copy_21 : decode cX4_copy 21 = .ok (.iload 5, 2) := by decide +kernel
theorem dX4_copy_23 : decode cX4_copy 23 = .ok (.invokestatic 22, 3) := by decide +kernel
theorem dX4_copy_26 : decode cX4_copy 26 = .ok (.return_, 1) := by decide +kernel
theorem dX5_init_0 : decode cX5_init 0 = .ok (.aload_n 0, 1) := by decide +kernel
theorem dX5_init_1 : decode cX5_init 1 = .ok (.invokespecial 3, 3) := by decide +kernel
theorem dX5_init_4 : decode cX5_init 4 = .ok (.aload_n 0, 1) := by decide +kernel
theorem dX5_init_5 : decode cX5_init 5 = .ok (.bipush 60, 2) := by decide +kernel
theorem dX5_init_7 : decode cX5_init 7 = .ok (.newarray .int, 2) := by decide +kernel
theorem dX5_init_9 : decode cX5_init 9 = .ok (.putfield 9, 3) := by decide +kernel
theorem dX5_init_12 : decode cX5_init 12 = .ok (.aload_n 0, 1) := by decide +kernel
theorem dX5_init_13 : decode cX5_init 13 = .ok (.bipush 60, 2) := by decide +kernel
theorem dX5_init_15 : decode cX5_init 15 = .ok (.newarray .int, 2) := by decide +kernel
theorem dX5_init_17 : decode cX5_init 17 = .ok (.putfield 15, 3) := by decide +kernel
theorem dX5_init_20 : decode cX5_init 20 = .ok (.aload_n 0, 1) := by decide +kernel
theorem dX5_init_21 : decode cX5_init 21 = .ok (.iconst 0, 1) := by decide +kernel
theorem dX5_init_22 : decode cX5_init 22 = .ok (.putfield 18, 3) := by decide +kernel
theorem dX5_init_25 : decode cX5_init 25 = .ok (.aload_n 0, 1) := by decide +kernel
theorem dX5_init_26 : decode cX5_init 26 = .ok (.iconst 0, 1) := by decide +kernel
theorem dX5_init_27 : decode cX5_init 27 = .ok (.putfield 22, 3) := by decide +kernel
theorem dX5_init_30 : decode cX5_init 30 = .ok (.return_, 1) := by decide +kernel
theorem dX5_takes_0 : decode cX5_takes 0 = .ok (.aload_n 1, 1) := by decide +kernel
theorem dX5_takes_1 : decode cX5_takes 1 = .ok (.getfield 9, 3) := by decide +kernel
theorem dX5_takes_4 : decode cX5_takes 4 = .ok (.iconst 0, 1) := by decide +kernel
theorem dX5_takes_5 : decode cX5_takes 5 = .ok (.aload_n 0, 1) := by decide +kernel
theorem dX5_takes_6 : decode cX5_takes 6 = .ok (.getfield 9, 3) := by decide +kernel
theorem dX5_takes_9 : decode cX5_takes 9 = .ok (.iconst 0, 1) := by decide +kernel
theorem dX5_takes_10 : decode cX5_takes 10 = .ok (.bipush 60, 2) := by decide +kernel
theorem dX5_takes_12 : decode cX5_takes 12 = .ok (.invokestatic 26, 3) := by decide +kernel
theorem dX5_takes_15 : decode cX5_takes 15 = .ok (.aload_n 0, 1) := by decide +kernel
theorem dX5_takes_16 : decode cX5_takes 16 = .ok (.aload_n 1, 1) := by decide +kernel
theorem dX5_takes_17 : decode cX5_takes 17 = .ok (.getfield 18, 3) := by decide +kernel
theorem dX5_takes_20 : decode cX5_takes 20 = .ok (.putfield 18, 3) := by decide +kernel
theorem dX5_takes_23 : decode cX5_takes 23 = .ok (.aload_n 0, 1) := by decide +kernel
theorem dX5_takes_24 : decode cX5_takes 24 = .ok (.aload_n 1, 1) := by decide +kernel
theorem dX5_takes_25 : decode cX5_takes 25 = .ok (.getfield 22, 3) := by decide +kernel
theorem dX5_takes_28 : decode cX5_takes 28 = .ok (.putfield 22, 3) := by decide +kernel
theorem dX5_takes_31 : decode cX5_takes 31 = .ok (.return_, 1) := by decide +kernel
theorem dX5_add_0 : decode cX5_add 0 = .ok (.aload_n 0, 1) := by decide +kernel
theorem dX5_add_1 : decode cX5_add 1 = .ok (.getfield 18, 3) := by decide +kernel
theorem dX5_add_4 : decode cX5_add 4 = .ok (.bipush 60, 2) := by decide +kernel
theorem dX5_add_6 : decode cX5_add 6 = .ok (.if_icmp .ge 23, 3) := by decide +kernel
theorem dX5_add_9 : decode cX5_add 9 = .ok (.aload_n 0, 1) := by decide +kernel
theorem dX5_add_10 : decode cX5_add 10 = .ok (.getfield 9, 3) := by decide +kernel
theorem dX5_add_13 : decode cX5_add 13 = .ok (.aload_n 0, 1) := by decide +kernel
theorem dX5_add_14 : decode cX5_add 14 = .ok (.getfield 18, 3) := by decide +kernel
theorem dX5_add_17 : decode cX5_add 17 = .ok (.iload_n 1, 1) := by decide +kernel
theorem dX5_add_18 : decode cX5_add 18 = .ok (.iastore, 1) := by decide +kernel
theorem dX5_add_19 : decode cX5_add 19 = .ok (.aload_n 0, 1) := by decide +kernel
theorem dX5_add_20 : decode cX5_add 20 = .ok (.dup, 1) := by decide +kernel
theorem dX5_add_21 : decode cX5_add 21 = .ok (.getfield 18, 3) := by decide +kernel
theorem dX5_add_24 : decode cX5_add 24 = .ok (.iconst 1, 1) := by decide +kernel
theorem dX5_add_25 : decode cX5_add 25 = .ok (.iadd, 1) := by decide +kernel
theorem dX5_add_26 : decode cX5_add 26 = .ok (.putfield 18, 3) := by decide +kernel
theorem dX5_add_29 : decode cX5_add 29 = .ok (.return_, 1) := by decide +kernel
theorem dX5_work_0 : decode cX5_work 0 = .ok (.iconst 0, 1) := by decide +kernel
theorem dX5_work_1 : decode cX5_work 1 = .ok (.istore 4, 2) := by decide +kernel
theorem dX5_work_3 : decode cX5_work 3 = .ok (.iconst 0, 1) := by decide +kernel
theorem dX5_work_4 : decode cX5_work 4 = .ok (.istore 5, 2) := by decide +kernel
theorem dX5_work_6 : decode cX5_work 6 = .ok (.iload 5, 2) := by decide +kernel
theorem dX5_work_8 : decode cX5_work 8 = .ok (.aload_n 0, 1) := by decide +kernel
theorem dX5_work_9 : decode cX5_work 9 = .ok (.getfield 18, 3) := by decide +kernel
theorem dX5_work_12 : decode cX5_work 12 = .ok (.if_icmp .ge 149, 3) := by decide +kernel
theorem dX5_work_15 : decode cX5_work 15 = .ok (.iload 4, 2) := by decide +kernel
theorem dX5_work_17 : decode cX5_work 17 = .ok (.bipush 60, 2) := by decide +kernel
theorem dX5_work_19 : decode cX5_work 19 = .ok (.if_icmp .ge 142, 3) := by decide +kernel
theorem dX5_work_22 : decode cX5_work 22 = .ok (.aload_n 0, 1) := by decide +kernel
theorem dX5_work_23 : decode cX5_work 23 = .ok (.getfield 9, 3) := by decide +kernel
theorem dX5_work_26 : decode cX5_work 26 = .ok (.iload 5, 2) := by decide +kernel
theorem dX5_work_28 : decode cX5_work 28 = .ok (.iaload, 1) := by decide +kernel
theorem dX5_work_29 : decode cX5_work 29 = .ok (.istore 6, 2) := by decide +kernel
theorem dX5_work_31 : decode cX5_work 31 = .ok (.iload 6, 2) := by decide +kernel
theorem dX5_work_33 : decode cX5_work 33 = .ok (.bipush (-3), 2) := by decide +kernel
theorem dX5_work_35 : decode cX5_work 35 = .ok (.if_icmp .lt 34, 3) := by decide +kernel
theorem dX5_work_38 : decode cX5_work 38 = .ok (.aload_n 0, 1) := by decide +kernel
theorem dX5_work_39 : decode cX5_work 39 = .ok (.getfield 15, 3) := by decide +kernel
theorem dX5_work_42 : decode cX5_work 42 = .ok (.iload 4, 2) := by decide +kernel
theorem dX5_work_44 : decode cX5_work 44 = .ok (.iload 6, 2) := by decide +kernel
theorem dX5_work_46 : decode cX5_work 46 = .ok (.ifCond .lt 8, 3) := by decide +kernel
theorem dX5_work_49 : decode cX5_work 49 = .ok (.iload 6, 2) := by decide +kernel
theorem dX5_work_51 : decode cX5_work 51 = .ok (.goto 11, 3) := by decide +kernel
theorem dX5_work_54 : decode cX5_work 54 = .ok (.iload 6, 2) := by decide +kernel
theorem dX5_work_56 : decode cX5_work 56 = .ok (.iload_n 1, 1) := by decide +kernel
theorem dX5_work_57 : decode cX5_work 57 = .ok (.iload_n 2, 1) := by decide +kernel
theorem dX5_work_58 : decode cX5_work 58 = .ok (.iload_n 3, 1) := by decide +kernel
theorem dX5_work_59 : decode cX5_work 59 = .ok (.invokestatic 32, 3) := by decide +kernel
theorem dX5_work_62 : decode cX5_work 62 = .ok (.iastore, 1) := by decide +kernel
theorem dX5_work_63 : decode cX5_work 63 = .ok (.iinc 4 1, 3) := by decide +kernel
theorem dX5_work_66 : decode cX5_work 66 = .ok (.goto 89, 3) := by decide +kernel
theorem dX5_work_69 : decode cX5_work 69 = .ok (.iload 6, 2) := by decide +kernel
theorem dX5_work_71 : decode cX5_work 71 = .ok (.bipush (-33), 2) := by decide +kernel
theorem dX5_work_73 : decode cX5_work 73 = .ok (.if_icmp .ne 40, 3) := by decide +kernel
theorem dX5_work_76 : decode cX5_work 76 = .ok (.iload 4, 2) := by decide +kernel
theorem dX5_work_78 : decode cX5_work 78 = .ok (.iconst 1, 1) := by decide +kernel
theorem dX5_work_79 : decode cX5_work 79 = .ok (.if_icmp .ge 5, 3) := by decide +kernel
theorem dX5_work_82 : decode cX5_work 82 = .ok (.iconst 0, 1) := by decide +kernel
theorem dX5_work_83 : decode cX5_work 83 = .ok (.ireturn, 1) := by decide +kernel
theorem dX5_work_84 : decode cX5_work 84 = .ok (.aload_n 0, 1) := by decide +kernel
theorem dX5_work_85 : decode cX5_work 85 = .ok (.getfield 15, 3) := by decide +kernel
theorem dX5_work_88 : decode cX5_work 88 = .ok (.iload 4, 2) := by decide +kernel
theorem dX5_work_90 : decode cX5_work 90 = .ok (.iconst 1, 1) := by decide +kernel
theorem dX5_work_91 : decode cX5_work 91 = .ok (.isub, 1) := by decide +kernel
theorem dX5_work_92 : decode cX5_work 92 = .ok (.aload_n 0, 1) := by decide +kernel
theorem dX5_work_93 : decode cX5_work 93 = .ok (.getfield 15, 3) := by decide +kernel
theorem dX5_work_96 : decode cX5_work 96 = .ok (.iload 4, 2) := by decide +kernel
theorem dX5_work_98 : decode cX5_work 98 = .ok (.iconst 1, 1) := by decide +kernel
theorem dX5_work_99 : decode cX5_work 99 = .ok (.isub, 1) := by decide +kernel
theorem dX5_work_100 : decode cX5_work 100 = .ok (.iaload, 1) := by decide +kernel
theorem dX5_work_101 : decode cX5_work 101 = .ok (.ifCond .ne 7, 3) := by decide +kernel
theorem dX5_work_104 : decode cX5_work 104 = .ok (.iconst 1, 1) := by decide +kernel
theorem dX5_work_105 : decode cX5_work 105 = .ok (.goto 4, 3) := by decide +kernel
theorem dX5_work_108 : decode cX5_work 108 = .ok (.iconst 0, 1) := by decide +kernel
theorem dX5_work_109 : decode cX5_work 109 = .ok (.iastore, 1) := by decide +kernel
theorem dX5_work_110 : decode cX5_work 110 = .ok (.goto 45, 3) := by decide +kernel
theorem dX5_work_113 : decode cX5_work 113 = .ok (.iload 4, 2) := by decide +kernel
theorem dX5_work_115 : decode cX5_work 115 = .ok (.iconst 2, 1) := by decide +kernel
theorem dX5_work_116 : decode cX5_work 116 = .ok (.if_icmp .ge 5, 3) := by decide +kernel
theorem dX5_work_119 : decode cX5_work 119 = .ok (.iconst 0, 1) := by decide +kernel
theorem dX5_work_120 : decode cX5_work 120 = .ok (.ireturn, 1) := by decide +kernel
theorem dX5_work_121 : decode cX5_work 121 = .ok (.iinc 4 (-1), 3) := by decide +kernel
theorem dX5_work_124 : decode cX5_work 124 = .ok (.aload_n 0, 1) := by decide +kernel
theorem dX5_work_125 : decode cX5_work 125 = .ok (.getfield 15, 3) := by decide +kernel
theorem dX5_work_128 : decode cX5_work 128 = .ok (.iload 4, 2) := by decide +kernel
theorem dX5_work_130 : decode cX5_work 130 = .ok (.iconst 1, 1) := by decide +kernel
theorem dX5_work_131 : decode cX5_work 131 = .ok (.isub, 1) := by decide +kernel
theorem dX5_work_132 : decode cX5_work 132 = .ok (.iload 6, 2) := by decide +kernel
theorem dX5_work_134 : decode cX5_work 134 = .ok (.ineg, 1) := by decide +kernel
theorem dX5_work_135 : decode cX5_work 135 = .ok (.aload_n 0, 1) := by decide +kernel
theorem dX5_work_136 : decode cX5_work 136 = .ok (.getfield 15, 3) := by decide +kernel
theorem dX5_work_139 : decode cX5_work 139 = .ok (.iload 4, 2) := by decide +kernel
theorem dX5_work_141 : decode cX5_work 141 = .ok (.iconst 1, 1) := by decide +kernel
theorem dX5_work_142 : decode cX5_work 142 = .ok (.isub, 1) := by decide +kernel
theorem dX5_work_143 : decode cX5_work 143 = .ok (.iaload, 1) := by decide +kernel
theorem dX5_work_144 : decode cX5_work 144 = .ok (.aload_n 0, 1) := by decide +kernel
theorem dX5_work_145 : decode cX5_work 145 = .ok (.getfield 15, 3) := by decide +kernel
theorem dX5_work_148 : decode cX5_work 148 = .ok (.iload 4, 2) := by decide +kernel
theorem dX5_work_150 : decode cX5_work 150 = .ok (.iaload, 1) := by decide +kernel
theorem dX5_work_151 : decode cX5_work 151 = .ok (.invokestatic 36, 3) := by decide +kernel
theorem dX5_work_154 : decode cX5_work 154 = .ok (.iastore, 1) := by decide +kernel
theorem dX5_work_155 : decode cX5_work 155 = .ok (.iinc 5 1, 3) := by decide +kernel
theorem dX5_work_158 : decode cX5_work 158 = .ok (.goto (-152), 3) := by decide +kernel
theorem dX5_work_161 : decode cX5_work 161 = .ok (.aload_n 0, 1) := by decide +kernel
theorem dX5_work_162 : decode cX5_work 162 = .ok (.getfield 15, 3) := by decide +kernel
theorem dX5_work_165 : decode cX5_work 165 = .ok (.iconst 0, 1) := by decide +kernel
theorem dX5_work_166 : decode cX5_work 166 = .ok (.iaload, 1) := by decide +kernel
theorem dX5_work_167 : decode cX5_work 167 = .ok (.ireturn, 1) := by decide +kernel
theorem dX5_named_0 : decode cX5_named 0 = .ok (.iload_n 0, 1) := by decide +kernel
theorem dX5_named_1 : decode cX5_named 1 = .ok (.lookupswitch 31 #[(-2, 29), (-1, 27)], 27) := by decide +kernel
theorem dX5_named_28 : decode cX5_named 28 = .ok (.iload_n 1, 1) := by decide +kernel
theorem dX5_named_29 : decode cX5_named 29 = .ok (.ireturn, 1) := by decide +kernel
theorem dX5_named_30 : decode cX5_named 30 = .ok (.iload_n 2, 1) := by decide +kernel
theorem dX5_named_31 : decode cX5_named 31 = .ok (.ireturn, 1) := by decide +kernel
theorem dX5_named_32 : decode cX5_named 32 = .ok (.iload_n 3, 1) := by decide +kernel
theorem dX5_named_33 : decode cX5_named 33 = .ok (.ireturn, 1) := by decide +kernel
theorem dX5_joined_0 : decode cX5_joined 0 = .ok (.iload_n 0, 1) := by decide +kernel
theorem dX5_joined_1 : decode cX5_joined 1 = .ok (.lookupswitch 188 #[(37, 176), (38, 105), (42, 160), (43, 152), (45, 156), (47, 164), (60, 119), (61, 130), (62, 141), (124, 91)], 91) := by decide +kernel
theorem dX5_joined_92 : decode cX5_joined 92 = .ok (.iload_n 1, 1) := by decide +kernel
theorem dX5_joined_93 : decode cX5_joined 93 = .ok (.ifCond .ne 7, 3) := by decide +kernel
theorem dX5_joined_96 : decode cX5_joined 96 = .ok (.iload_n 2, 1) := by decide +kernel
theorem dX5_joined_97 : decode cX5_joined 97 = .ok (.ifCond .eq 7, 3) := by decide +kernel
theorem dX5_joined_100 : decode cX5_joined 100 = .ok (.iconst 1, 1) := by decide +kernel
theorem dX5_joined_101 : decode cX5_joined 101 = .ok (.goto 4, 3) := by decide +kernel
theorem dX5_joined_104 : decode cX5_joined 104 = .ok (.iconst 0, 1) := by decide +kernel
theorem dX5_joined_105 : decode cX5_joined 105 = .ok (.ireturn, 1) := by decide +kernel
theorem dX5_joined_106 : decode cX5_joined 106 = .ok (.iload_n 1, 1) := by decide +kernel
theorem dX5_joined_107 : decode cX5_joined 107 = .ok (.ifCond .eq 11, 3) := by decide +kernel
theorem dX5_joined_110 : decode cX5_joined 110 = .ok (.iload_n 2, 1) := by decide +kernel
theorem dX5_joined_111 : decode cX5_joined 111 = .ok (.ifCond .eq 7, 3) := by decide +kernel
theorem dX5_joined_114 : decode cX5_joined 114 = .ok (.iconst 1, 1) := by decide +kernel
theorem dX5_joined_115 : decode cX5_joined 115 = .ok (.goto 4, 3) := by decide +kernel
theorem dX5_joined_118 : decode cX5_joined 118 = .ok (.iconst 0, 1) := by decide +kernel
theorem dX5_joined_119 : decode cX5_joined 119 = .ok (.ireturn, 1) := by decide +kernel
theorem dX5_joined_120 : decode cX5_joined 120 = .ok (.iload_n 1, 1) := by decide +kernel
theorem dX5_joined_121 : decode cX5_joined 121 = .ok (.iload_n 2, 1) := by decide +kernel
theorem dX5_joined_122 : decode cX5_joined 122 = .ok (.if_icmp .ge 7, 3) := by decide +kernel
theorem dX5_joined_125 : decode cX5_joined 125 = .ok (.iconst 1, 1) := by decide +kernel
theorem dX5_joined_126 : decode cX5_joined 126 = .ok (.goto 4, 3) := by decide +kernel
theorem dX5_joined_129 : decode cX5_joined 129 = .ok (.iconst 0, 1) := by decide +kernel
theorem dX5_joined_130 : decode cX5_joined 130 = .ok (.ireturn, 1) := by decide +kernel
theorem dX5_joined_131 : decode cX5_joined 131 = .ok (.iload_n 1, 1) := by decide +kernel
theorem dX5_joined_132 : decode cX5_joined 132 = .ok (.iload_n 2, 1) := by decide +kernel
theorem dX5_joined_133 : decode cX5_joined 133 = .ok (.if_icmp .ne 7, 3) := by decide +kernel
theorem dX5_joined_136 : decode cX5_joined 136 = .ok (.iconst 1, 1) := by decide +kernel
theorem dX5_joined_137 : decode cX5_joined 137 = .ok (.goto 4, 3) := by decide +kernel
theorem dX5_joined_140 : decode cX5_joined 140 = .ok (.iconst 0, 1) := by decide +kernel
theorem dX5_joined_141 : decode cX5_joined 141 = .ok (.ireturn, 1) := by decide +kernel
theorem dX5_joined_142 : decode cX5_joined 142 = .ok (.iload_n 1, 1) := by decide +kernel
theorem dX5_joined_143 : decode cX5_joined 143 = .ok (.iload_n 2, 1) := by decide +kernel
theorem dX5_joined_144 : decode cX5_joined 144 = .ok (.if_icmp .le 7, 3) := by decide +kernel
theorem dX5_joined_147 : decode cX5_joined 147 = .ok (.iconst 1, 1) := by decide +kernel
theorem dX5_joined_148 : decode cX5_joined 148 = .ok (.goto 4, 3) := by decide +kernel
theorem dX5_joined_151 : decode cX5_joined 151 = .ok (.iconst 0, 1) := by decide +kernel
theorem dX5_joined_152 : decode cX5_joined 152 = .ok (.ireturn, 1) := by decide +kernel
theorem dX5_joined_153 : decode cX5_joined 153 = .ok (.iload_n 1, 1) := by decide +kernel
theorem dX5_joined_154 : decode cX5_joined 154 = .ok (.iload_n 2, 1) := by decide +kernel
theorem dX5_joined_155 : decode cX5_joined 155 = .ok (.iadd, 1) := by decide +kernel
theorem dX5_joined_156 : decode cX5_joined 156 = .ok (.ireturn, 1) := by decide +kernel
theorem dX5_joined_157 : decode cX5_joined 157 = .ok (.iload_n 1, 1) := by decide +kernel
theorem dX5_joined_158 : decode cX5_joined 158 = .ok (.iload_n 2, 1) := by decide +kernel
theorem dX5_joined_159 : decode cX5_joined 159 = .ok (.isub, 1) := by decide +kernel
theorem dX5_joined_160 : decode cX5_joined 160 = .ok (.ireturn, 1) := by decide +kernel
theorem dX5_joined_161 : decode cX5_joined 161 = .ok (.iload_n 1, 1) := by decide +kernel
theorem dX5_joined_162 : decode cX5_joined 162 = .ok (.iload_n 2, 1) := by decide +kernel
theorem dX5_joined_163 : decode cX5_joined 163 = .ok (.imul, 1) := by decide +kernel
theorem dX5_joined_164 : decode cX5_joined 164 = .ok (.ireturn, 1) := by decide +kernel
theorem dX5_joined_165 : decode cX5_joined 165 = .ok (.iload_n 2, 1) := by decide +kernel
theorem dX5_joined_166 : decode cX5_joined 166 = .ok (.ifCond .ne 7, 3) := by decide +kernel
theorem dX5_joined_169 : decode cX5_joined 169 = .ok (.iconst 0, 1) := by decide +kernel
theorem dX5_joined_170 : decode cX5_joined 170 = .ok (.goto 6, 3) := by decide +kernel
theorem dX5_joined_173 : decode cX5_joined 173 = .ok (.iload_n 1, 1) := by decide +kernel
theorem dX5_joined_174 : decode cX5_joined 174 = .ok (.iload_n 2, 1) := by decide +kernel
theorem dX5_joined_175 : decode cX5_joined 175 = .ok (.idiv, 1) := by decide +kernel
theorem dX5_joined_176 : decode cX5_joined 176 = .ok (.ireturn, 1) := by decide +kernel
theorem dX5_joined_177 : decode cX5_joined 177 = .ok (.iload_n 2, 1) := by decide +kernel
theorem dX5_joined_178 : decode cX5_joined 178 = .ok (.ifCond .ne 7, 3) := by decide +kernel
theorem dX5_joined_181 : decode cX5_joined 181 = .ok (.iconst 0, 1) := by decide +kernel
theorem dX5_joined_182 : decode cX5_joined 182 = .ok (.goto 6, 3) := by decide +kernel
theorem dX5_joined_185 : decode cX5_joined 185 = .ok (.iload_n 1, 1) := by decide +kernel
theorem dX5_joined_186 : decode cX5_joined 186 = .ok (.iload_n 2, 1) := by decide +kernel
theorem dX5_joined_187 : decode cX5_joined 187 = .ok (.irem, 1) := by decide +kernel
theorem dX5_joined_188 : decode cX5_joined 188 = .ok (.ireturn, 1) := by decide +kernel
theorem dX5_joined_189 : decode cX5_joined 189 = .ok (.iconst 0, 1) := by decide +kernel
theorem dX5_joined_190 : decode cX5_joined 190 = .ok (.ireturn, 1) := by decide +kernel
theorem dX6_init_0 : decode cX6_init 0 = .ok (.aload_n 0, 1) := by decide +kernel
theorem dX6_init_1 : decode cX6_init 1 = .ok (.invokespecial 3, 3) := by decide +kernel
theorem dX6_init_4 : decode cX6_init 4 = .ok (.aload_n 0, 1) := by decide +kernel
theorem dX6_init_5 : decode cX6_init 5 = .ok (.bipush 30, 2) := by decide +kernel
theorem dX6_init_7 : decode cX6_init 7 = .ok (.newarray .int, 2) := by decide +kernel
theorem dX6_init_9 : decode cX6_init 9 = .ok (.putfield 9, 3) := by decide +kernel
theorem dX6_init_12 : decode cX6_init 12 = .ok (.aload_n 0, 1) := by decide +kernel
theorem dX6_init_13 : decode cX6_init 13 = .ok (.iconst 0, 1) := by decide +kernel
theorem dX6_init_14 : decode cX6_init 14 = .ok (.putfield 15, 3) := by decide +kernel
theorem dX6_init_17 : decode cX6_init 17 = .ok (.aload_n 0, 1) := by decide +kernel
theorem dX6_init_18 : decode cX6_init 18 = .ok (.iconst 0, 1) := by decide +kernel
theorem dX6_init_19 : decode cX6_init 19 = .ok (.putfield 19, 3) := by decide +kernel
theorem dX6_init_22 : decode cX6_init 22 = .ok (.aload_n 0, 1) := by decide +kernel
theorem dX6_init_23 : decode cX6_init 23 = .ok (.iconst 0, 1) := by decide +kernel
theorem dX6_init_24 : decode cX6_init 24 = .ok (.putfield 23, 3) := by decide +kernel
theorem dX6_init_27 : decode cX6_init 27 = .ok (.aload_n 0, 1) := by decide +kernel
theorem dX6_init_28 : decode cX6_init 28 = .ok (.iconst 0, 1) := by decide +kernel
theorem dX6_init_29 : decode cX6_init 29 = .ok (.putfield 26, 3) := by decide +kernel
theorem dX6_init_32 : decode cX6_init 32 = .ok (.aload_n 0, 1) := by decide +kernel
theorem dX6_init_33 : decode cX6_init 33 = .ok (.iconst 0, 1) := by decide +kernel
theorem dX6_init_34 : decode cX6_init 34 = .ok (.putfield 29, 3) := by decide +kernel
theorem dX6_init_37 : decode cX6_init 37 = .ok (.return_, 1) := by decide +kernel
theorem dX6_speak_0 : decode cX6_speak 0 = .ok (.aload_n 0, 1) := by decide +kernel
theorem dX6_speak_1 : decode cX6_speak 1 = .ok (.iconst 0, 1) := by decide +kernel
theorem dX6_speak_2 : decode cX6_speak 2 = .ok (.putfield 15, 3) := by decide +kernel
theorem dX6_speak_5 : decode cX6_speak 5 = .ok (.aload_n 0, 1) := by decide +kernel
theorem dX6_speak_6 : decode cX6_speak 6 = .ok (.iconst 0, 1) := by decide +kernel
theorem dX6_speak_7 : decode cX6_speak 7 = .ok (.putfield 19, 3) := by decide +kernel
theorem dX6_speak_10 : decode cX6_speak 10 = .ok (.aload_n 0, 1) := by decide +kernel
theorem dX6_speak_11 : decode cX6_speak 11 = .ok (.iload_n 1, 1) := by decide +kernel
theorem dX6_speak_12 : decode cX6_speak 12 = .ok (.putfield 23, 3) := by decide +kernel
theorem dX6_speak_15 : decode cX6_speak 15 = .ok (.aload_n 0, 1) := by decide +kernel
theorem dX6_speak_16 : decode cX6_speak 16 = .ok (.iload_n 2, 1) := by decide +kernel
theorem dX6_speak_17 : decode cX6_speak 17 = .ok (.putfield 29, 3) := by decide +kernel
theorem dX6_speak_20 : decode cX6_speak 20 = .ok (.aload_n 0, 1) := by decide +kernel
theorem dX6_speak_21 : decode cX6_speak 21 = .ok (.iload_n 3, 1) := by decide +kernel
theorem dX6_speak_22 : decode cX6_speak 22 = .ok (.putfield 26, 3) := by decide +kernel
theorem dX6_speak_25 : decode cX6_speak 25 = .ok (.aload_n 0, 1) := by decide +kernel
theorem dX6_speak_26 : decode cX6_speak 26 = .ok (.iload_n 2, 1) := by decide +kernel
theorem dX6_speak_27 : decode cX6_speak 27 = .ok (.iload 4, 2) := by decide +kernel
theorem dX6_speak_29 : decode cX6_speak 29 = .ok (.iload 5, 2) := by decide +kernel
theorem dX6_speak_31 : decode cX6_speak 31 = .ok (.iconst 0, 1) := by decide +kernel
theorem dX6_speak_32 : decode cX6_speak 32 = .ok (.invokevirtual 32, 3) := by decide +kernel
theorem dX6_speak_35 : decode cX6_speak 35 = .ok (.ireturn, 1) := by decide +kernel
theorem dX6_say_0 : decode cX6_say 0 = .ok (.iload_n 1, 1) := by decide +kernel
theorem dX6_say_1 : decode cX6_say 1 = .ok (.iload_n 2, 1) := by decide +kernel
theorem dX6_say_2 : decode cX6_say 2 = .ok (.invokestatic 36, 3) := by decide +kernel
theorem dX6_say_5 : decode cX6_say 5 = .ok (.istore 5, 2) := by decide +kernel
theorem dX6_say_7 : decode cX6_say 7 = .ok (.iload 4, 2) := by decide +kernel
theorem dX6_say_9 : decode cX6_say 9 = .ok (.bipush 20, 2) := by decide +kernel
theorem dX6_say_11 : decode cX6_say 11 = .ok (.if_icmp .lt 5, 3) := by decide +kernel
theorem dX6_say_14 : decode cX6_say 14 = .ok (.iconst 0, 1) := by decide +kernel
theorem dX6_say_15 : decode cX6_say 15 = .ok (.ireturn, 1) := by decide +kernel
theorem dX6_say_16 : decode cX6_say 16 = .ok (.aload_n 0, 1) := by decide +kernel
theorem dX6_say_17 : decode cX6_say 17 = .ok (.iload 5, 2) := by decide +kernel
theorem dX6_say_19 : decode cX6_say 19 = .ok (.invokevirtual 40, 3) := by decide +kernel
theorem dX6_say_22 : decode cX6_say 22 = .ok (.iload 4, 2) := by decide +kernel
theorem dX6_say_24 : decode cX6_say 24 = .ok (.iconst 1, 1) := by decide +kernel
theorem dX6_say_25 : decode cX6_say 25 = .ok (.iadd, 1) := by decide +kernel
theorem dX6_say_26 : decode cX6_say 26 = .ok (.istore 6, 2) := by decide +kernel
theorem dX6_say_28 : decode cX6_say 28 = .ok (.iload 5, 2) := by decide +kernel
theorem dX6_say_30 : decode cX6_say 30 = .ok (.lookupswitch 261 #[(10, 114), (11, 121), (12, 136), (13, 154), (20, 160), (21, 172), (30, 180), (40, 192), (50, 204), (51, 216), (60, 231), (70, 243), (71, 246)], 114) := by decide +kernel
theorem dX6_say_144 : decode cX6_say 144 = .ok (.iload_n 3, 1) := by decide +kernel
theorem dX6_say_145 : decode cX6_say 145 = .ok (.aload_n 0, 1) := by decide +kernel
theorem dX6_say_146 : decode cX6_say 146 = .ok (.getfield 23, 3) := by decide +kernel
theorem dX6_say_149 : decode cX6_say 149 = .ok (.iadd, 1) := by decide +kernel
theorem dX6_say_150 : decode cX6_say 150 = .ok (.ireturn, 1) := by decide +kernel
theorem dX6_say_151 : decode cX6_say 151 = .ok (.aload_n 0, 1) := by decide +kernel
theorem dX6_say_152 : decode cX6_say 152 = .ok (.aload_n 0, 1) := by decide +kernel
theorem dX6_say_153 : decode cX6_say 153 = .ok (.getfield 29, 3) := by decide +kernel
theorem dX6_say_156 : decode cX6_say 156 = .ok (.iconst 0, 1) := by decide +kernel
theorem dX6_say_157 : decode cX6_say 157 = .ok (.iload_n 3, 1) := by decide +kernel
theorem dX6_say_158 : decode cX6_say 158 = .ok (.iload 6, 2) := by decide +kernel
theorem dX6_say_160 : decode cX6_say 160 = .ok (.invokevirtual 32, 3) := by decide +kernel
theorem dX6_say_163 : decode cX6_say 163 = .ok (.iconst 2, 1) := by decide +kernel
theorem dX6_say_164 : decode cX6_say 164 = .ok (.imul, 1) := by decide +kernel
theorem dX6_say_165 : decode cX6_say 165 = .ok (.ireturn, 1) := by decide +kernel
theorem dX6_say_166 : decode cX6_say 166 = .ok (.aload_n 0, 1) := by decide +kernel
theorem dX6_say_167 : decode cX6_say 167 = .ok (.aload_n 0, 1) := by decide +kernel
theorem dX6_say_168 : decode cX6_say 168 = .ok (.getfield 29, 3) := by decide +kernel
theorem dX6_say_171 : decode cX6_say 171 = .ok (.iconst 1, 1) := by decide +kernel
theorem dX6_say_172 : decode cX6_say 172 = .ok (.iload_n 3, 1) := by decide +kernel
theorem dX6_say_173 : decode cX6_say 173 = .ok (.iload 6, 2) := by decide +kernel
theorem dX6_say_175 : decode cX6_say 175 = .ok (.invokevirtual 32, 3) := by decide +kernel
theorem dX6_say_178 : decode cX6_say 178 = .ok (.aload_n 0, 1) := by decide +kernel
theorem dX6_say_179 : decode cX6_say 179 = .ok (.getfield 26, 3) := by decide +kernel
theorem dX6_say_182 : decode cX6_say 182 = .ok (.isub, 1) := by decide +kernel
theorem dX6_say_183 : decode cX6_say 183 = .ok (.ireturn, 1) := by decide +kernel
theorem dX6_say_184 : decode cX6_say 184 = .ok (.aload_n 0, 1) := by decide +kernel
theorem dX6_say_185 : decode cX6_say 185 = .ok (.iload_n 3, 1) := by decide +kernel
theorem dX6_say_186 : decode cX6_say 186 = .ok (.invokevirtual 44, 3) := by decide +kernel
theorem dX6_say_189 : decode cX6_say 189 = .ok (.ireturn, 1) := by decide +kernel
theorem dX6_say_190 : decode cX6_say 190 = .ok (.aload_n 0, 1) := by decide +kernel
theorem dX6_say_191 : decode cX6_say 191 = .ok (.iconst 0, 1) := by decide +kernel
theorem dX6_say_192 : decode cX6_say 192 = .ok (.iconst 0, 1) := by decide +kernel
theorem dX6_say_193 : decode cX6_say 193 = .ok (.iload_n 3, 1) := by decide +kernel
theorem dX6_say_194 : decode cX6_say 194 = .ok (.iload 6, 2) := by decide +kernel
theorem dX6_say_196 : decode cX6_say 196 = .ok (.invokevirtual 32, 3) := by decide +kernel
theorem dX6_say_199 : decode cX6_say 199 = .ok (.iconst 4, 1) := by decide +kernel
theorem dX6_say_200 : decode cX6_say 200 = .ok (.isub, 1) := by decide +kernel
theorem dX6_say_201 : decode cX6_say 201 = .ok (.ireturn, 1) := by decide +kernel
theorem dX6_say_202 : decode cX6_say 202 = .ok (.aload_n 0, 1) := by decide +kernel
theorem dX6_say_203 : decode cX6_say 203 = .ok (.iload_n 3, 1) := by decide +kernel
theorem dX6_say_204 : decode cX6_say 204 = .ok (.iload 6, 2) := by decide +kernel
theorem dX6_say_206 : decode cX6_say 206 = .ok (.invokevirtual 48, 3) := by decide +kernel
theorem dX6_say_209 : decode cX6_say 209 = .ok (.ireturn, 1) := by decide +kernel
theorem dX6_say_210 : decode cX6_say 210 = .ok (.iconst 0, 1) := by decide +kernel
theorem dX6_say_211 : decode cX6_say 211 = .ok (.aload_n 0, 1) := by decide +kernel
theorem dX6_say_212 : decode cX6_say 212 = .ok (.iconst 0, 1) := by decide +kernel
theorem dX6_say_213 : decode cX6_say 213 = .ok (.iconst 1, 1) := by decide +kernel
theorem dX6_say_214 : decode cX6_say 214 = .ok (.iload_n 3, 1) := by decide +kernel
theorem dX6_say_215 : decode cX6_say 215 = .ok (.iload 6, 2) := by decide +kernel
theorem dX6_say_217 : decode cX6_say 217 = .ok (.invokevirtual 32, 3) := by decide +kernel
theorem dX6_say_220 : decode cX6_say 220 = .ok (.isub, 1) := by decide +kernel
theorem dX6_say_221 : decode cX6_say 221 = .ok (.ireturn, 1) := by decide +kernel
theorem dX6_say_222 : decode cX6_say 222 = .ok (.aload_n 0, 1) := by decide +kernel
theorem dX6_say_223 : decode cX6_say 223 = .ok (.iconst 0, 1) := by decide +kernel
theorem dX6_say_224 : decode cX6_say 224 = .ok (.iconst 2, 1) := by decide +kernel
theorem dX6_say_225 : decode cX6_say 225 = .ok (.iload_n 3, 1) := by decide +kernel
theorem dX6_say_226 : decode cX6_say 226 = .ok (.iconst 2, 1) := by decide +kernel
theorem dX6_say_227 : decode cX6_say 227 = .ok (.idiv, 1) := by decide +kernel
theorem dX6_say_228 : decode cX6_say 228 = .ok (.iload 6, 2) := by decide +kernel
theorem dX6_say_230 : decode cX6_say 230 = .ok (.invokevirtual 32, 3) := by decide +kernel
theorem dX6_say_233 : decode cX6_say 233 = .ok (.ireturn, 1) := by decide +kernel
theorem dX6_say_234 : decode cX6_say 234 = .ok (.aload_n 0, 1) := by decide +kernel
theorem dX6_say_235 : decode cX6_say 235 = .ok (.iconst 1, 1) := by decide +kernel
theorem dX6_say_236 : decode cX6_say 236 = .ok (.iconst 0, 1) := by decide +kernel
theorem dX6_say_237 : decode cX6_say 237 = .ok (.iload_n 3, 1) := by decide +kernel
theorem dX6_say_238 : decode cX6_say 238 = .ok (.iload 6, 2) := by decide +kernel
theorem dX6_say_240 : decode cX6_say 240 = .ok (.invokevirtual 32, 3) := by decide +kernel
theorem dX6_say_243 : decode cX6_say 243 = .ok (.iconst 3, 1) := by decide +kernel
theorem dX6_say_244 : decode cX6_say 244 = .ok (.imul, 1) := by decide +kernel
theorem dX6_say_245 : decode cX6_say 245 = .ok (.ireturn, 1) := by decide +kernel
theorem dX6_say_246 : decode cX6_say 246 = .ok (.aload_n 0, 1) := by decide +kernel
theorem dX6_say_247 : decode cX6_say 247 = .ok (.iconst 1, 1) := by decide +kernel
theorem dX6_say_248 : decode cX6_say 248 = .ok (.iconst 2, 1) := by decide +kernel
theorem dX6_say_249 : decode cX6_say 249 = .ok (.iload_n 3, 1) := by decide +kernel
theorem dX6_say_250 : decode cX6_say 250 = .ok (.iload 6, 2) := by decide +kernel
theorem dX6_say_252 : decode cX6_say 252 = .ok (.invokevirtual 32, 3) := by decide +kernel
theorem dX6_say_255 : decode cX6_say 255 = .ok (.aload_n 0, 1) := by decide +kernel
theorem dX6_say_256 : decode cX6_say 256 = .ok (.getfield 23, 3) := by decide +kernel
theorem dX6_say_259 : decode cX6_say 259 = .ok (.ixor, 1) := by decide +kernel
theorem dX6_say_260 : decode cX6_say 260 = .ok (.ireturn, 1) := by decide +kernel
theorem dX6_say_261 : decode cX6_say 261 = .ok (.aload_n 0, 1) := by decide +kernel
theorem dX6_say_262 : decode cX6_say 262 = .ok (.iconst 2, 1) := by decide +kernel
theorem dX6_say_263 : decode cX6_say 263 = .ok (.iconst 1, 1) := by decide +kernel
theorem dX6_say_264 : decode cX6_say 264 = .ok (.iload_n 3, 1) := by decide +kernel
theorem dX6_say_265 : decode cX6_say 265 = .ok (.iconst 1, 1) := by decide +kernel
theorem dX6_say_266 : decode cX6_say 266 = .ok (.iadd, 1) := by decide +kernel
theorem dX6_say_267 : decode cX6_say 267 = .ok (.iload 6, 2) := by decide +kernel
theorem dX6_say_269 : decode cX6_say 269 = .ok (.invokevirtual 32, 3) := by decide +kernel
theorem dX6_say_272 : decode cX6_say 272 = .ok (.ireturn, 1) := by decide +kernel
theorem dX6_say_273 : decode cX6_say 273 = .ok (.bipush 9, 2) := by decide +kernel
theorem dX6_say_275 : decode cX6_say 275 = .ok (.ireturn, 1) := by decide +kernel
theorem dX6_say_276 : decode cX6_say 276 = .ok (.aload_n 0, 1) := by decide +kernel
theorem dX6_say_277 : decode cX6_say 277 = .ok (.iconst 0, 1) := by decide +kernel
theorem dX6_say_278 : decode cX6_say 278 = .ok (.iconst 1, 1) := by decide +kernel
theorem dX6_say_279 : decode cX6_say 279 = .ok (.iload_n 3, 1) := by decide +kernel
theorem dX6_say_280 : decode cX6_say 280 = .ok (.iload 6, 2) := by decide +kernel
theorem dX6_say_282 : decode cX6_say 282 = .ok (.invokevirtual 32, 3) := by decide +kernel
theorem dX6_say_285 : decode cX6_say 285 = .ok (.aload_n 0, 1) := by decide +kernel
theorem dX6_say_286 : decode cX6_say 286 = .ok (.getfield 26, 3) := by decide +kernel
theorem dX6_say_289 : decode cX6_say 289 = .ok (.iadd, 1) := by decide +kernel
theorem dX6_say_290 : decode cX6_say 290 = .ok (.ireturn, 1) := by decide +kernel
theorem dX6_say_291 : decode cX6_say 291 = .ok (.iconst 0, 1) := by decide +kernel
theorem dX6_say_292 : decode cX6_say 292 = .ok (.ireturn, 1) := by decide +kernel
theorem dX6_partsOfCurve_0 : decode cX6_partsOfCurve 0 = .ok (.aload_n 0, 1) := by decide +kernel
theorem dX6_partsOfCurve_1 : decode cX6_partsOfCurve 1 = .ok (.iconst 0, 1) := by decide +kernel
theorem dX6_partsOfCurve_2 : decode cX6_partsOfCurve 2 = .ok (.iconst 3, 1) := by decide +kernel
theorem dX6_partsOfCurve_3 : decode cX6_partsOfCurve 3 = .ok (.iload_n 1, 1) := by decide +kernel
theorem dX6_partsOfCurve_4 : decode cX6_partsOfCurve 4 = .ok (.iload_n 2, 1) := by decide +kernel
theorem dX6_partsOfCurve_5 : decode cX6_partsOfCurve 5 = .ok (.invokevirtual 32, 3) := by decide +kernel
theorem dX6_partsOfCurve_8 : decode cX6_partsOfCurve 8 = .ok (.istore_n 3, 1) := by decide +kernel
theorem dX6_partsOfCurve_9 : decode cX6_partsOfCurve 9 = .ok (.aload_n 0, 1) := by decide +kernel
theorem dX6_partsOfCurve_10 : decode cX6_partsOfCurve 10 = .ok (.getfield 19, 3) := by decide +kernel
theorem dX6_partsOfCurve_13 : decode cX6_partsOfCurve 13 = .ok (.ifCond .eq 5, 3) := by decide +kernel
theorem dX6_partsOfCurve_16 : decode cX6_partsOfCurve 16 = .ok (.iconst 0, 1) := by decide +kernel
theorem dX6_partsOfCurve_17 : decode cX6_partsOfCurve 17 = .ok (.ireturn, 1) := by decide +kernel
theorem dX6_partsOfCurve_18 : decode cX6_partsOfCurve 18 = .ok (.iload_n 3, 1) := by decide +kernel
theorem dX6_partsOfCurve_19 : decode cX6_partsOfCurve 19 = .ok (.aload_n 0, 1) := by decide +kernel
theorem dX6_partsOfCurve_20 : decode cX6_partsOfCurve 20 = .ok (.aload_n 0, 1) := by decide +kernel
theorem dX6_partsOfCurve_21 : decode cX6_partsOfCurve 21 = .ok (.getfield 29, 3) := by decide +kernel
theorem dX6_partsOfCurve_24 : decode cX6_partsOfCurve 24 = .ok (.iconst 1, 1) := by decide +kernel
theorem dX6_partsOfCurve_25 : decode cX6_partsOfCurve 25 = .ok (.iconst 1, 1) := by decide +kernel
theorem dX6_partsOfCurve_26 : decode cX6_partsOfCurve 26 = .ok (.iload_n 2, 1) := by decide +kernel
theorem dX6_partsOfCurve_27 : decode cX6_partsOfCurve 27 = .ok (.invokevirtual 32, 3) := by decide +kernel
theorem dX6_partsOfCurve_30 : decode cX6_partsOfCurve 30 = .ok (.iadd, 1) := by decide +kernel
theorem dX6_partsOfCurve_31 : decode cX6_partsOfCurve 31 = .ok (.ireturn, 1) := by decide +kernel
theorem dX6_parts_0 : decode cX6_parts 0 = .ok (.aload_n 0, 1) := by decide +kernel
theorem dX6_parts_1 : decode cX6_parts 1 = .ok (.getfield 26, 3) := by decide +kernel
theorem dX6_parts_4 : decode cX6_parts 4 = .ok (.aload_n 0, 1) := by decide +kernel
theorem dX6_parts_5 : decode cX6_parts 5 = .ok (.getfield 23, 3) := by decide +kernel
theorem dX6_parts_8 : decode cX6_parts 8 = .ok (.isub, 1) := by decide +kernel
theorem dX6_parts_9 : decode cX6_parts 9 = .ok (.istore_n 2, 1) := by decide +kernel
theorem dX6_parts_10 : decode cX6_parts 10 = .ok (.iload_n 2, 1) := by decide +kernel
theorem dX6_parts_11 : decode cX6_parts 11 = .ok (.ifCond .ne 10, 3) := by decide +kernel
theorem dX6_parts_14 : decode cX6_parts 14 = .ok (.aload_n 0, 1) := by decide +kernel
theorem dX6_parts_15 : decode cX6_parts 15 = .ok (.iconst 1, 1) := by decide +kernel
theorem dX6_parts_16 : decode cX6_parts 16 = .ok (.putfield 19, 3) := by decide +kernel
theorem dX6_parts_19 : decode cX6_parts 19 = .ok (.iconst 0, 1) := by decide +kernel
theorem dX6_parts_20 : decode cX6_parts 20 = .ok (.ireturn, 1) := by decide +kernel
theorem dX6_parts_21 : decode cX6_parts 21 = .ok (.iload_n 1, 1) := by decide +kernel
theorem dX6_parts_22 : decode cX6_parts 22 = .ok (.iload_n 2, 1) := by decide +kernel
theorem dX6_parts_23 : decode cX6_parts 23 = .ok (.idiv, 1) := by decide +kernel
theorem dX6_parts_24 : decode cX6_parts 24 = .ok (.ireturn, 1) := by decide +kernel
theorem dX6_begin_0 : decode cX6_begin 0 = .ok (.aload_n 0, 1) := by decide +kernel
theorem dX6_begin_1 : decode cX6_begin 1 = .ok (.getfield 15, 3) := by decide +kernel
theorem dX6_begin_4 : decode cX6_begin 4 = .ok (.bipush 30, 2) := by decide +kernel
theorem dX6_begin_6 : decode cX6_begin 6 = .ok (.if_icmp .ge 23, 3) := by decide +kernel
theorem dX6_begin_9 : decode cX6_begin 9 = .ok (.aload_n 0, 1) := by decide +kernel
theorem dX6_begin_10 : decode cX6_begin 10 = .ok (.getfield 9, 3) := by decide +kernel
theorem dX6_begin_13 : decode cX6_begin 13 = .ok (.aload_n 0, 1) := by decide +kernel
theorem dX6_begin_14 : decode cX6_begin 14 = .ok (.getfield 15, 3) := by decide +kernel
theorem dX6_begin_17 : decode cX6_begin 17 = .ok (.iload_n 1, 1) := by decide +kernel
theorem dX6_begin_18 : decode cX6_begin 18 = .ok (.iastore, 1) := by decide +kernel
theorem dX6_begin_19 : decode cX6_begin 19 = .ok (.aload_n 0, 1) := by decide +kernel
theorem dX6_begin_20 : decode cX6_begin 20 = .ok (.dup, 1) := by decide +kernel
theorem dX6_begin_21 : decode cX6_begin 21 = .ok (.getfield 15, 3) := by decide +kernel
theorem dX6_begin_24 : decode cX6_begin 24 = .ok (.iconst 1, 1) := by decide +kernel
theorem dX6_begin_25 : decode cX6_begin 25 = .ok (.iadd, 1) := by decide +kernel
theorem dX6_begin_26 : decode cX6_begin 26 = .ok (.putfield 15, 3) := by decide +kernel
theorem dX6_begin_29 : decode cX6_begin 29 = .ok (.return_, 1) := by decide +kernel
theorem dX6_bodyOf_0 : decode cX6_bodyOf 0 = .ok (.iload_n 0, 1) := by decide +kernel
theorem dX6_bodyOf_1 : decode cX6_bodyOf 1 = .ok (.istore_n 2, 1) := by decide +kernel
theorem dX6_bodyOf_2 : decode cX6_bodyOf 2 = .ok (.iconst 0, 1) := by decide +kernel
theorem dX6_bodyOf_3 : decode cX6_bodyOf 3 = .ok (.istore_n 3, 1) := by decide +kernel
theorem dX6_bodyOf_4 : decode cX6_bodyOf 4 = .ok (.iload_n 3, 1) := by decide +kernel
theorem dX6_bodyOf_5 : decode cX6_bodyOf 5 = .ok (.bipush 7, 2) := by decide +kernel
theorem dX6_bodyOf_7 : decode cX6_bodyOf 7 = .ok (.if_icmp .ge 44, 3) := by decide +kernel
theorem dX6_bodyOf_10 : decode cX6_bodyOf 10 = .ok (.iload_n 2, 1) := by decide +kernel
theorem dX6_bodyOf_11 : decode cX6_bodyOf 11 = .ok (.ifCond .lt 40, 3) := by decide +kernel
theorem dX6_bodyOf_14 : decode cX6_bodyOf 14 = .ok (.iload_n 2, 1) := by decide +kernel
theorem dX6_bodyOf_15 : decode cX6_bodyOf 15 = .ok (.bipush 7, 2) := by decide +kernel
theorem dX6_bodyOf_17 : decode cX6_bodyOf 17 = .ok (.if_icmp .ge 34, 3) := by decide +kernel
theorem dX6_bodyOf_20 : decode cX6_bodyOf 20 = .ok (.getstatic 51, 3) := by decide +kernel
theorem dX6_bodyOf_23 : decode cX6_bodyOf 23 = .ok (.iload_n 2, 1) := by decide +kernel
theorem dX6_bodyOf_24 : decode cX6_bodyOf 24 = .ok (.iconst 4, 1) := by decide +kernel
theorem dX6_bodyOf_25 : decode cX6_bodyOf 25 = .ok (.imul, 1) := by decide +kernel
theorem dX6_bodyOf_26 : decode cX6_bodyOf 26 = .ok (.iload_n 1, 1) := by decide +kernel
theorem dX6_bodyOf_27 : decode cX6_bodyOf 27 = .ok (.iadd, 1) := by decide +kernel
theorem dX6_bodyOf_28 : decode cX6_bodyOf 28 = .ok (.iaload, 1) := by decide +kernel
theorem dX6_bodyOf_29 : decode cX6_bodyOf 29 = .ok (.istore 4, 2) := by decide +kernel
theorem dX6_bodyOf_31 : decode cX6_bodyOf 31 = .ok (.iload 4, 2) := by decide +kernel
theorem dX6_bodyOf_33 : decode cX6_bodyOf 33 = .ok (.ifCond .eq 6, 3) := by decide +kernel
theorem dX6_bodyOf_36 : decode cX6_bodyOf 36 = .ok (.iload 4, 2) := by decide +kernel
theorem dX6_bodyOf_38 : decode cX6_bodyOf 38 = .ok (.ireturn, 1) := by decide +kernel
theorem dX6_bodyOf_39 : decode cX6_bodyOf 39 = .ok (.getstatic 54, 3) := by decide +kernel
theorem dX6_bodyOf_42 : decode cX6_bodyOf 42 = .ok (.iload_n 2, 1) := by decide +kernel
theorem dX6_bodyOf_43 : decode cX6_bodyOf 43 = .ok (.iaload, 1) := by decide +kernel
theorem dX6_bodyOf_44 : decode cX6_bodyOf 44 = .ok (.istore_n 2, 1) := by decide +kernel
theorem dX6_bodyOf_45 : decode cX6_bodyOf 45 = .ok (.iinc 3 1, 3) := by decide +kernel
theorem dX6_bodyOf_48 : decode cX6_bodyOf 48 = .ok (.goto (-44), 3) := by decide +kernel
theorem dX6_bodyOf_51 : decode cX6_bodyOf 51 = .ok (.iconst 0, 1) := by decide +kernel
theorem dX6_bodyOf_52 : decode cX6_bodyOf 52 = .ok (.ireturn, 1) := by decide +kernel
theorem dJ6_bitCount_0f7a4_0 : decode cJ6_bitCount_0f7a4 0 = .ok (.iload_n 0, 1) := by decide +kernel
theorem dJ6_bitCount_0f7a4_1 : decode cJ6_bitCount_0f7a4 1 = .ok (.iload_n 0, 1) := by decide +kernel
theorem dJ6_bitCount_0f7a4_2 : decode cJ6_bitCount_0f7a4 2 = .ok (.iconst 1, 1) := by decide +kernel
theorem dJ6_bitCount_0f7a4_3 : decode cJ6_bitCount_0f7a4 3 = .ok (.iushr, 1) := by decide +kernel
theorem dJ6_bitCount_0f7a4_4 : decode cJ6_bitCount_0f7a4 4 = .ok (.ldc_w 265, 3) := by decide +kernel
theorem dJ6_bitCount_0f7a4_7 : decode cJ6_bitCount_0f7a4 7 = .ok (.iand, 1) := by decide +kernel
theorem dJ6_bitCount_0f7a4_8 : decode cJ6_bitCount_0f7a4 8 = .ok (.isub, 1) := by decide +kernel
theorem dJ6_bitCount_0f7a4_9 : decode cJ6_bitCount_0f7a4 9 = .ok (.istore_n 0, 1) := by decide +kernel
theorem dJ6_bitCount_0f7a4_10 : decode cJ6_bitCount_0f7a4 10 = .ok (.iload_n 0, 1) := by decide +kernel
theorem dJ6_bitCount_0f7a4_11 : decode cJ6_bitCount_0f7a4 11 = .ok (.ldc_w 266, 3) := by decide +kernel
theorem dJ6_bitCount_0f7a4_14 : decode cJ6_bitCount_0f7a4 14 = .ok (.iand, 1) := by decide +kernel
theorem dJ6_bitCount_0f7a4_15 : decode cJ6_bitCount_0f7a4 15 = .ok (.iload_n 0, 1) := by decide +kernel
theorem dJ6_bitCount_0f7a4_16 : decode cJ6_bitCount_0f7a4 16 = .ok (.iconst 2, 1) := by decide +kernel
theorem dJ6_bitCount_0f7a4_17 : decode cJ6_bitCount_0f7a4 17 = .ok (.iushr, 1) := by decide +kernel
theorem dJ6_bitCount_0f7a4_18 : decode cJ6_bitCount_0f7a4 18 = .ok (.ldc_w 266, 3) := by decide +kernel
theorem dJ6_bitCount_0f7a4_21 : decode cJ6_bitCount_0f7a4 21 = .ok (.iand, 1) := by decide +kernel
theorem dJ6_bitCount_0f7a4_22 : decode cJ6_bitCount_0f7a4 22 = .ok (.iadd, 1) := by decide +kernel
theorem dJ6_bitCount_0f7a4_23 : decode cJ6_bitCount_0f7a4 23 = .ok (.istore_n 0, 1) := by decide +kernel
theorem dJ6_bitCount_0f7a4_24 : decode cJ6_bitCount_0f7a4 24 = .ok (.iload_n 0, 1) := by decide +kernel
theorem dJ6_bitCount_0f7a4_25 : decode cJ6_bitCount_0f7a4 25 = .ok (.iload_n 0, 1) := by decide +kernel
theorem dJ6_bitCount_0f7a4_26 : decode cJ6_bitCount_0f7a4 26 = .ok (.iconst 4, 1) := by decide +kernel
theorem dJ6_bitCount_0f7a4_27 : decode cJ6_bitCount_0f7a4 27 = .ok (.iushr, 1) := by decide +kernel
theorem dJ6_bitCount_0f7a4_28 : decode cJ6_bitCount_0f7a4 28 = .ok (.iadd, 1) := by decide +kernel
theorem dJ6_bitCount_0f7a4_29 : decode cJ6_bitCount_0f7a4 29 = .ok (.ldc_w 267, 3) := by decide +kernel
theorem dJ6_bitCount_0f7a4_32 : decode cJ6_bitCount_0f7a4 32 = .ok (.iand, 1) := by decide +kernel
theorem dJ6_bitCount_0f7a4_33 : decode cJ6_bitCount_0f7a4 33 = .ok (.istore_n 0, 1) := by decide +kernel
theorem dJ6_bitCount_0f7a4_34 : decode cJ6_bitCount_0f7a4 34 = .ok (.iload_n 0, 1) := by decide +kernel
theorem dJ6_bitCount_0f7a4_35 : decode cJ6_bitCount_0f7a4 35 = .ok (.iload_n 0, 1) := by decide +kernel
theorem dJ6_bitCount_0f7a4_36 : decode cJ6_bitCount_0f7a4 36 = .ok (.bipush 8, 2) := by decide +kernel
theorem dJ6_bitCount_0f7a4_38 : decode cJ6_bitCount_0f7a4 38 = .ok (.iushr, 1) := by decide +kernel
theorem dJ6_bitCount_0f7a4_39 : decode cJ6_bitCount_0f7a4 39 = .ok (.iadd, 1) := by decide +kernel
theorem dJ6_bitCount_0f7a4_40 : decode cJ6_bitCount_0f7a4 40 = .ok (.istore_n 0, 1) := by decide +kernel
theorem dJ6_bitCount_0f7a4_41 : decode cJ6_bitCount_0f7a4 41 = .ok (.iload_n 0, 1) := by decide +kernel
theorem dJ6_bitCount_0f7a4_42 : decode cJ6_bitCount_0f7a4 42 = .ok (.iload_n 0, 1) := by decide +kernel
theorem dJ6_bitCount_0f7a4_43 : decode cJ6_bitCount_0f7a4 43 = .ok (.bipush 16, 2) := by decide +kernel
theorem dJ6_bitCount_0f7a4_45 : decode cJ6_bitCount_0f7a4 45 = .ok (.iushr, 1) := by decide +kernel
theorem dJ6_bitCount_0f7a4_46 : decode cJ6_bitCount_0f7a4 46 = .ok (.iadd, 1) := by decide +kernel
theorem dJ6_bitCount_0f7a4_47 : decode cJ6_bitCount_0f7a4 47 = .ok (.istore_n 0, 1) := by decide +kernel
theorem dJ6_bitCount_0f7a4_48 : decode cJ6_bitCount_0f7a4 48 = .ok (.iload_n 0, 1) := by decide +kernel
theorem dJ6_bitCount_0f7a4_49 : decode cJ6_bitCount_0f7a4 49 = .ok (.bipush 63, 2) := by decide +kernel
theorem dJ6_bitCount_0f7a4_51 : decode cJ6_bitCount_0f7a4 51 = .ok (.iand, 1) := by decide +kernel
theorem dJ6_bitCount_0f7a4_52 : decode cJ6_bitCount_0f7a4 52 = .ok (.ireturn, 1) := by decide +kernel
end
section
/-! decode rows, as printed -/
theorem dX7_init_0 : decode cX7_init 0 = .ok (.aload_n 0, 1) := by decide +kernel
theorem dX7_init_1 : decode cX7_init 1 = .ok (.invokespecial 1, 3) := by decide +kernel
theorem dX7_init_4 : decode cX7_init 4 = .ok (.aload_n 0, 1) := by decide +kernel
theorem dX7_init_5 : decode cX7_init 5 = .ok (.new 7, 3) := by decide +kernel
theorem dX7_init_8 : decode cX7_init 8 = .ok (.dup, 1) := by decide +kernel
theorem dX7_init_9 : decode cX7_init 9 = .ok (.invokespecial 9, 3) := by decide +kernel
theorem dX7_init_12 : decode cX7_init 12 = .ok (.putfield 10, 3) := by decide +kernel
theorem dX7_init_15 : decode cX7_init 15 = .ok (.aload_n 0, 1) := by decide +kernel
theorem dX7_init_16 : decode cX7_init 16 = .ok (.new 7, 3) := by decide +kernel
theorem dX7_init_19 : decode cX7_init 19 = .ok (.dup, 1) := by decide +kernel
theorem dX7_init_20 : decode cX7_init 20 = .ok (.invokespecial 9, 3) := by decide +kernel
theorem dX7_init_23 : decode cX7_init 23 = .ok (.putfield 16, 3) := by decide +kernel
theorem dX7_init_26 : decode cX7_init 26 = .ok (.aload_n 0, 1) := by decide +kernel
theorem dX7_init_27 : decode cX7_init 27 = .ok (.new 19, 3) := by decide +kernel
theorem dX7_init_30 : decode cX7_init 30 = .ok (.dup, 1) := by decide +kernel
theorem dX7_init_31 : decode cX7_init 31 = .ok (.invokespecial 21, 3) := by decide +kernel
theorem dX7_init_34 : decode cX7_init 34 = .ok (.putfield 22, 3) := by decide +kernel
theorem dX7_init_37 : decode cX7_init 37 = .ok (.aload_n 0, 1) := by decide +kernel
theorem dX7_init_38 : decode cX7_init 38 = .ok (.new 26, 3) := by decide +kernel
theorem dX7_init_41 : decode cX7_init 41 = .ok (.dup, 1) := by decide +kernel
theorem dX7_init_42 : decode cX7_init 42 = .ok (.invokespecial 28, 3) := by decide +kernel
theorem dX7_init_45 : decode cX7_init 45 = .ok (.putfield 29, 3) := by decide +kernel
theorem dX7_init_48 : decode cX7_init 48 = .ok (.aload_n 0, 1) := by decide +kernel
theorem dX7_init_49 : decode cX7_init 49 = .ok (.new 33, 3) := by decide +kernel
theorem dX7_init_52 : decode cX7_init 52 = .ok (.dup, 1) := by decide +kernel
theorem dX7_init_53 : decode cX7_init 53 = .ok (.invokespecial 35, 3) := by decide +kernel
theorem dX7_init_56 : decode cX7_init 56 = .ok (.putfield 36, 3) := by decide +kernel
theorem dX7_init_59 : decode cX7_init 59 = .ok (.aload_n 0, 1) := by decide +kernel
theorem dX7_init_60 : decode cX7_init 60 = .ok (.bipush 7, 2) := by decide +kernel
theorem dX7_init_62 : decode cX7_init 62 = .ok (.newarray .int, 2) := by decide +kernel
theorem dX7_init_64 : decode cX7_init 64 = .ok (.putfield 40, 3) := by decide +kernel
theorem dX7_init_67 : decode cX7_init 67 = .ok (.aload_n 0, 1) := by decide +kernel
theorem dX7_init_68 : decode cX7_init 68 = .ok (.iconst 0, 1) := by decide +kernel
theorem dX7_init_69 : decode cX7_init 69 = .ok (.putfield 44, 3) := by decide +kernel
theorem dX7_init_72 : decode cX7_init 72 = .ok (.return_, 1) := by decide +kernel
theorem dX7_pitch_0 : decode cX7_pitch 0 = .ok (.iload_n 1, 1) := by decide +kernel
theorem dX7_pitch_1 : decode cX7_pitch 1 = .ok (.invokestatic 48, 3) := by decide +kernel
theorem dX7_pitch_4 : decode cX7_pitch 4 = .ok (.ifCond .eq 10, 3) := by decide +kernel
theorem dX7_pitch_7 : decode cX7_pitch 7 = .ok (.iload_n 2, 1) := by decide +kernel
theorem dX7_pitch_8 : decode cX7_pitch 8 = .ok (.invokestatic 52, 3) := by decide +kernel
theorem dX7_pitch_11 : decode cX7_pitch 11 = .ok (.ifCond .ne 9, 3) := by decide +kernel
theorem dX7_pitch_14 : decode cX7_pitch 14 = .ok (.aload_n 0, 1) := by decide +kernel
theorem dX7_pitch_15 : decode cX7_pitch 15 = .ok (.iconst 1, 1) := by decide +kernel
theorem dX7_pitch_16 : decode cX7_pitch 16 = .ok (.invokevirtual 55, 3) := by decide +kernel
theorem dX7_pitch_19 : decode cX7_pitch 19 = .ok (.ireturn, 1) := by decide +kernel
theorem dX7_pitch_20 : decode cX7_pitch 20 = .ok (.aload_n 0, 1) := by decide +kernel
theorem dX7_pitch_21 : decode cX7_pitch 21 = .ok (.getfield 10, 3) := by decide +kernel
theorem dX7_pitch_24 : decode cX7_pitch 24 = .ok (.getfield 59, 3) := by decide +kernel
theorem dX7_pitch_27 : decode cX7_pitch 27 = .ok (.getfield 63, 3) := by decide +kernel
theorem dX7_pitch_30 : decode cX7_pitch 30 = .ok (.bipush 6, 2) := by decide +kernel
theorem dX7_pitch_32 : decode cX7_pitch 32 = .ok (.if_icmp .lt 9, 3) := by decide +kernel
theorem dX7_pitch_35 : decode cX7_pitch 35 = .ok (.aload_n 0, 1) := by decide +kernel
theorem dX7_pitch_36 : decode cX7_pitch 36 = .ok (.iconst 4, 1) := by decide +kernel
theorem dX7_pitch_37 : decode cX7_pitch 37 = .ok (.invokevirtual 55, 3) := by decide +kernel
theorem dX7_pitch_40 : decode cX7_pitch 40 = .ok (.ireturn, 1) := by decide +kernel
theorem dX7_pitch_41 : decode cX7_pitch 41 = .ok (.aload_n 0, 1) := by decide +kernel
theorem dX7_pitch_42 : decode cX7_pitch 42 = .ok (.getfield 10, 3) := by decide +kernel
theorem dX7_pitch_45 : decode cX7_pitch 45 = .ok (.getfield 59, 3) := by decide +kernel
theorem dX7_pitch_48 : decode cX7_pitch 48 = .ok (.iload_n 1, 1) := by decide +kernel
theorem dX7_pitch_49 : decode cX7_pitch 49 = .ok (.iload_n 2, 1) := by decide +kernel
theorem dX7_pitch_50 : decode cX7_pitch 50 = .ok (.invokevirtual 68, 3) := by decide +kernel
theorem dX7_pitch_53 : decode cX7_pitch 53 = .ok (.ireturn, 1) := by decide +kernel
theorem dX7_pitchIs_0 : decode cX7_pitchIs 0 = .ok (.aload_n 0, 1) := by decide +kernel
theorem dX7_pitchIs_1 : decode cX7_pitchIs 1 = .ok (.iload_n 1, 1) := by decide +kernel
theorem dX7_pitchIs_2 : decode cX7_pitchIs 2 = .ok (.invokevirtual 72, 3) := by decide +kernel
theorem dX7_pitchIs_5 : decode cX7_pitchIs 5 = .ok (.ifCond .ne 9, 3) := by decide +kernel
theorem dX7_pitchIs_8 : decode cX7_pitchIs 8 = .ok (.aload_n 0, 1) := by decide +kernel
theorem dX7_pitchIs_9 : decode cX7_pitchIs 9 = .ok (.iconst 1, 1) := by decide +kernel
theorem dX7_pitchIs_10 : decode cX7_pitchIs 10 = .ok (.invokevirtual 55, 3) := by decide +kernel
theorem dX7_pitchIs_13 : decode cX7_pitchIs 13 = .ok (.ireturn, 1) := by decide +kernel
theorem dX7_pitchIs_14 : decode cX7_pitchIs 14 = .ok (.iload_n 2, 1) := by decide +kernel
theorem dX7_pitchIs_15 : decode cX7_pitchIs 15 = .ok (.tableswitch 107 0 5 #[37, 50, 63, 76, 89, 98], 37) := by decide +kernel
theorem dX7_pitchIs_52 : decode cX7_pitchIs 52 = .ok (.aload_n 0, 1) := by decide +kernel
theorem dX7_pitchIs_53 : decode cX7_pitchIs 53 = .ok (.getfield 10, 3) := by decide +kernel
theorem dX7_pitchIs_56 : decode cX7_pitchIs 56 = .ok (.getfield 59, 3) := by decide +kernel
theorem dX7_pitchIs_59 : decode cX7_pitchIs 59 = .ok (.getfield 75, 3) := by decide +kernel
theorem dX7_pitchIs_62 : decode cX7_pitchIs 62 = .ok (.iload_n 1, 1) := by decide +kernel
theorem dX7_pitchIs_63 : decode cX7_pitchIs 63 = .ok (.iaload, 1) := by decide +kernel
theorem dX7_pitchIs_64 : decode cX7_pitchIs 64 = .ok (.ireturn, 1) := by decide +kernel
theorem dX7_pitchIs_65 : decode cX7_pitchIs 65 = .ok (.aload_n 0, 1) := by decide +kernel
theorem dX7_pitchIs_66 : decode cX7_pitchIs 66 = .ok (.getfield 10, 3) := by decide +kernel
theorem dX7_pitchIs_69 : decode cX7_pitchIs 69 = .ok (.getfield 59, 3) := by decide +kernel
theorem dX7_pitchIs_72 : decode cX7_pitchIs 72 = .ok (.getfield 78, 3) := by decide +kernel
theorem dX7_pitchIs_75 : decode cX7_pitchIs 75 = .ok (.iload_n 1, 1) := by decide +kernel
theorem dX7_pitchIs_76 : decode cX7_pitchIs 76 = .ok (.iaload, 1) := by decide +kernel
theorem dX7_pitchIs_77 : decode cX7_pitchIs 77 = .ok (.ireturn, 1) := by decide +kernel
theorem dX7_pitchIs_78 : decode cX7_pitchIs 78 = .ok (.aload_n 0, 1) := by decide +kernel
theorem dX7_pitchIs_79 : decode cX7_pitchIs 79 = .ok (.getfield 10, 3) := by decide +kernel
theorem dX7_pitchIs_82 : decode cX7_pitchIs 82 = .ok (.getfield 59, 3) := by decide +kernel
theorem dX7_pitchIs_85 : decode cX7_pitchIs 85 = .ok (.getfield 81, 3) := by decide +kernel
theorem dX7_pitchIs_88 : decode cX7_pitchIs 88 = .ok (.iload_n 1, 1) := by decide +kernel
theorem dX7_pitchIs_89 : decode cX7_pitchIs 89 = .ok (.iaload, 1) := by decide +kernel
theorem dX7_pitchIs_90 : decode cX7_pitchIs 90 = .ok (.ireturn, 1) := by decide +kernel
theorem dX7_pitchIs_91 : decode cX7_pitchIs 91 = .ok (.aload_n 0, 1) := by decide +kernel
theorem dX7_pitchIs_92 : decode cX7_pitchIs 92 = .ok (.getfield 10, 3) := by decide +kernel
theorem dX7_pitchIs_95 : decode cX7_pitchIs 95 = .ok (.getfield 59, 3) := by decide +kernel
theorem dX7_pitchIs_98 : decode cX7_pitchIs 98 = .ok (.getfield 84, 3) := by decide +kernel
theorem dX7_pitchIs_101 : decode cX7_pitchIs 101 = .ok (.iload_n 1, 1) := by decide +kernel
theorem dX7_pitchIs_102 : decode cX7_pitchIs 102 = .ok (.iaload, 1) := by decide +kernel
theorem dX7_pitchIs_103 : decode cX7_pitchIs 103 = .ok (.ireturn, 1) := by decide +kernel
theorem dX7_pitchIs_104 : decode cX7_pitchIs 104 = .ok (.aload_n 0, 1) := by decide +kernel
theorem dX7_pitchIs_105 : decode cX7_pitchIs 105 = .ok (.getfield 10, 3) := by decide +kernel
theorem dX7_pitchIs_108 : decode cX7_pitchIs 108 = .ok (.iload_n 1, 1) := by decide +kernel
theorem dX7_pitchIs_109 : decode cX7_pitchIs 109 = .ok (.invokevirtual 87, 3) := by decide +kernel
theorem dX7_pitchIs_112 : decode cX7_pitchIs 112 = .ok (.ireturn, 1) := by decide +kernel
theorem dX7_pitchIs_113 : decode cX7_pitchIs 113 = .ok (.aload_n 0, 1) := by decide +kernel
theorem dX7_pitchIs_114 : decode cX7_pitchIs 114 = .ok (.getfield 10, 3) := by decide +kernel
theorem dX7_pitchIs_117 : decode cX7_pitchIs 117 = .ok (.iload_n 1, 1) := by decide +kernel
theorem dX7_pitchIs_118 : decode cX7_pitchIs 118 = .ok (.invokevirtual 90, 3) := by decide +kernel
theorem dX7_pitchIs_121 : decode cX7_pitchIs 121 = .ok (.ireturn, 1) := by decide +kernel
theorem dX7_pitchIs_122 : decode cX7_pitchIs 122 = .ok (.aload_n 0, 1) := by decide +kernel
theorem dX7_pitchIs_123 : decode cX7_pitchIs 123 = .ok (.iconst 1, 1) := by decide +kernel
theorem dX7_pitchIs_124 : decode cX7_pitchIs 124 = .ok (.invokevirtual 55, 3) := by decide +kernel
theorem dX7_pitchIs_127 : decode cX7_pitchIs 127 = .ok (.ireturn, 1) := by decide +kernel
theorem dX7_become_0 : decode cX7_become 0 = .ok (.aload_n 0, 1) := by decide +kernel
theorem dX7_become_1 : decode cX7_become 1 = .ok (.iload_n 1, 1) := by decide +kernel
theorem dX7_become_2 : decode cX7_become 2 = .ok (.invokevirtual 72, 3) := by decide +kernel
theorem dX7_become_5 : decode cX7_become 5 = .ok (.ifCond .eq 10, 3) := by decide +kernel
theorem dX7_become_8 : decode cX7_become 8 = .ok (.iload_n 2, 1) := by decide +kernel
theorem dX7_become_9 : decode cX7_become 9 = .ok (.invokestatic 48, 3) := by decide +kernel
theorem dX7_become_12 : decode cX7_become 12 = .ok (.ifCond .ne 9, 3) := by decide +kernel
theorem dX7_become_15 : decode cX7_become 15 = .ok (.aload_n 0, 1) := by decide +kernel
theorem dX7_become_16 : decode cX7_become 16 = .ok (.iconst 1, 1) := by decide +kernel
theorem dX7_become_17 : decode cX7_become 17 = .ok (.invokevirtual 55, 3) := by decide +kernel
theorem dX7_become_20 : decode cX7_become 20 = .ok (.ireturn, 1) := by decide +kernel
theorem dX7_become_21 : decode cX7_become 21 = .ok (.aload_n 0, 1) := by decide +kernel
theorem dX7_become_22 : decode cX7_become 22 = .ok (.getfield 10, 3) := by decide +kernel
theorem dX7_become_25 : decode cX7_become 25 = .ok (.getfield 59, 3) := by decide +kernel
theorem dX7_become_28 : decode cX7_become 28 = .ok (.getfield 75, 3) := by decide +kernel
theorem dX7_become_31 : decode cX7_become 31 = .ok (.iload_n 1, 1) := by decide +kernel
theorem dX7_become_32 : decode cX7_become 32 = .ok (.iaload, 1) := by decide +kernel
theorem dX7_become_33 : decode cX7_become 33 = .ok (.istore_n 3, 1) := by decide +kernel
theorem dX7_become_34 : decode cX7_become 34 = .ok (.aload_n 0, 1) := by decide +kernel
theorem dX7_become_35 : decode cX7_become 35 = .ok (.getfield 10, 3) := by decide +kernel
theorem dX7_become_38 : decode cX7_become 38 = .ok (.getfield 59, 3) := by decide +kernel
theorem dX7_become_41 : decode cX7_become 41 = .ok (.getfield 75, 3) := by decide +kernel
theorem dX7_become_44 : decode cX7_become 44 = .ok (.iload_n 1, 1) := by decide +kernel
theorem dX7_become_45 : decode cX7_become 45 = .ok (.iload_n 2, 1) := by decide +kernel
theorem dX7_become_46 : decode cX7_become 46 = .ok (.bipush 10, 2) := by decide +kernel
theorem dX7_become_48 : decode cX7_become 48 = .ok (.idiv, 1) := by decide +kernel
theorem dX7_become_49 : decode cX7_become 49 = .ok (.iastore, 1) := by decide +kernel
theorem dX7_become_50 : decode cX7_become 50 = .ok (.aload_n 0, 1) := by decide +kernel
theorem dX7_become_51 : decode cX7_become 51 = .ok (.getfield 10, 3) := by decide +kernel
theorem dX7_become_54 : decode cX7_become 54 = .ok (.getfield 59, 3) := by decide +kernel
theorem dX7_become_57 : decode cX7_become 57 = .ok (.getfield 78, 3) := by decide +kernel
theorem dX7_become_60 : decode cX7_become 60 = .ok (.iload_n 1, 1) := by decide +kernel
theorem dX7_become_61 : decode cX7_become 61 = .ok (.iload_n 2, 1) := by decide +kernel
theorem dX7_become_62 : decode cX7_become 62 = .ok (.bipush 10, 2) := by decide +kernel
theorem dX7_become_64 : decode cX7_become 64 = .ok (.irem, 1) := by decide +kernel
theorem dX7_become_65 : decode cX7_become 65 = .ok (.iastore, 1) := by decide +kernel
theorem dX7_become_66 : decode cX7_become 66 = .ok (.iload_n 3, 1) := by decide +kernel
theorem dX7_become_67 : decode cX7_become 67 = .ok (.ireturn, 1) := by decide +kernel
theorem dX7_as_0 : decode cX7_as 0 = .ok (.aload_n 0, 1) := by decide +kernel
theorem dX7_as_1 : decode cX7_as 1 = .ok (.iload_n 1, 1) := by decide +kernel
theorem dX7_as_2 : decode cX7_as 2 = .ok (.invokevirtual 72, 3) := by decide +kernel
theorem dX7_as_5 : decode cX7_as 5 = .ok (.ifCond .eq 13, 3) := by decide +kernel
theorem dX7_as_8 : decode cX7_as 8 = .ok (.iload_n 2, 1) := by decide +kernel
theorem dX7_as_9 : decode cX7_as 9 = .ok (.iconst 0, 1) := by decide +kernel
theorem dX7_as_10 : decode cX7_as 10 = .ok (.bipush 6, 2) := by decide +kernel
theorem dX7_as_12 : decode cX7_as 12 = .ok (.invokestatic 93, 3) := by decide +kernel
theorem dX7_as_15 : decode cX7_as 15 = .ok (.ifCond .ne 9, 3) := by decide +kernel
theorem dX7_as_18 : decode cX7_as 18 = .ok (.aload_n 0, 1) := by decide +kernel
theorem dX7_as_19 : decode cX7_as 19 = .ok (.iconst 1, 1) := by decide +kernel
theorem dX7_as_20 : decode cX7_as 20 = .ok (.invokevirtual 55, 3) := by decide +kernel
theorem dX7_as_23 : decode cX7_as 23 = .ok (.ireturn, 1) := by decide +kernel
theorem dX7_as_24 : decode cX7_as 24 = .ok (.aload_n 0, 1) := by decide +kernel
theorem dX7_as_25 : decode cX7_as 25 = .ok (.getfield 10, 3) := by decide +kernel
theorem dX7_as_28 : decode cX7_as 28 = .ok (.getfield 59, 3) := by decide +kernel
theorem dX7_as_31 : decode cX7_as 31 = .ok (.getfield 75, 3) := by decide +kernel
theorem dX7_as_34 : decode cX7_as 34 = .ok (.iload_n 1, 1) := by decide +kernel
theorem dX7_as_35 : decode cX7_as 35 = .ok (.iaload, 1) := by decide +kernel
theorem dX7_as_36 : decode cX7_as 36 = .ok (.iload_n 2, 1) := by decide +kernel
theorem dX7_as_37 : decode cX7_as 37 = .ok (.invokestatic 97, 3) := by decide +kernel
theorem dX7_as_40 : decode cX7_as 40 = .ok (.ifCond .ne 9, 3) := by decide +kernel
theorem dX7_as_43 : decode cX7_as 43 = .ok (.aload_n 0, 1) := by decide +kernel
theorem dX7_as_44 : decode cX7_as 44 = .ok (.iconst 5, 1) := by decide +kernel
theorem dX7_as_45 : decode cX7_as 45 = .ok (.invokevirtual 55, 3) := by decide +kernel
theorem dX7_as_48 : decode cX7_as 48 = .ok (.ireturn, 1) := by decide +kernel
theorem dX7_as_49 : decode cX7_as 49 = .ok (.aload_n 0, 1) := by decide +kernel
theorem dX7_as_50 : decode cX7_as 50 = .ok (.getfield 10, 3) := by decide +kernel
theorem dX7_as_53 : decode cX7_as 53 = .ok (.getfield 59, 3) := by decide +kernel
theorem dX7_as_56 : decode cX7_as 56 = .ok (.getfield 78, 3) := by decide +kernel
theorem dX7_as_59 : decode cX7_as 59 = .ok (.iload_n 1, 1) := by decide +kernel
theorem dX7_as_60 : decode cX7_as 60 = .ok (.iaload, 1) := by decide +kernel
theorem dX7_as_61 : decode cX7_as 61 = .ok (.ireturn, 1) := by decide +kernel
theorem dX7_weighs_0 : decode cX7_weighs 0 = .ok (.aload_n 0, 1) := by decide +kernel
theorem dX7_weighs_1 : decode cX7_weighs 1 = .ok (.iload_n 1, 1) := by decide +kernel
theorem dX7_weighs_2 : decode cX7_weighs 2 = .ok (.invokevirtual 72, 3) := by decide +kernel
theorem dX7_weighs_5 : decode cX7_weighs 5 = .ok (.ifCond .eq 10, 3) := by decide +kernel
theorem dX7_weighs_8 : decode cX7_weighs 8 = .ok (.iload_n 2, 1) := by decide +kernel
theorem dX7_weighs_9 : decode cX7_weighs 9 = .ok (.invokestatic 52, 3) := by decide +kernel
theorem dX7_weighs_12 : decode cX7_weighs 12 = .ok (.ifCond .ne 9, 3) := by decide +kernel
theorem dX7_weighs_15 : decode cX7_weighs 15 = .ok (.aload_n 0, 1) := by decide +kernel
theorem dX7_weighs_16 : decode cX7_weighs 16 = .ok (.iconst 1, 1) := by decide +kernel
theorem dX7_weighs_17 : decode cX7_weighs 17 = .ok (.invokevirtual 55, 3) := by decide +kernel
theorem dX7_weighs_20 : decode cX7_weighs 20 = .ok (.ireturn, 1) := by decide +kernel
theorem dX7_weighs_21 : decode cX7_weighs 21 = .ok (.aload_n 0, 1) := by decide +kernel
theorem dX7_weighs_22 : decode cX7_weighs 22 = .ok (.getfield 10, 3) := by decide +kernel
theorem dX7_weighs_25 : decode cX7_weighs 25 = .ok (.getfield 59, 3) := by decide +kernel
theorem dX7_weighs_28 : decode cX7_weighs 28 = .ok (.getfield 81, 3) := by decide +kernel
theorem dX7_weighs_31 : decode cX7_weighs 31 = .ok (.iload_n 1, 1) := by decide +kernel
theorem dX7_weighs_32 : decode cX7_weighs 32 = .ok (.iaload, 1) := by decide +kernel
theorem dX7_weighs_33 : decode cX7_weighs 33 = .ok (.istore_n 3, 1) := by decide +kernel
theorem dX7_weighs_34 : decode cX7_weighs 34 = .ok (.aload_n 0, 1) := by decide +kernel
theorem dX7_weighs_35 : decode cX7_weighs 35 = .ok (.getfield 10, 3) := by decide +kernel
theorem dX7_weighs_38 : decode cX7_weighs 38 = .ok (.getfield 59, 3) := by decide +kernel
theorem dX7_weighs_41 : decode cX7_weighs 41 = .ok (.getfield 81, 3) := by decide +kernel
theorem dX7_weighs_44 : decode cX7_weighs 44 = .ok (.iload_n 1, 1) := by decide +kernel
theorem dX7_weighs_45 : decode cX7_weighs 45 = .ok (.iload_n 2, 1) := by decide +kernel
theorem dX7_weighs_46 : decode cX7_weighs 46 = .ok (.iastore, 1) := by decide +kernel
theorem dX7_weighs_47 : decode cX7_weighs 47 = .ok (.iload_n 3, 1) := by decide +kernel
theorem dX7_weighs_48 : decode cX7_weighs 48 = .ok (.ireturn, 1) := by decide +kernel
theorem dX7_runner_0 : decode cX7_runner 0 = .ok (.iload_n 1, 1) := by decide +kernel
theorem dX7_runner_1 : decode cX7_runner 1 = .ok (.iconst 0, 1) := by decide +kernel
theorem dX7_runner_2 : decode cX7_runner 2 = .ok (.bipush 99, 2) := by decide +kernel
theorem dX7_runner_4 : decode cX7_runner 4 = .ok (.invokestatic 93, 3) := by decide +kernel
theorem dX7_runner_7 : decode cX7_runner 7 = .ok (.ifCond .eq 13, 3) := by decide +kernel
theorem dX7_runner_10 : decode cX7_runner 10 = .ok (.iload_n 2, 1) := by decide +kernel
theorem dX7_runner_11 : decode cX7_runner 11 = .ok (.iconst 1, 1) := by decide +kernel
theorem dX7_runner_12 : decode cX7_runner 12 = .ok (.bipush 60, 2) := by decide +kernel
theorem dX7_runner_14 : decode cX7_runner 14 = .ok (.invokestatic 93, 3) := by decide +kernel
theorem dX7_runner_17 : decode cX7_runner 17 = .ok (.ifCond .ne 9, 3) := by decide +kernel
theorem dX7_runner_20 : decode cX7_runner 20 = .ok (.aload_n 0, 1) := by decide +kernel
theorem dX7_runner_21 : decode cX7_runner 21 = .ok (.iconst 1, 1) := by decide +kernel
theorem dX7_runner_22 : decode cX7_runner 22 = .ok (.invokevirtual 55, 3) := by decide +kernel
theorem dX7_runner_25 : decode cX7_runner 25 = .ok (.ireturn, 1) := by decide +kernel
theorem dX7_runner_26 : decode cX7_runner 26 = .ok (.aload_n 0, 1) := by decide +kernel
theorem dX7_runner_27 : decode cX7_runner 27 = .ok (.getfield 10, 3) := by decide +kernel
theorem dX7_runner_30 : decode cX7_runner 30 = .ok (.getfield 101, 3) := by decide +kernel
theorem dX7_runner_33 : decode cX7_runner 33 = .ok (.getfield 105, 3) := by decide +kernel
theorem dX7_runner_36 : decode cX7_runner 36 = .ok (.iconst 5, 1) := by decide +kernel
theorem dX7_runner_37 : decode cX7_runner 37 = .ok (.if_icmp .lt 9, 3) := by decide +kernel
theorem dX7_runner_40 : decode cX7_runner 40 = .ok (.aload_n 0, 1) := by decide +kernel
theorem dX7_runner_41 : decode cX7_runner 41 = .ok (.iconst 4, 1) := by decide +kernel
theorem dX7_runner_42 : decode cX7_runner 42 = .ok (.invokevirtual 55, 3) := by decide +kernel
theorem dX7_runner_45 : decode cX7_runner 45 = .ok (.ireturn, 1) := by decide +kernel
theorem dX7_runner_46 : decode cX7_runner 46 = .ok (.aload_n 0, 1) := by decide +kernel
theorem dX7_runner_47 : decode cX7_runner 47 = .ok (.getfield 10, 3) := by decide +kernel
theorem dX7_runner_50 : decode cX7_runner 50 = .ok (.getfield 101, 3) := by decide +kernel
theorem dX7_runner_53 : decode cX7_runner 53 = .ok (.iload_n 1, 1) := by decide +kernel
theorem dX7_runner_54 : decode cX7_runner 54 = .ok (.iload_n 2, 1) := by decide +kernel
theorem dX7_runner_55 : decode cX7_runner 55 = .ok (.invokevirtual 108, 3) := by decide +kernel
theorem dX7_runner_58 : decode cX7_runner 58 = .ok (.ireturn, 1) := by decide +kernel
theorem dX7_runnerIs_0 : decode cX7_runnerIs 0 = .ok (.aload_n 0, 1) := by decide +kernel
theorem dX7_runnerIs_1 : decode cX7_runnerIs 1 = .ok (.iload_n 1, 1) := by decide +kernel
theorem dX7_runnerIs_2 : decode cX7_runnerIs 2 = .ok (.invokevirtual 109, 3) := by decide +kernel
theorem dX7_runnerIs_5 : decode cX7_runnerIs 5 = .ok (.ifCond .ne 9, 3) := by decide +kernel
theorem dX7_runnerIs_8 : decode cX7_runnerIs 8 = .ok (.aload_n 0, 1) := by decide +kernel
theorem dX7_runnerIs_9 : decode cX7_runnerIs 9 = .ok (.iconst 1, 1) := by decide +kernel
theorem dX7_runnerIs_10 : decode cX7_runnerIs 10 = .ok (.invokevirtual 55, 3) := by decide +kernel
theorem dX7_runnerIs_13 : decode cX7_runnerIs 13 = .ok (.ireturn, 1) := by decide +kernel
theorem dX7_runnerIs_14 : decode cX7_runnerIs 14 = .ok (.aload_n 0, 1) := by decide +kernel
theorem dX7_runnerIs_15 : decode cX7_runnerIs 15 = .ok (.getfield 10, 3) := by decide +kernel
theorem dX7_runnerIs_18 : decode cX7_runnerIs 18 = .ok (.getfield 101, 3) := by decide +kernel
theorem dX7_runnerIs_21 : decode cX7_runnerIs 21 = .ok (.getfield 112, 3) := by decide +kernel
theorem dX7_runnerIs_24 : decode cX7_runnerIs 24 = .ok (.iload_n 1, 1) := by decide +kernel
theorem dX7_runnerIs_25 : decode cX7_runnerIs 25 = .ok (.iaload, 1) := by decide +kernel
theorem dX7_runnerIs_26 : decode cX7_runnerIs 26 = .ok (.istore_n 3, 1) := by decide +kernel
theorem dX7_runnerIs_27 : decode cX7_runnerIs 27 = .ok (.iload_n 2, 1) := by decide +kernel
theorem dX7_runnerIs_28 : decode cX7_runnerIs 28 = .ok (.tableswitch 129 0 6 #[44, 57, 70, 72, 85, 98, 111], 44) := by decide +kernel
theorem dX7_runnerIs_72 : decode cX7_runnerIs 72 = .ok (.aload_n 0, 1) := by decide +kernel
theorem dX7_runnerIs_73 : decode cX7_runnerIs 73 = .ok (.getfield 10, 3) := by decide +kernel
theorem dX7_runnerIs_76 : decode cX7_runnerIs 76 = .ok (.getfield 101, 3) := by decide +kernel
theorem dX7_runnerIs_79 : decode cX7_runnerIs 79 = .ok (.getfield 115, 3) := by decide +kernel
theorem dX7_runnerIs_82 : decode cX7_runnerIs 82 = .ok (.iload_n 1, 1) := by decide +kernel
theorem dX7_runnerIs_83 : decode cX7_runnerIs 83 = .ok (.iaload, 1) := by decide +kernel
theorem dX7_runnerIs_84 : decode cX7_runnerIs 84 = .ok (.ireturn, 1) := by decide +kernel
theorem dX7_runnerIs_85 : decode cX7_runnerIs 85 = .ok (.aload_n 0, 1) := by decide +kernel
theorem dX7_runnerIs_86 : decode cX7_runnerIs 86 = .ok (.getfield 10, 3) := by decide +kernel
theorem dX7_runnerIs_89 : decode cX7_runnerIs 89 = .ok (.getfield 101, 3) := by decide +kernel
theorem dX7_runnerIs_92 : decode cX7_runnerIs 92 = .ok (.getfield 118, 3) := by decide +kernel
theorem dX7_runnerIs_95 : decode cX7_runnerIs 95 = .ok (.iload_n 1, 1) := by decide +kernel
theorem dX7_runnerIs_96 : decode cX7_runnerIs 96 = .ok (.iaload, 1) := by decide +kernel
theorem dX7_runnerIs_97 : decode cX7_runnerIs 97 = .ok (.ireturn, 1) := by decide +kernel
theorem dX7_runnerIs_98 : decode cX7_runnerIs 98 = .ok (.iload_n 3, 1) := by decide +kernel
theorem dX7_runnerIs_99 : decode cX7_runnerIs 99 = .ok (.ireturn, 1) := by decide +kernel
theorem dX7_runnerIs_100 : decode cX7_runnerIs 100 = .ok (.aload_n 0, 1) := by decide +kernel
theorem dX7_runnerIs_101 : decode cX7_runnerIs 101 = .ok (.getfield 10, 3) := by decide +kernel
theorem dX7_runnerIs_104 : decode cX7_runnerIs 104 = .ok (.getfield 101, 3) := by decide +kernel
theorem dX7_runnerIs_107 : decode cX7_runnerIs 107 = .ok (.getfield 121, 3) := by decide +kernel
theorem dX7_runnerIs_110 : decode cX7_runnerIs 110 = .ok (.iload_n 1, 1) := by decide +kernel
theorem dX7_runnerIs_111 : decode cX7_runnerIs 111 = .ok (.iaload, 1) := by decide +kernel
theorem dX7_runnerIs_112 : decode cX7_runnerIs 112 = .ok (.ireturn, 1) := by decide +kernel
theorem dX7_runnerIs_113 : decode cX7_runnerIs 113 = .ok (.aload_n 0, 1) := by decide +kernel
theorem dX7_runnerIs_114 : decode cX7_runnerIs 114 = .ok (.getfield 10, 3) := by decide +kernel
theorem dX7_runnerIs_117 : decode cX7_runnerIs 117 = .ok (.getfield 101, 3) := by decide +kernel
theorem dX7_runnerIs_120 : decode cX7_runnerIs 120 = .ok (.getfield 124, 3) := by decide +kernel
theorem dX7_runnerIs_123 : decode cX7_runnerIs 123 = .ok (.iload_n 1, 1) := by decide +kernel
theorem dX7_runnerIs_124 : decode cX7_runnerIs 124 = .ok (.iaload, 1) := by decide +kernel
theorem dX7_runnerIs_125 : decode cX7_runnerIs 125 = .ok (.ireturn, 1) := by decide +kernel
theorem dX7_runnerIs_126 : decode cX7_runnerIs 126 = .ok (.aload_n 0, 1) := by decide +kernel
theorem dX7_runnerIs_127 : decode cX7_runnerIs 127 = .ok (.getfield 10, 3) := by decide +kernel
theorem dX7_runnerIs_130 : decode cX7_runnerIs 130 = .ok (.getfield 101, 3) := by decide +kernel
theorem dX7_runnerIs_133 : decode cX7_runnerIs 133 = .ok (.iload_n 1, 1) := by decide +kernel
theorem dX7_runnerIs_134 : decode cX7_runnerIs 134 = .ok (.iload_n 3, 1) := by decide +kernel
theorem dX7_runnerIs_135 : decode cX7_runnerIs 135 = .ok (.invokevirtual 127, 3) := by decide +kernel
theorem dX7_runnerIs_138 : decode cX7_runnerIs 138 = .ok (.ireturn, 1) := by decide +kernel
theorem dX7_runnerIs_139 : decode cX7_runnerIs 139 = .ok (.aload_n 0, 1) := by decide +kernel
theorem dX7_runnerIs_140 : decode cX7_runnerIs 140 = .ok (.getfield 10, 3) := by decide +kernel
theorem dX7_runnerIs_143 : decode cX7_runnerIs 143 = .ok (.iload_n 1, 1) := by decide +kernel
theorem dX7_runnerIs_144 : decode cX7_runnerIs 144 = .ok (.iload_n 3, 1) := by decide +kernel
theorem dX7_runnerIs_145 : decode cX7_runnerIs 145 = .ok (.invokevirtual 130, 3) := by decide +kernel
theorem dX7_runnerIs_148 : decode cX7_runnerIs 148 = .ok (.ifCond .eq 7, 3) := by decide +kernel
theorem dX7_runnerIs_151 : decode cX7_runnerIs 151 = .ok (.iconst 1, 1) := by decide +kernel
theorem dX7_runnerIs_152 : decode cX7_runnerIs 152 = .ok (.goto 4, 3) := by decide +kernel
theorem dX7_runnerIs_155 : decode cX7_runnerIs 155 = .ok (.iconst 0, 1) := by decide +kernel
theorem dX7_runnerIs_156 : decode cX7_runnerIs 156 = .ok (.ireturn, 1) := by decide +kernel
theorem dX7_runnerIs_157 : decode cX7_runnerIs 157 = .ok (.aload_n 0, 1) := by decide +kernel
theorem dX7_runnerIs_158 : decode cX7_runnerIs 158 = .ok (.iconst 1, 1) := by decide +kernel
theorem dX7_runnerIs_159 : decode cX7_runnerIs 159 = .ok (.invokevirtual 55, 3) := by decide +kernel
theorem dX7_runnerIs_162 : decode cX7_runnerIs 162 = .ok (.ireturn, 1) := by decide +kernel
theorem dX7_leads_0 : decode cX7_leads 0 = .ok (.aload_n 0, 1) := by decide +kernel
theorem dX7_leads_1 : decode cX7_leads 1 = .ok (.iload_n 1, 1) := by decide +kernel
theorem dX7_leads_2 : decode cX7_leads 2 = .ok (.invokevirtual 109, 3) := by decide +kernel
theorem dX7_leads_5 : decode cX7_leads 5 = .ok (.ifCond .eq 10, 3) := by decide +kernel
theorem dX7_leads_8 : decode cX7_leads 8 = .ok (.iload_n 2, 1) := by decide +kernel
theorem dX7_leads_9 : decode cX7_leads 9 = .ok (.invokestatic 133, 3) := by decide +kernel
theorem dX7_leads_12 : decode cX7_leads 12 = .ok (.ifCond .ne 9, 3) := by decide +kernel
theorem dX7_leads_15 : decode cX7_leads 15 = .ok (.aload_n 0, 1) := by decide +kernel
theorem dX7_leads_16 : decode cX7_leads 16 = .ok (.iconst 1, 1) := by decide +kernel
theorem dX7_leads_17 : decode cX7_leads 17 = .ok (.invokevirtual 55, 3) := by decide +kernel
theorem dX7_leads_20 : decode cX7_leads 20 = .ok (.ireturn, 1) := by decide +kernel
theorem dX7_leads_21 : decode cX7_leads 21 = .ok (.aload_n 0, 1) := by decide +kernel
theorem dX7_leads_22 : decode cX7_leads 22 = .ok (.getfield 10, 3) := by decide +kernel
theorem dX7_leads_25 : decode cX7_leads 25 = .ok (.getfield 101, 3) := by decide +kernel
theorem dX7_leads_28 : decode cX7_leads 28 = .ok (.getfield 112, 3) := by decide +kernel
theorem dX7_leads_31 : decode cX7_leads 31 = .ok (.iload_n 1, 1) := by decide +kernel
theorem dX7_leads_32 : decode cX7_leads 32 = .ok (.iaload, 1) := by decide +kernel
theorem dX7_leads_33 : decode cX7_leads 33 = .ok (.istore_n 3, 1) := by decide +kernel
theorem dX7_leads_34 : decode cX7_leads 34 = .ok (.aload_n 0, 1) := by decide +kernel
theorem dX7_leads_35 : decode cX7_leads 35 = .ok (.getfield 10, 3) := by decide +kernel
theorem dX7_leads_38 : decode cX7_leads 38 = .ok (.getfield 101, 3) := by decide +kernel
theorem dX7_leads_41 : decode cX7_leads 41 = .ok (.getfield 112, 3) := by decide +kernel
theorem dX7_leads_44 : decode cX7_leads 44 = .ok (.iload_n 1, 1) := by decide +kernel
theorem dX7_leads_45 : decode cX7_leads 45 = .ok (.iload_n 2, 1) := by decide +kernel
theorem dX7_leads_46 : decode cX7_leads 46 = .ok (.iastore, 1) := by decide +kernel
theorem dX7_leads_47 : decode cX7_leads 47 = .ok (.iload_n 3, 1) := by decide +kernel
theorem dX7_leads_48 : decode cX7_leads 48 = .ok (.ireturn, 1) := by decide +kernel
theorem dX7_set_0 : decode cX7_set 0 = .ok (.iload_n 1, 1) := by decide +kernel
theorem dX7_set_1 : decode cX7_set 1 = .ok (.iconst 0, 1) := by decide +kernel
theorem dX7_set_2 : decode cX7_set 2 = .ok (.iconst 3, 1) := by decide +kernel
theorem dX7_set_3 : decode cX7_set 3 = .ok (.invokestatic 93, 3) := by decide +kernel
theorem dX7_set_6 : decode cX7_set 6 = .ok (.ifCond .eq 15, 3) := by decide +kernel
theorem dX7_set_9 : decode cX7_set 9 = .ok (.iload_n 2, 1) := by decide +kernel
theorem dX7_set_10 : decode cX7_set 10 = .ok (.iconst 0, 1) := by decide +kernel
theorem dX7_set_11 : decode cX7_set 11 = .ok (.iload_n 1, 1) := by decide +kernel
theorem dX7_set_12 : decode cX7_set 12 = .ok (.invokestatic 136, 3) := by decide +kernel
theorem dX7_set_15 : decode cX7_set 15 = .ok (.invokestatic 93, 3) := by decide +kernel
theorem dX7_set_18 : decode cX7_set 18 = .ok (.ifCond .ne 9, 3) := by decide +kernel
theorem dX7_set_21 : decode cX7_set 21 = .ok (.aload_n 0, 1) := by decide +kernel
theorem dX7_set_22 : decode cX7_set 22 = .ok (.iconst 1, 1) := by decide +kernel
theorem dX7_set_23 : decode cX7_set 23 = .ok (.invokevirtual 55, 3) := by decide +kernel
theorem dX7_set_26 : decode cX7_set 26 = .ok (.ireturn, 1) := by decide +kernel
theorem dX7_set_27 : decode cX7_set 27 = .ok (.aload_n 0, 1) := by decide +kernel
theorem dX7_set_28 : decode cX7_set 28 = .ok (.getfield 10, 3) := by decide +kernel
theorem dX7_set_31 : decode cX7_set 31 = .ok (.iload_n 1, 1) := by decide +kernel
theorem dX7_set_32 : decode cX7_set 32 = .ok (.iload_n 2, 1) := by decide +kernel
theorem dX7_set_33 : decode cX7_set 33 = .ok (.invokevirtual 139, 3) := by decide +kernel
theorem dX7_set_36 : decode cX7_set 36 = .ok (.ireturn, 1) := by decide +kernel
theorem dX7_steal_0 : decode cX7_steal 0 = .ok (.aload_n 0, 1) := by decide +kernel
theorem dX7_steal_1 : decode cX7_steal 1 = .ok (.iload_n 1, 1) := by decide +kernel
theorem dX7_steal_2 : decode cX7_steal 2 = .ok (.invokevirtual 109, 3) := by decide +kernel
theorem dX7_steal_5 : decode cX7_steal 5 = .ok (.ifCond .eq 11, 3) := by decide +kernel
theorem dX7_steal_8 : decode cX7_steal 8 = .ok (.aload_n 0, 1) := by decide +kernel
theorem dX7_steal_9 : decode cX7_steal 9 = .ok (.iload_n 2, 1) := by decide +kernel
theorem dX7_steal_10 : decode cX7_steal 10 = .ok (.invokevirtual 72, 3) := by decide +kernel
theorem dX7_steal_13 : decode cX7_steal 13 = .ok (.ifCond .ne 9, 3) := by decide +kernel
theorem dX7_steal_16 : decode cX7_steal 16 = .ok (.aload_n 0, 1) := by decide +kernel
theorem dX7_steal_17 : decode cX7_steal 17 = .ok (.iconst 1, 1) := by decide +kernel
theorem dX7_steal_18 : decode cX7_steal 18 = .ok (.invokevirtual 55, 3) := by decide +kernel
theorem dX7_steal_21 : decode cX7_steal 21 = .ok (.ireturn, 1) := by decide +kernel
theorem dX7_steal_22 : decode cX7_steal 22 = .ok (.aload_n 0, 1) := by decide +kernel
theorem dX7_steal_23 : decode cX7_steal 23 = .ok (.getfield 10, 3) := by decide +kernel
theorem dX7_steal_26 : decode cX7_steal 26 = .ok (.iload_n 1, 1) := by decide +kernel
theorem dX7_steal_27 : decode cX7_steal 27 = .ok (.iload_n 2, 1) := by decide +kernel
theorem dX7_steal_28 : decode cX7_steal 28 = .ok (.invokevirtual 142, 3) := by decide +kernel
theorem dX7_steal_31 : decode cX7_steal 31 = .ok (.ifCond .eq 7, 3) := by decide +kernel
theorem dX7_steal_34 : decode cX7_steal 34 = .ok (.iconst 1, 1) := by decide +kernel
theorem dX7_steal_35 : decode cX7_steal 35 = .ok (.goto 4, 3) := by decide +kernel
theorem dX7_steal_38 : decode cX7_steal 38 = .ok (.iconst 0, 1) := by decide +kernel
theorem dX7_steal_39 : decode cX7_steal 39 = .ok (.ireturn, 1) := by decide +kernel
theorem dX7_over_0 : decode cX7_over 0 = .ok (.aload_n 0, 1) := by decide +kernel
theorem dX7_over_1 : decode cX7_over 1 = .ok (.iload_n 1, 1) := by decide +kernel
theorem dX7_over_2 : decode cX7_over 2 = .ok (.invokevirtual 109, 3) := by decide +kernel
theorem dX7_over_5 : decode cX7_over 5 = .ok (.ifCond .ne 9, 3) := by decide +kernel
theorem dX7_over_8 : decode cX7_over 8 = .ok (.aload_n 0, 1) := by decide +kernel
theorem dX7_over_9 : decode cX7_over 9 = .ok (.iconst 1, 1) := by decide +kernel
theorem dX7_over_10 : decode cX7_over 10 = .ok (.invokevirtual 55, 3) := by decide +kernel
theorem dX7_over_13 : decode cX7_over 13 = .ok (.ireturn, 1) := by decide +kernel
theorem dX7_over_14 : decode cX7_over 14 = .ok (.aload_n 0, 1) := by decide +kernel
theorem dX7_over_15 : decode cX7_over 15 = .ok (.getfield 10, 3) := by decide +kernel
theorem dX7_over_18 : decode cX7_over 18 = .ok (.iload_n 1, 1) := by decide +kernel
theorem dX7_over_19 : decode cX7_over 19 = .ok (.aload_n 0, 1) := by decide +kernel
theorem dX7_over_20 : decode cX7_over 20 = .ok (.getfield 10, 3) := by decide +kernel
theorem dX7_over_23 : decode cX7_over 23 = .ok (.getfield 101, 3) := by decide +kernel
theorem dX7_over_26 : decode cX7_over 26 = .ok (.getfield 112, 3) := by decide +kernel
theorem dX7_over_29 : decode cX7_over 29 = .ok (.iload_n 1, 1) := by decide +kernel
theorem dX7_over_30 : decode cX7_over 30 = .ok (.iaload, 1) := by decide +kernel
theorem dX7_over_31 : decode cX7_over 31 = .ok (.invokevirtual 130, 3) := by decide +kernel
theorem dX7_over_34 : decode cX7_over 34 = .ok (.ifCond .ne 5, 3) := by decide +kernel
theorem dX7_over_37 : decode cX7_over 37 = .ok (.iconst 0, 1) := by decide +kernel
theorem dX7_over_38 : decode cX7_over 38 = .ok (.ireturn, 1) := by decide +kernel
theorem dX7_over_39 : decode cX7_over 39 = .ok (.aload_n 0, 1) := by decide +kernel
theorem dX7_over_40 : decode cX7_over 40 = .ok (.getfield 10, 3) := by decide +kernel
theorem dX7_over_43 : decode cX7_over 43 = .ok (.iload_n 1, 1) := by decide +kernel
theorem dX7_over_44 : decode cX7_over 44 = .ok (.invokevirtual 145, 3) := by decide +kernel
theorem dX7_over_47 : decode cX7_over 47 = .ok (.iconst 1, 1) := by decide +kernel
theorem dX7_over_48 : decode cX7_over 48 = .ok (.ireturn, 1) := by decide +kernel
theorem dX7_feed_0 : decode cX7_feed 0 = .ok (.iload_n 3, 1) := by decide +kernel
theorem dX7_feed_1 : decode cX7_feed 1 = .ok (.iconst 1, 1) := by decide +kernel
theorem dX7_feed_2 : decode cX7_feed 2 = .ok (.bipush 8, 2) := by decide +kernel
theorem dX7_feed_4 : decode cX7_feed 4 = .ok (.invokestatic 93, 3) := by decide +kernel
theorem dX7_feed_7 : decode cX7_feed 7 = .ok (.ifCond .ne 9, 3) := by decide +kernel
theorem dX7_feed_10 : decode cX7_feed 10 = .ok (.aload_n 0, 1) := by decide +kernel
theorem dX7_feed_11 : decode cX7_feed 11 = .ok (.iconst 1, 1) := by decide +kernel
theorem dX7_feed_12 : decode cX7_feed 12 = .ok (.invokevirtual 55, 3) := by decide +kernel
theorem dX7_feed_15 : decode cX7_feed 15 = .ok (.ireturn, 1) := by decide +kernel
theorem dX7_feed_16 : decode cX7_feed 16 = .ok (.aload_n 0, 1) := by decide +kernel
theorem dX7_feed_17 : decode cX7_feed 17 = .ok (.getfield 10, 3) := by decide +kernel
theorem dX7_feed_20 : decode cX7_feed 20 = .ok (.getfield 149, 3) := by decide +kernel
theorem dX7_feed_23 : decode cX7_feed 23 = .ok (.iload_n 3, 1) := by decide +kernel
theorem dX7_feed_24 : decode cX7_feed 24 = .ok (.iadd, 1) := by decide +kernel
theorem dX7_feed_25 : decode cX7_feed 25 = .ok (.bipush 60, 2) := by decide +kernel
theorem dX7_feed_27 : decode cX7_feed 27 = .ok (.if_icmp .le 9, 3) := by decide +kernel
theorem dX7_feed_30 : decode cX7_feed 30 = .ok (.aload_n 0, 1) := by decide +kernel
theorem dX7_feed_31 : decode cX7_feed 31 = .ok (.iconst 4, 1) := by decide +kernel
theorem dX7_feed_32 : decode cX7_feed 32 = .ok (.invokevirtual 55, 3) := by decide +kernel
theorem dX7_feed_35 : decode cX7_feed 35 = .ok (.ireturn, 1) := by decide +kernel
theorem dX7_feed_36 : decode cX7_feed 36 = .ok (.iconst 0, 1) := by decide +kernel
theorem dX7_feed_37 : decode cX7_feed 37 = .ok (.istore 4, 2) := by decide +kernel
theorem dX7_feed_39 : decode cX7_feed 39 = .ok (.iload 4, 2) := by decide +kernel
theorem dX7_feed_41 : decode cX7_feed 41 = .ok (.iload_n 3, 1) := by decide +kernel
theorem dX7_feed_42 : decode cX7_feed 42 = .ok (.if_icmp .ge 36, 3) := by decide +kernel
theorem dX7_feed_45 : decode cX7_feed 45 = .ok (.aload_n 0, 1) := by decide +kernel
theorem dX7_feed_46 : decode cX7_feed 46 = .ok (.getfield 10, 3) := by decide +kernel
theorem dX7_feed_49 : decode cX7_feed 49 = .ok (.getfield 152, 3) := by decide +kernel
theorem dX7_feed_52 : decode cX7_feed 52 = .ok (.aload_n 0, 1) := by decide +kernel
theorem dX7_feed_53 : decode cX7_feed 53 = .ok (.getfield 10, 3) := by decide +kernel
theorem dX7_feed_56 : decode cX7_feed 56 = .ok (.getfield 149, 3) := by decide +kernel
theorem dX7_feed_59 : decode cX7_feed 59 = .ok (.iload 4, 2) := by decide +kernel
theorem dX7_feed_61 : decode cX7_feed 61 = .ok (.iadd, 1) := by decide +kernel
theorem dX7_feed_62 : decode cX7_feed 62 = .ok (.lload_n 1, 1) := by decide +kernel
theorem dX7_feed_63 : decode cX7_feed 63 = .ok (.bipush 8, 2) := by decide +kernel
theorem dX7_feed_65 : decode cX7_feed 65 = .ok (.iload 4, 2) := by decide +kernel
theorem dX7_feed_67 : decode cX7_feed 67 = .ok (.imul, 1) := by decide +kernel
theorem dX7_feed_68 : decode cX7_feed 68 = .ok (.lushr, 1) := by decide +kernel
theorem dX7_feed_69 : decode cX7_feed 69 = .ok (.l2i, 1) := by decide +kernel
theorem dX7_feed_70 : decode cX7_feed 70 = .ok (.i2b, 1) := by decide +kernel
theorem dX7_feed_71 : decode cX7_feed 71 = .ok (.bastore, 1) := by decide +kernel
theorem dX7_feed_72 : decode cX7_feed 72 = .ok (.iinc 4 1, 3) := by decide +kernel
theorem dX7_feed_75 : decode cX7_feed 75 = .ok (.goto (-36), 3) := by decide +kernel
theorem dX7_feed_78 : decode cX7_feed 78 = .ok (.aload_n 0, 1) := by decide +kernel
theorem dX7_feed_79 : decode cX7_feed 79 = .ok (.getfield 10, 3) := by decide +kernel
theorem dX7_feed_82 : decode cX7_feed 82 = .ok (.dup, 1) := by decide +kernel
theorem dX7_feed_83 : decode cX7_feed 83 = .ok (.getfield 149, 3) := by decide +kernel
theorem dX7_feed_86 : decode cX7_feed 86 = .ok (.iload_n 3, 1) := by decide +kernel
theorem dX7_feed_87 : decode cX7_feed 87 = .ok (.iadd, 1) := by decide +kernel
theorem dX7_feed_88 : decode cX7_feed 88 = .ok (.putfield 149, 3) := by decide +kernel
theorem dX7_feed_91 : decode cX7_feed 91 = .ok (.aload_n 0, 1) := by decide +kernel
theorem dX7_feed_92 : decode cX7_feed 92 = .ok (.getfield 10, 3) := by decide +kernel
theorem dX7_feed_95 : decode cX7_feed 95 = .ok (.getfield 149, 3) := by decide +kernel
theorem dX7_feed_98 : decode cX7_feed 98 = .ok (.ireturn, 1) := by decide +kernel
theorem dX7_text_0 : decode cX7_text 0 = .ok (.iload_n 1, 1) := by decide +kernel
theorem dX7_text_1 : decode cX7_text 1 = .ok (.invokestatic 156, 3) := by decide +kernel
theorem dX7_text_4 : decode cX7_text 4 = .ok (.ifCond .ne 9, 3) := by decide +kernel
theorem dX7_text_7 : decode cX7_text 7 = .ok (.aload_n 0, 1) := by decide +kernel
theorem dX7_text_8 : decode cX7_text 8 = .ok (.iconst 1, 1) := by decide +kernel
theorem dX7_text_9 : decode cX7_text 9 = .ok (.invokevirtual 55, 3) := by decide +kernel
theorem dX7_text_12 : decode cX7_text 12 = .ok (.ireturn, 1) := by decide +kernel
theorem dX7_text_13 : decode cX7_text 13 = .ok (.aload_n 0, 1) := by decide +kernel
theorem dX7_text_14 : decode cX7_text 14 = .ok (.getfield 22, 3) := by decide +kernel
theorem dX7_text_17 : decode cX7_text 17 = .ok (.aload_n 0, 1) := by decide +kernel
theorem dX7_text_18 : decode cX7_text 18 = .ok (.getfield 10, 3) := by decide +kernel
theorem dX7_text_21 : decode cX7_text 21 = .ok (.getfield 152, 3) := by decide +kernel
theorem dX7_text_24 : decode cX7_text 24 = .ok (.aload_n 0, 1) := by decide +kernel
theorem dX7_text_25 : decode cX7_text 25 = .ok (.getfield 10, 3) := by decide +kernel
theorem dX7_text_28 : decode cX7_text 28 = .ok (.getfield 149, 3) := by decide +kernel
theorem dX7_text_31 : decode cX7_text 31 = .ok (.iload_n 1, 1) := by decide +kernel
theorem dX7_text_32 : decode cX7_text 32 = .ok (.invokevirtual 159, 3) := by decide +kernel
theorem dX7_text_35 : decode cX7_text 35 = .ok (.istore_n 2, 1) := by decide +kernel
theorem dX7_text_36 : decode cX7_text 36 = .ok (.aload_n 0, 1) := by decide +kernel
theorem dX7_text_37 : decode cX7_text 37 = .ok (.getfield 10, 3) := by decide +kernel
theorem dX7_text_40 : decode cX7_text 40 = .ok (.iconst 0, 1) := by decide +kernel
theorem dX7_text_41 : decode cX7_text 41 = .ok (.putfield 149, 3) := by decide +kernel
theorem dX7_text_44 : decode cX7_text 44 = .ok (.iload_n 2, 1) := by decide +kernel
theorem dX7_text_45 : decode cX7_text 45 = .ok (.ifCond .lt 8, 3) := by decide +kernel
theorem dX7_text_48 : decode cX7_text 48 = .ok (.bipush (-10), 2) := by decide +kernel
theorem dX7_text_50 : decode cX7_text 50 = .ok (.iload_n 2, 1) := by decide +kernel
theorem dX7_text_51 : decode cX7_text 51 = .ok (.isub, 1) := by decide +kernel
theorem dX7_text_52 : decode cX7_text 52 = .ok (.ireturn, 1) := by decide +kernel
theorem dX7_text_53 : decode cX7_text 53 = .ok (.aload_n 0, 1) := by decide +kernel
theorem dX7_text_54 : decode cX7_text 54 = .ok (.getfield 10, 3) := by decide +kernel
theorem dX7_text_57 : decode cX7_text 57 = .ok (.iload_n 1, 1) := by decide +kernel
theorem dX7_text_58 : decode cX7_text 58 = .ok (.invokevirtual 163, 3) := by decide +kernel
theorem dX7_text_61 : decode cX7_text 61 = .ok (.aload_n 0, 1) := by decide +kernel
theorem dX7_text_62 : decode cX7_text 62 = .ok (.getfield 22, 3) := by decide +kernel
theorem dX7_text_65 : decode cX7_text 65 = .ok (.getfield 167, 3) := by decide +kernel
theorem dX7_text_68 : decode cX7_text 68 = .ok (.invokevirtual 171, 3) := by decide +kernel
theorem dX7_text_71 : decode cX7_text 71 = .ok (.iconst 1, 1) := by decide +kernel
theorem dX7_text_72 : decode cX7_text 72 = .ok (.ireturn, 1) := by decide +kernel
theorem dX7_untell_0 : decode cX7_untell 0 = .ok (.iload_n 1, 1) := by decide +kernel
theorem dX7_untell_1 : decode cX7_untell 1 = .ok (.invokestatic 156, 3) := by decide +kernel
theorem dX7_untell_4 : decode cX7_untell 4 = .ok (.ifCond .ne 9, 3) := by decide +kernel
theorem dX7_untell_7 : decode cX7_untell 7 = .ok (.aload_n 0, 1) := by decide +kernel
theorem dX7_untell_8 : decode cX7_untell 8 = .ok (.iconst 1, 1) := by decide +kernel
theorem dX7_untell_9 : decode cX7_untell 9 = .ok (.invokevirtual 55, 3) := by decide +kernel
theorem dX7_untell_12 : decode cX7_untell 12 = .ok (.ireturn, 1) := by decide +kernel
theorem dX7_untell_13 : decode cX7_untell 13 = .ok (.aload_n 0, 1) := by decide +kernel
theorem dX7_untell_14 : decode cX7_untell 14 = .ok (.getfield 10, 3) := by decide +kernel
theorem dX7_untell_17 : decode cX7_untell 17 = .ok (.iload_n 1, 1) := by decide +kernel
theorem dX7_untell_18 : decode cX7_untell 18 = .ok (.invokevirtual 163, 3) := by decide +kernel
theorem dX7_untell_21 : decode cX7_untell 21 = .ok (.astore_n 2, 1) := by decide +kernel
theorem dX7_untell_22 : decode cX7_untell 22 = .ok (.aload_n 2, 1) := by decide +kernel
theorem dX7_untell_23 : decode cX7_untell 23 = .ok (.getfield 177, 3) := by decide +kernel
theorem dX7_untell_26 : decode cX7_untell 26 = .ok (.ifCond .eq 7, 3) := by decide +kernel
theorem dX7_untell_29 : decode cX7_untell 29 = .ok (.iconst 1, 1) := by decide +kernel
theorem dX7_untell_30 : decode cX7_untell 30 = .ok (.goto 4, 3) := by decide +kernel
theorem dX7_untell_33 : decode cX7_untell 33 = .ok (.iconst 0, 1) := by decide +kernel
theorem dX7_untell_34 : decode cX7_untell 34 = .ok (.istore_n 3, 1) := by decide +kernel
theorem dX7_untell_35 : decode cX7_untell 35 = .ok (.aload_n 2, 1) := by decide +kernel
theorem dX7_untell_36 : decode cX7_untell 36 = .ok (.iconst 0, 1) := by decide +kernel
theorem dX7_untell_37 : decode cX7_untell 37 = .ok (.putfield 177, 3) := by decide +kernel
theorem dX7_untell_40 : decode cX7_untell 40 = .ok (.iload_n 3, 1) := by decide +kernel
theorem dX7_untell_41 : decode cX7_untell 41 = .ok (.ireturn, 1) := by decide +kernel
theorem dX7_law_0 : decode cX7_law 0 = .ok (.iload_n 1, 1) := by decide +kernel
theorem dX7_law_1 : decode cX7_law 1 = .ok (.invokestatic 156, 3) := by decide +kernel
theorem dX7_law_4 : decode cX7_law 4 = .ok (.ifCond .ne 9, 3) := by decide +kernel
theorem dX7_law_7 : decode cX7_law 7 = .ok (.aload_n 0, 1) := by decide +kernel
theorem dX7_law_8 : decode cX7_law 8 = .ok (.iconst 1, 1) := by decide +kernel
theorem dX7_law_9 : decode cX7_law 9 = .ok (.invokevirtual 55, 3) := by decide +kernel
theorem dX7_law_12 : decode cX7_law 12 = .ok (.ireturn, 1) := by decide +kernel
theorem dX7_law_13 : decode cX7_law 13 = .ok (.aload_n 0, 1) := by decide +kernel
theorem dX7_law_14 : decode cX7_law 14 = .ok (.getfield 10, 3) := by decide +kernel
theorem dX7_law_17 : decode cX7_law 17 = .ok (.iload_n 1, 1) := by decide +kernel
theorem dX7_law_18 : decode cX7_law 18 = .ok (.iload_n 2, 1) := by decide +kernel
theorem dX7_law_19 : decode cX7_law 19 = .ok (.iload_n 3, 1) := by decide +kernel
theorem dX7_law_20 : decode cX7_law 20 = .ok (.iload 4, 2) := by decide +kernel
theorem dX7_law_22 : decode cX7_law 22 = .ok (.invokevirtual 181, 3) := by decide +kernel
theorem dX7_law_25 : decode cX7_law 25 = .ok (.ireturn, 1) := by decide +kernel
theorem dX7_margin_0 : decode cX7_margin 0 = .ok (.aload_n 0, 1) := by decide +kernel
theorem dX7_margin_1 : decode cX7_margin 1 = .ok (.iload_n 1, 1) := by decide +kernel
theorem dX7_margin_2 : decode cX7_margin 2 = .ok (.invokevirtual 109, 3) := by decide +kernel
theorem dX7_margin_5 : decode cX7_margin 5 = .ok (.ifCond .eq 18, 3) := by decide +kernel
theorem dX7_margin_8 : decode cX7_margin 8 = .ok (.aload_n 0, 1) := by decide +kernel
theorem dX7_margin_9 : decode cX7_margin 9 = .ok (.iload_n 2, 1) := by decide +kernel
theorem dX7_margin_10 : decode cX7_margin 10 = .ok (.invokevirtual 72, 3) := by decide +kernel
theorem dX7_margin_13 : decode cX7_margin 13 = .ok (.ifCond .eq 10, 3) := by decide +kernel
theorem dX7_margin_16 : decode cX7_margin 16 = .ok (.iload_n 3, 1) := by decide +kernel
theorem dX7_margin_17 : decode cX7_margin 17 = .ok (.invokestatic 133, 3) := by decide +kernel
theorem dX7_margin_20 : decode cX7_margin 20 = .ok (.ifCond .ne 9, 3) := by decide +kernel
theorem dX7_margin_23 : decode cX7_margin 23 = .ok (.aload_n 0, 1) := by decide +kernel
theorem dX7_margin_24 : decode cX7_margin 24 = .ok (.iconst 1, 1) := by decide +kernel
theorem dX7_margin_25 : decode cX7_margin 25 = .ok (.invokevirtual 55, 3) := by decide +kernel
theorem dX7_margin_28 : decode cX7_margin 28 = .ok (.ireturn, 1) := by decide +kernel
theorem dX7_margin_29 : decode cX7_margin 29 = .ok (.aload_n 0, 1) := by decide +kernel
theorem dX7_margin_30 : decode cX7_margin 30 = .ok (.getfield 10, 3) := by decide +kernel
theorem dX7_margin_33 : decode cX7_margin 33 = .ok (.iload_n 1, 1) := by decide +kernel
theorem dX7_margin_34 : decode cX7_margin 34 = .ok (.iload_n 2, 1) := by decide +kernel
theorem dX7_margin_35 : decode cX7_margin 35 = .ok (.iload_n 3, 1) := by decide +kernel
theorem dX7_margin_36 : decode cX7_margin 36 = .ok (.invokevirtual 185, 3) := by decide +kernel
theorem dX7_margin_39 : decode cX7_margin 39 = .ok (.ireturn, 1) := by decide +kernel
theorem dX7_leadFor_0 : decode cX7_leadFor 0 = .ok (.aload_n 0, 1) := by decide +kernel
theorem dX7_leadFor_1 : decode cX7_leadFor 1 = .ok (.iload_n 1, 1) := by decide +kernel
theorem dX7_leadFor_2 : decode cX7_leadFor 2 = .ok (.invokevirtual 109, 3) := by decide +kernel
theorem dX7_leadFor_5 : decode cX7_leadFor 5 = .ok (.ifCond .eq 11, 3) := by decide +kernel
theorem dX7_leadFor_8 : decode cX7_leadFor 8 = .ok (.aload_n 0, 1) := by decide +kernel
theorem dX7_leadFor_9 : decode cX7_leadFor 9 = .ok (.iload_n 2, 1) := by decide +kernel
theorem dX7_leadFor_10 : decode cX7_leadFor 10 = .ok (.invokevirtual 72, 3) := by decide +kernel
theorem dX7_leadFor_13 : decode cX7_leadFor 13 = .ok (.ifCond .ne 9, 3) := by decide +kernel
theorem dX7_leadFor_16 : decode cX7_leadFor 16 = .ok (.aload_n 0, 1) := by decide +kernel
theorem dX7_leadFor_17 : decode cX7_leadFor 17 = .ok (.iconst 1, 1) := by decide +kernel
theorem dX7_leadFor_18 : decode cX7_leadFor 18 = .ok (.invokevirtual 55, 3) := by decide +kernel
theorem dX7_leadFor_21 : decode cX7_leadFor 21 = .ok (.ireturn, 1) := by decide +kernel
theorem dX7_leadFor_22 : decode cX7_leadFor 22 = .ok (.iconst 0, 1) := by decide +kernel
theorem dX7_leadFor_23 : decode cX7_leadFor 23 = .ok (.istore_n 3, 1) := by decide +kernel
theorem dX7_leadFor_24 : decode cX7_leadFor 24 = .ok (.iload_n 3, 1) := by decide +kernel
theorem dX7_leadFor_25 : decode cX7_leadFor 25 = .ok (.bipush 20, 2) := by decide +kernel
theorem dX7_leadFor_27 : decode cX7_leadFor 27 = .ok (.if_icmp .gt 24, 3) := by decide +kernel
theorem dX7_leadFor_30 : decode cX7_leadFor 30 = .ok (.aload_n 0, 1) := by decide +kernel
theorem dX7_leadFor_31 : decode cX7_leadFor 31 = .ok (.getfield 10, 3) := by decide +kernel
theorem dX7_leadFor_34 : decode cX7_leadFor 34 = .ok (.iload_n 1, 1) := by decide +kernel
theorem dX7_leadFor_35 : decode cX7_leadFor 35 = .ok (.iload_n 2, 1) := by decide +kernel
theorem dX7_leadFor_36 : decode cX7_leadFor 36 = .ok (.iload_n 3, 1) := by decide +kernel
theorem dX7_leadFor_37 : decode cX7_leadFor 37 = .ok (.invokevirtual 185, 3) := by decide +kernel
theorem dX7_leadFor_40 : decode cX7_leadFor 40 = .ok (.ifCond .lt 5, 3) := by decide +kernel
theorem dX7_leadFor_43 : decode cX7_leadFor 43 = .ok (.iload_n 3, 1) := by decide +kernel
theorem dX7_leadFor_44 : decode cX7_leadFor 44 = .ok (.ireturn, 1) := by decide +kernel
theorem dX7_leadFor_45 : decode cX7_leadFor 45 = .ok (.iinc 3 1, 3) := by decide +kernel
theorem dX7_leadFor_48 : decode cX7_leadFor 48 = .ok (.goto (-24), 3) := by decide +kernel
theorem dX7_leadFor_51 : decode cX7_leadFor 51 = .ok (.aload_n 0, 1) := by decide +kernel
theorem dX7_leadFor_52 : decode cX7_leadFor 52 = .ok (.iconst 2, 1) := by decide +kernel
theorem dX7_leadFor_53 : decode cX7_leadFor 53 = .ok (.invokevirtual 55, 3) := by decide +kernel
theorem dX7_leadFor_56 : decode cX7_leadFor 56 = .ok (.ireturn, 1) := by decide +kernel
theorem dX7_bestLead_0 : decode cX7_bestLead 0 = .ok (.aload_n 0, 1) := by decide +kernel
theorem dX7_bestLead_1 : decode cX7_bestLead 1 = .ok (.iload_n 1, 1) := by decide +kernel
theorem dX7_bestLead_2 : decode cX7_bestLead 2 = .ok (.invokevirtual 109, 3) := by decide +kernel
theorem dX7_bestLead_5 : decode cX7_bestLead 5 = .ok (.ifCond .eq 12, 3) := by decide +kernel
theorem dX7_bestLead_8 : decode cX7_bestLead 8 = .ok (.iload_n 2, 1) := by decide +kernel
theorem dX7_bestLead_9 : decode cX7_bestLead 9 = .ok (.iconst 0, 1) := by decide +kernel
theorem dX7_bestLead_10 : decode cX7_bestLead 10 = .ok (.iconst 1, 1) := by decide +kernel
theorem dX7_bestLead_11 : decode cX7_bestLead 11 = .ok (.invokestatic 93, 3) := by decide +kernel
theorem dX7_bestLead_14 : decode cX7_bestLead 14 = .ok (.ifCond .ne 9, 3) := by decide +kernel
theorem dX7_bestLead_17 : decode cX7_bestLead 17 = .ok (.aload_n 0, 1) := by decide +kernel
theorem dX7_bestLead_18 : decode cX7_bestLead 18 = .ok (.iconst 1, 1) := by decide +kernel
theorem dX7_bestLead_19 : decode cX7_bestLead 19 = .ok (.invokevirtual 55, 3) := by decide +kernel
theorem dX7_bestLead_22 : decode cX7_bestLead 22 = .ok (.ireturn, 1) := by decide +kernel
theorem dX7_bestLead_23 : decode cX7_bestLead 23 = .ok (.iconst (-1), 1) := by decide +kernel
theorem dX7_bestLead_24 : decode cX7_bestLead 24 = .ok (.istore_n 3, 1) := by decide +kernel
theorem dX7_bestLead_25 : decode cX7_bestLead 25 = .ok (.iconst 0, 1) := by decide +kernel
theorem dX7_bestLead_26 : decode cX7_bestLead 26 = .ok (.istore 4, 2) := by decide +kernel
theorem dX7_bestLead_28 : decode cX7_bestLead 28 = .ok (.iconst 0, 1) := by decide +kernel
theorem dX7_bestLead_29 : decode cX7_bestLead 29 = .ok (.istore 5, 2) := by decide +kernel
theorem dX7_bestLead_31 : decode cX7_bestLead 31 = .ok (.iload 5, 2) := by decide +kernel
theorem dX7_bestLead_33 : decode cX7_bestLead 33 = .ok (.bipush 20, 2) := by decide +kernel
theorem dX7_bestLead_35 : decode cX7_bestLead 35 = .ok (.if_icmp .gt 52, 3) := by decide +kernel
theorem dX7_bestLead_38 : decode cX7_bestLead 38 = .ok (.aload_n 0, 1) := by decide +kernel
theorem dX7_bestLead_39 : decode cX7_bestLead 39 = .ok (.getfield 10, 3) := by decide +kernel
theorem dX7_bestLead_42 : decode cX7_bestLead 42 = .ok (.iload_n 1, 1) := by decide +kernel
theorem dX7_bestLead_43 : decode cX7_bestLead 43 = .ok (.iload 5, 2) := by decide +kernel
theorem dX7_bestLead_45 : decode cX7_bestLead 45 = .ok (.invokevirtual 130, 3) := by decide +kernel
theorem dX7_bestLead_48 : decode cX7_bestLead 48 = .ok (.ifCond .ne 33, 3) := by decide +kernel
theorem dX7_bestLead_51 : decode cX7_bestLead 51 = .ok (.aload_n 0, 1) := by decide +kernel
theorem dX7_bestLead_52 : decode cX7_bestLead 52 = .ok (.getfield 10, 3) := by decide +kernel
theorem dX7_bestLead_55 : decode cX7_bestLead 55 = .ok (.iload_n 1, 1) := by decide +kernel
theorem dX7_bestLead_56 : decode cX7_bestLead 56 = .ok (.iload 5, 2) := by decide +kernel
theorem dX7_bestLead_58 : decode cX7_bestLead 58 = .ok (.invokevirtual 189, 3) := by decide +kernel
theorem dX7_bestLead_61 : decode cX7_bestLead 61 = .ok (.istore 6, 2) := by decide +kernel
theorem dX7_bestLead_63 : decode cX7_bestLead 63 = .ok (.iload_n 3, 1) := by decide +kernel
theorem dX7_bestLead_64 : decode cX7_bestLead 64 = .ok (.ifCond .lt 10, 3) := by decide +kernel
theorem dX7_bestLead_67 : decode cX7_bestLead 67 = .ok (.iload 6, 2) := by decide +kernel
theorem dX7_bestLead_69 : decode cX7_bestLead 69 = .ok (.iload 4, 2) := by decide +kernel
theorem dX7_bestLead_71 : decode cX7_bestLead 71 = .ok (.if_icmp .le 10, 3) := by decide +kernel
theorem dX7_bestLead_74 : decode cX7_bestLead 74 = .ok (.iload 5, 2) := by decide +kernel
theorem dX7_bestLead_76 : decode cX7_bestLead 76 = .ok (.istore_n 3, 1) := by decide +kernel
theorem dX7_bestLead_77 : decode cX7_bestLead 77 = .ok (.iload 6, 2) := by decide +kernel
theorem dX7_bestLead_79 : decode cX7_bestLead 79 = .ok (.istore 4, 2) := by decide +kernel
theorem dX7_bestLead_81 : decode cX7_bestLead 81 = .ok (.iinc 5 1, 3) := by decide +kernel
theorem dX7_bestLead_84 : decode cX7_bestLead 84 = .ok (.goto (-53), 3) := by decide +kernel
theorem dX7_bestLead_87 : decode cX7_bestLead 87 = .ok (.iload_n 3, 1) := by decide +kernel
theorem dX7_bestLead_88 : decode cX7_bestLead 88 = .ok (.ifCond .ge 9, 3) := by decide +kernel
theorem dX7_bestLead_91 : decode cX7_bestLead 91 = .ok (.aload_n 0, 1) := by decide +kernel
theorem dX7_bestLead_92 : decode cX7_bestLead 92 = .ok (.iconst 2, 1) := by decide +kernel
theorem dX7_bestLead_93 : decode cX7_bestLead 93 = .ok (.invokevirtual 55, 3) := by decide +kernel
theorem dX7_bestLead_96 : decode cX7_bestLead 96 = .ok (.ireturn, 1) := by decide +kernel
theorem dX7_bestLead_97 : decode cX7_bestLead 97 = .ok (.iload_n 2, 1) := by decide +kernel
theorem dX7_bestLead_98 : decode cX7_bestLead 98 = .ok (.ifCond .ne 7, 3) := by decide +kernel
theorem dX7_bestLead_101 : decode cX7_bestLead 101 = .ok (.iload_n 3, 1) := by decide +kernel
theorem dX7_bestLead_102 : decode cX7_bestLead 102 = .ok (.goto 5, 3) := by decide +kernel
theorem dX7_bestLead_105 : decode cX7_bestLead 105 = .ok (.iload 4, 2) := by decide +kernel
theorem dX7_bestLead_107 : decode cX7_bestLead 107 = .ok (.ireturn, 1) := by decide +kernel
theorem dX7_odds_0 : decode cX7_odds 0 = .ok (.aload_n 0, 1) := by decide +kernel
theorem dX7_odds_1 : decode cX7_odds 1 = .ok (.iload_n 1, 1) := by decide +kernel
theorem dX7_odds_2 : decode cX7_odds 2 = .ok (.invokevirtual 109, 3) := by decide +kernel
theorem dX7_odds_5 : decode cX7_odds 5 = .ok (.ifCond .eq 12, 3) := by decide +kernel
theorem dX7_odds_8 : decode cX7_odds 8 = .ok (.iload_n 2, 1) := by decide +kernel
theorem dX7_odds_9 : decode cX7_odds 9 = .ok (.iconst 0, 1) := by decide +kernel
theorem dX7_odds_10 : decode cX7_odds 10 = .ok (.iconst 1, 1) := by decide +kernel
theorem dX7_odds_11 : decode cX7_odds 11 = .ok (.invokestatic 93, 3) := by decide +kernel
theorem dX7_odds_14 : decode cX7_odds 14 = .ok (.ifCond .ne 9, 3) := by decide +kernel
theorem dX7_odds_17 : decode cX7_odds 17 = .ok (.aload_n 0, 1) := by decide +kernel
theorem dX7_odds_18 : decode cX7_odds 18 = .ok (.iconst 1, 1) := by decide +kernel
theorem dX7_odds_19 : decode cX7_odds 19 = .ok (.invokevirtual 55, 3) := by decide +kernel
theorem dX7_odds_22 : decode cX7_odds 22 = .ok (.ireturn, 1) := by decide +kernel
theorem dX7_odds_23 : decode cX7_odds 23 = .ok (.aload_n 0, 1) := by decide +kernel
theorem dX7_odds_24 : decode cX7_odds 24 = .ok (.getfield 10, 3) := by decide +kernel
theorem dX7_odds_27 : decode cX7_odds 27 = .ok (.getfield 59, 3) := by decide +kernel
theorem dX7_odds_30 : decode cX7_odds 30 = .ok (.invokevirtual 192, 3) := by decide +kernel
theorem dX7_odds_33 : decode cX7_odds 33 = .ok (.istore_n 3, 1) := by decide +kernel
theorem dX7_odds_34 : decode cX7_odds 34 = .ok (.iload_n 3, 1) := by decide +kernel
theorem dX7_odds_35 : decode cX7_odds 35 = .ok (.ifCond .ne 9, 3) := by decide +kernel
theorem dX7_odds_38 : decode cX7_odds 38 = .ok (.aload_n 0, 1) := by decide +kernel
theorem dX7_odds_39 : decode cX7_odds 39 = .ok (.iconst 3, 1) := by decide +kernel
theorem dX7_odds_40 : decode cX7_odds 40 = .ok (.invokevirtual 55, 3) := by decide +kernel
theorem dX7_odds_43 : decode cX7_odds 43 = .ok (.ireturn, 1) := by decide +kernel
theorem dX7_odds_44 : decode cX7_odds 44 = .ok (.aload_n 0, 1) := by decide +kernel
theorem dX7_odds_45 : decode cX7_odds 45 = .ok (.getfield 10, 3) := by decide +kernel
theorem dX7_odds_48 : decode cX7_odds 48 = .ok (.iload_n 1, 1) := by decide +kernel
theorem dX7_odds_49 : decode cX7_odds 49 = .ok (.aload_n 0, 1) := by decide +kernel
theorem dX7_odds_50 : decode cX7_odds 50 = .ok (.getfield 10, 3) := by decide +kernel
theorem dX7_odds_53 : decode cX7_odds 53 = .ok (.getfield 101, 3) := by decide +kernel
theorem dX7_odds_56 : decode cX7_odds 56 = .ok (.getfield 112, 3) := by decide +kernel
theorem dX7_odds_59 : decode cX7_odds 59 = .ok (.iload_n 1, 1) := by decide +kernel
theorem dX7_odds_60 : decode cX7_odds 60 = .ok (.iaload, 1) := by decide +kernel
theorem dX7_odds_61 : decode cX7_odds 61 = .ok (.invokevirtual 196, 3) := by decide +kernel
theorem dX7_odds_64 : decode cX7_odds 64 = .ok (.iload_n 3, 1) := by decide +kernel
theorem dX7_odds_65 : decode cX7_odds 65 = .ok (.iload_n 2, 1) := by decide +kernel
theorem dX7_odds_66 : decode cX7_odds 66 = .ok (.invokestatic 199, 3) := by decide +kernel
theorem dX7_odds_69 : decode cX7_odds 69 = .ok (.ireturn, 1) := by decide +kernel
theorem dX7_go_0 : decode cX7_go 0 = .ok (.aload_n 0, 1) := by decide +kernel
theorem dX7_go_1 : decode cX7_go 1 = .ok (.iload_n 1, 1) := by decide +kernel
theorem dX7_go_2 : decode cX7_go 2 = .ok (.invokevirtual 109, 3) := by decide +kernel
theorem dX7_go_5 : decode cX7_go 5 = .ok (.ifCond .eq 12, 3) := by decide +kernel
theorem dX7_go_8 : decode cX7_go 8 = .ok (.iload_n 2, 1) := by decide +kernel
theorem dX7_go_9 : decode cX7_go 9 = .ok (.iconst 0, 1) := by decide +kernel
theorem dX7_go_10 : decode cX7_go 10 = .ok (.iconst 1, 1) := by decide +kernel
theorem dX7_go_11 : decode cX7_go 11 = .ok (.invokestatic 93, 3) := by decide +kernel
theorem dX7_go_14 : decode cX7_go 14 = .ok (.ifCond .ne 9, 3) := by decide +kernel
theorem dX7_go_17 : decode cX7_go 17 = .ok (.aload_n 0, 1) := by decide +kernel
theorem dX7_go_18 : decode cX7_go 18 = .ok (.iconst 1, 1) := by decide +kernel
theorem dX7_go_19 : decode cX7_go 19 = .ok (.invokevirtual 55, 3) := by decide +kernel
theorem dX7_go_22 : decode cX7_go 22 = .ok (.ireturn, 1) := by decide +kernel
theorem dX7_go_23 : decode cX7_go 23 = .ok (.aload_n 0, 1) := by decide +kernel
theorem dX7_go_24 : decode cX7_go 24 = .ok (.getfield 10, 3) := by decide +kernel
theorem dX7_go_27 : decode cX7_go 27 = .ok (.getfield 59, 3) := by decide +kernel
theorem dX7_go_30 : decode cX7_go 30 = .ok (.invokevirtual 192, 3) := by decide +kernel
theorem dX7_go_33 : decode cX7_go 33 = .ok (.istore_n 3, 1) := by decide +kernel
theorem dX7_go_34 : decode cX7_go 34 = .ok (.iload_n 3, 1) := by decide +kernel
theorem dX7_go_35 : decode cX7_go 35 = .ok (.ifCond .ne 9, 3) := by decide +kernel
theorem dX7_go_38 : decode cX7_go 38 = .ok (.aload_n 0, 1) := by decide +kernel
theorem dX7_go_39 : decode cX7_go 39 = .ok (.iconst 3, 1) := by decide +kernel
theorem dX7_go_40 : decode cX7_go 40 = .ok (.invokevirtual 55, 3) := by decide +kernel
theorem dX7_go_43 : decode cX7_go 43 = .ok (.ireturn, 1) := by decide +kernel
theorem dX7_go_44 : decode cX7_go 44 = .ok (.aload_n 0, 1) := by decide +kernel
theorem dX7_go_45 : decode cX7_go 45 = .ok (.getfield 10, 3) := by decide +kernel
theorem dX7_go_48 : decode cX7_go 48 = .ok (.iload_n 1, 1) := by decide +kernel
theorem dX7_go_49 : decode cX7_go 49 = .ok (.aload_n 0, 1) := by decide +kernel
theorem dX7_go_50 : decode cX7_go 50 = .ok (.getfield 10, 3) := by decide +kernel
theorem dX7_go_53 : decode cX7_go 53 = .ok (.getfield 101, 3) := by decide +kernel
theorem dX7_go_56 : decode cX7_go 56 = .ok (.getfield 112, 3) := by decide +kernel
theorem dX7_go_59 : decode cX7_go 59 = .ok (.iload_n 1, 1) := by decide +kernel
theorem dX7_go_60 : decode cX7_go 60 = .ok (.iaload, 1) := by decide +kernel
theorem dX7_go_61 : decode cX7_go 61 = .ok (.invokevirtual 189, 3) := by decide +kernel
theorem dX7_go_64 : decode cX7_go 64 = .ok (.iload_n 3, 1) := by decide +kernel
theorem dX7_go_65 : decode cX7_go 65 = .ok (.iload_n 2, 1) := by decide +kernel
theorem dX7_go_66 : decode cX7_go 66 = .ok (.invokestatic 199, 3) := by decide +kernel
theorem dX7_go_69 : decode cX7_go 69 = .ok (.ireturn, 1) := by decide +kernel
theorem dX7_duel_0 : decode cX7_duel 0 = .ok (.aload_n 0, 1) := by decide +kernel
theorem dX7_duel_1 : decode cX7_duel 1 = .ok (.iload_n 1, 1) := by decide +kernel
theorem dX7_duel_2 : decode cX7_duel 2 = .ok (.invokevirtual 109, 3) := by decide +kernel
theorem dX7_duel_5 : decode cX7_duel 5 = .ok (.ifCond .eq 29, 3) := by decide +kernel
theorem dX7_duel_8 : decode cX7_duel 8 = .ok (.aload_n 0, 1) := by decide +kernel
theorem dX7_duel_9 : decode cX7_duel 9 = .ok (.iload_n 2, 1) := by decide +kernel
theorem dX7_duel_10 : decode cX7_duel 10 = .ok (.invokevirtual 72, 3) := by decide +kernel
theorem dX7_duel_13 : decode cX7_duel 13 = .ok (.ifCond .eq 21, 3) := by decide +kernel
theorem dX7_duel_16 : decode cX7_duel 16 = .ok (.aload_n 0, 1) := by decide +kernel
theorem dX7_duel_17 : decode cX7_duel 17 = .ok (.iload_n 3, 1) := by decide +kernel
theorem dX7_duel_18 : decode cX7_duel 18 = .ok (.invokevirtual 72, 3) := by decide +kernel
theorem dX7_duel_21 : decode cX7_duel 21 = .ok (.ifCond .eq 13, 3) := by decide +kernel
theorem dX7_duel_24 : decode cX7_duel 24 = .ok (.iload 4, 2) := by decide +kernel
theorem dX7_duel_26 : decode cX7_duel 26 = .ok (.iconst 0, 1) := by decide +kernel
theorem dX7_duel_27 : decode cX7_duel 27 = .ok (.iconst 1, 1) := by decide +kernel
theorem dX7_duel_28 : decode cX7_duel 28 = .ok (.invokestatic 93, 3) := by decide +kernel
theorem dX7_duel_31 : decode cX7_duel 31 = .ok (.ifCond .ne 9, 3) := by decide +kernel
theorem dX7_duel_34 : decode cX7_duel 34 = .ok (.aload_n 0, 1) := by decide +kernel
theorem dX7_duel_35 : decode cX7_duel 35 = .ok (.iconst 1, 1) := by decide +kernel
theorem dX7_duel_36 : decode cX7_duel 36 = .ok (.invokevirtual 55, 3) := by decide +kernel
theorem dX7_duel_39 : decode cX7_duel 39 = .ok (.ireturn, 1) := by decide +kernel
theorem dX7_duel_40 : decode cX7_duel 40 = .ok (.aload_n 0, 1) := by decide +kernel
theorem dX7_duel_41 : decode cX7_duel 41 = .ok (.getfield 10, 3) := by decide +kernel
theorem dX7_duel_44 : decode cX7_duel 44 = .ok (.getfield 101, 3) := by decide +kernel
theorem dX7_duel_47 : decode cX7_duel 47 = .ok (.getfield 112, 3) := by decide +kernel
theorem dX7_duel_50 : decode cX7_duel 50 = .ok (.iload_n 1, 1) := by decide +kernel
theorem dX7_duel_51 : decode cX7_duel 51 = .ok (.iaload, 1) := by decide +kernel
theorem dX7_duel_52 : decode cX7_duel 52 = .ok (.istore 5, 2) := by decide +kernel
theorem dX7_duel_54 : decode cX7_duel 54 = .ok (.aload_n 0, 1) := by decide +kernel
theorem dX7_duel_55 : decode cX7_duel 55 = .ok (.getfield 10, 3) := by decide +kernel
theorem dX7_duel_58 : decode cX7_duel 58 = .ok (.iload_n 1, 1) := by decide +kernel
theorem dX7_duel_59 : decode cX7_duel 59 = .ok (.iload_n 2, 1) := by decide +kernel
theorem dX7_duel_60 : decode cX7_duel 60 = .ok (.iload 5, 2) := by decide +kernel
theorem dX7_duel_62 : decode cX7_duel 62 = .ok (.invokevirtual 202, 3) := by decide +kernel
theorem dX7_duel_65 : decode cX7_duel 65 = .ok (.istore 6, 2) := by decide +kernel
theorem dX7_duel_67 : decode cX7_duel 67 = .ok (.aload_n 0, 1) := by decide +kernel
theorem dX7_duel_68 : decode cX7_duel 68 = .ok (.getfield 10, 3) := by decide +kernel
theorem dX7_duel_71 : decode cX7_duel 71 = .ok (.iload_n 1, 1) := by decide +kernel
theorem dX7_duel_72 : decode cX7_duel 72 = .ok (.iload_n 3, 1) := by decide +kernel
theorem dX7_duel_73 : decode cX7_duel 73 = .ok (.iload 5, 2) := by decide +kernel
theorem dX7_duel_75 : decode cX7_duel 75 = .ok (.invokevirtual 202, 3) := by decide +kernel
theorem dX7_duel_78 : decode cX7_duel 78 = .ok (.istore 7, 2) := by decide +kernel
theorem dX7_duel_80 : decode cX7_duel 80 = .ok (.aload_n 0, 1) := by decide +kernel
theorem dX7_duel_81 : decode cX7_duel 81 = .ok (.getfield 10, 3) := by decide +kernel
theorem dX7_duel_84 : decode cX7_duel 84 = .ok (.iload_n 2, 1) := by decide +kernel
theorem dX7_duel_85 : decode cX7_duel 85 = .ok (.invokevirtual 90, 3) := by decide +kernel
theorem dX7_duel_88 : decode cX7_duel 88 = .ok (.istore 8, 2) := by decide +kernel
theorem dX7_duel_90 : decode cX7_duel 90 = .ok (.aload_n 0, 1) := by decide +kernel
theorem dX7_duel_91 : decode cX7_duel 91 = .ok (.getfield 10, 3) := by decide +kernel
theorem dX7_duel_94 : decode cX7_duel 94 = .ok (.iload_n 3, 1) := by decide +kernel
theorem dX7_duel_95 : decode cX7_duel 95 = .ok (.invokevirtual 90, 3) := by decide +kernel
theorem dX7_duel_98 : decode cX7_duel 98 = .ok (.istore 9, 2) := by decide +kernel
theorem dX7_duel_100 : decode cX7_duel 100 = .ok (.iload 6, 2) := by decide +kernel
theorem dX7_duel_102 : decode cX7_duel 102 = .ok (.iload 7, 2) := by decide +kernel
theorem dX7_duel_104 : decode cX7_duel 104 = .ok (.invokestatic 205, 3) := by decide +kernel
theorem dX7_duel_107 : decode cX7_duel 107 = .ok (.iload 8, 2) := by decide +kernel
theorem dX7_duel_109 : decode cX7_duel 109 = .ok (.iload 9, 2) := by decide +kernel
theorem dX7_duel_111 : decode cX7_duel 111 = .ok (.invokestatic 205, 3) := by decide +kernel
theorem dX7_duel_114 : decode cX7_duel 114 = .ok (.invokestatic 210, 3) := by decide +kernel
theorem dX7_duel_117 : decode cX7_duel 117 = .ok (.istore 10, 2) := by decide +kernel
theorem dX7_duel_119 : decode cX7_duel 119 = .ok (.iload 6, 2) := by decide +kernel
theorem dX7_duel_121 : decode cX7_duel 121 = .ok (.iload 8, 2) := by decide +kernel
theorem dX7_duel_123 : decode cX7_duel 123 = .ok (.invokestatic 210, 3) := by decide +kernel
theorem dX7_duel_126 : decode cX7_duel 126 = .ok (.iload 7, 2) := by decide +kernel
theorem dX7_duel_128 : decode cX7_duel 128 = .ok (.iload 9, 2) := by decide +kernel
theorem dX7_duel_130 : decode cX7_duel 130 = .ok (.invokestatic 210, 3) := by decide +kernel
theorem dX7_duel_133 : decode cX7_duel 133 = .ok (.invokestatic 205, 3) := by decide +kernel
theorem dX7_duel_136 : decode cX7_duel 136 = .ok (.istore 11, 2) := by decide +kernel
theorem dX7_duel_138 : decode cX7_duel 138 = .ok (.iload 10, 2) := by decide +kernel
theorem dX7_duel_140 : decode cX7_duel 140 = .ok (.iload 11, 2) := by decide +kernel
theorem dX7_duel_142 : decode cX7_duel 142 = .ok (.if_icmp .ne 12, 3) := by decide +kernel
theorem dX7_duel_145 : decode cX7_duel 145 = .ok (.iload 10, 2) := by decide +kernel
theorem dX7_duel_147 : decode cX7_duel 147 = .ok (.iconst 1, 1) := by decide +kernel
theorem dX7_duel_148 : decode cX7_duel 148 = .ok (.iload 4, 2) := by decide +kernel
theorem dX7_duel_150 : decode cX7_duel 150 = .ok (.invokestatic 199, 3) := by decide +kernel
theorem dX7_duel_153 : decode cX7_duel 153 = .ok (.ireturn, 1) := by decide +kernel
theorem dX7_duel_154 : decode cX7_duel 154 = .ok (.iload 6, 2) := by decide +kernel
theorem dX7_duel_156 : decode cX7_duel 156 = .ok (.iload 9, 2) := by decide +kernel
theorem dX7_duel_158 : decode cX7_duel 158 = .ok (.imul, 1) := by decide +kernel
theorem dX7_duel_159 : decode cX7_duel 159 = .ok (.iload 7, 2) := by decide +kernel
theorem dX7_duel_161 : decode cX7_duel 161 = .ok (.iload 8, 2) := by decide +kernel
theorem dX7_duel_163 : decode cX7_duel 163 = .ok (.imul, 1) := by decide +kernel
theorem dX7_duel_164 : decode cX7_duel 164 = .ok (.isub, 1) := by decide +kernel
theorem dX7_duel_165 : decode cX7_duel 165 = .ok (.iload 6, 2) := by decide +kernel
theorem dX7_duel_167 : decode cX7_duel 167 = .ok (.iload 9, 2) := by decide +kernel
theorem dX7_duel_169 : decode cX7_duel 169 = .ok (.iadd, 1) := by decide +kernel
theorem dX7_duel_170 : decode cX7_duel 170 = .ok (.iload 7, 2) := by decide +kernel
theorem dX7_duel_172 : decode cX7_duel 172 = .ok (.isub, 1) := by decide +kernel
theorem dX7_duel_173 : decode cX7_duel 173 = .ok (.iload 8, 2) := by decide +kernel
theorem dX7_duel_175 : decode cX7_duel 175 = .ok (.isub, 1) := by decide +kernel
theorem dX7_duel_176 : decode cX7_duel 176 = .ok (.iload 4, 2) := by decide +kernel
theorem dX7_duel_178 : decode cX7_duel 178 = .ok (.invokestatic 199, 3) := by decide +kernel
theorem dX7_duel_181 : decode cX7_duel 181 = .ok (.ireturn, 1) := by decide +kernel
theorem dX7_surely_0 : decode cX7_surely 0 = .ok (.aload_n 0, 1) := by decide +kernel
theorem dX7_surely_1 : decode cX7_surely 1 = .ok (.iload_n 1, 1) := by decide +kernel
theorem dX7_surely_2 : decode cX7_surely 2 = .ok (.invokevirtual 109, 3) := by decide +kernel
theorem dX7_surely_5 : decode cX7_surely 5 = .ok (.ifCond .eq 12, 3) := by decide +kernel
theorem dX7_surely_8 : decode cX7_surely 8 = .ok (.iload_n 2, 1) := by decide +kernel
theorem dX7_surely_9 : decode cX7_surely 9 = .ok (.iconst 0, 1) := by decide +kernel
theorem dX7_surely_10 : decode cX7_surely 10 = .ok (.iconst 1, 1) := by decide +kernel
theorem dX7_surely_11 : decode cX7_surely 11 = .ok (.invokestatic 93, 3) := by decide +kernel
theorem dX7_surely_14 : decode cX7_surely 14 = .ok (.ifCond .ne 9, 3) := by decide +kernel
theorem dX7_surely_17 : decode cX7_surely 17 = .ok (.aload_n 0, 1) := by decide +kernel
theorem dX7_surely_18 : decode cX7_surely 18 = .ok (.iconst 1, 1) := by decide +kernel
theorem dX7_surely_19 : decode cX7_surely 19 = .ok (.invokevirtual 55, 3) := by decide +kernel
theorem dX7_surely_22 : decode cX7_surely 22 = .ok (.ireturn, 1) := by decide +kernel
theorem dX7_surely_23 : decode cX7_surely 23 = .ok (.aload_n 0, 1) := by decide +kernel
theorem dX7_surely_24 : decode cX7_surely 24 = .ok (.getfield 10, 3) := by decide +kernel
theorem dX7_surely_27 : decode cX7_surely 27 = .ok (.iload_n 1, 1) := by decide +kernel
theorem dX7_surely_28 : decode cX7_surely 28 = .ok (.aload_n 0, 1) := by decide +kernel
theorem dX7_surely_29 : decode cX7_surely 29 = .ok (.getfield 10, 3) := by decide +kernel
theorem dX7_surely_32 : decode cX7_surely 32 = .ok (.getfield 101, 3) := by decide +kernel
theorem dX7_surely_35 : decode cX7_surely 35 = .ok (.getfield 112, 3) := by decide +kernel
theorem dX7_surely_38 : decode cX7_surely 38 = .ok (.iload_n 1, 1) := by decide +kernel
theorem dX7_surely_39 : decode cX7_surely 39 = .ok (.iaload, 1) := by decide +kernel
theorem dX7_surely_40 : decode cX7_surely 40 = .ok (.invokevirtual 213, 3) := by decide +kernel
theorem dX7_surely_43 : decode cX7_surely 43 = .ok (.istore_n 3, 1) := by decide +kernel
theorem dX7_surely_44 : decode cX7_surely 44 = .ok (.iload_n 2, 1) := by decide +kernel
theorem dX7_surely_45 : decode cX7_surely 45 = .ok (.ifCond .ne 7, 3) := by decide +kernel
theorem dX7_surely_48 : decode cX7_surely 48 = .ok (.iload_n 3, 1) := by decide +kernel
theorem dX7_surely_49 : decode cX7_surely 49 = .ok (.goto 7, 3) := by decide +kernel
theorem dX7_surely_52 : decode cX7_surely 52 = .ok (.iload_n 3, 1) := by decide +kernel
theorem dX7_surely_53 : decode cX7_surely 53 = .ok (.invokestatic 216, 3) := by decide +kernel
theorem dX7_surely_56 : decode cX7_surely 56 = .ok (.ireturn, 1) := by decide +kernel
theorem dX7_fits_0 : decode cX7_fits 0 = .ok (.iload_n 1, 1) := by decide +kernel
theorem dX7_fits_1 : decode cX7_fits 1 = .ok (.invokestatic 221, 3) := by decide +kernel
theorem dX7_fits_4 : decode cX7_fits 4 = .ok (.ifCond .eq 20, 3) := by decide +kernel
theorem dX7_fits_7 : decode cX7_fits 7 = .ok (.aload_n 0, 1) := by decide +kernel
theorem dX7_fits_8 : decode cX7_fits 8 = .ok (.iload_n 2, 1) := by decide +kernel
theorem dX7_fits_9 : decode cX7_fits 9 = .ok (.invokevirtual 109, 3) := by decide +kernel
theorem dX7_fits_12 : decode cX7_fits 12 = .ok (.ifCond .eq 12, 3) := by decide +kernel
theorem dX7_fits_15 : decode cX7_fits 15 = .ok (.iload_n 3, 1) := by decide +kernel
theorem dX7_fits_16 : decode cX7_fits 16 = .ok (.iconst 0, 1) := by decide +kernel
theorem dX7_fits_17 : decode cX7_fits 17 = .ok (.iconst 1, 1) := by decide +kernel
theorem dX7_fits_18 : decode cX7_fits 18 = .ok (.invokestatic 93, 3) := by decide +kernel
theorem dX7_fits_21 : decode cX7_fits 21 = .ok (.ifCond .ne 9, 3) := by decide +kernel
theorem dX7_fits_24 : decode cX7_fits 24 = .ok (.aload_n 0, 1) := by decide +kernel
theorem dX7_fits_25 : decode cX7_fits 25 = .ok (.iconst 1, 1) := by decide +kernel
theorem dX7_fits_26 : decode cX7_fits 26 = .ok (.invokevirtual 55, 3) := by decide +kernel
theorem dX7_fits_29 : decode cX7_fits 29 = .ok (.ireturn, 1) := by decide +kernel
theorem dX7_fits_30 : decode cX7_fits 30 = .ok (.aload_n 0, 1) := by decide +kernel
theorem dX7_fits_31 : decode cX7_fits 31 = .ok (.getfield 29, 3) := by decide +kernel
theorem dX7_fits_34 : decode cX7_fits 34 = .ok (.iload_n 1, 1) := by decide +kernel
theorem dX7_fits_35 : decode cX7_fits 35 = .ok (.invokevirtual 224, 3) := by decide +kernel
theorem dX7_fits_38 : decode cX7_fits 38 = .ok (.ifCond .eq 9, 3) := by decide +kernel
theorem dX7_fits_41 : decode cX7_fits 41 = .ok (.aload_n 0, 1) := by decide +kernel
theorem dX7_fits_42 : decode cX7_fits 42 = .ok (.iconst 2, 1) := by decide +kernel
theorem dX7_fits_43 : decode cX7_fits 43 = .ok (.invokevirtual 55, 3) := by decide +kernel
theorem dX7_fits_46 : decode cX7_fits 46 = .ok (.ireturn, 1) := by decide +kernel
theorem dX7_fits_47 : decode cX7_fits 47 = .ok (.iconst 0, 1) := by decide +kernel
theorem dX7_fits_48 : decode cX7_fits 48 = .ok (.istore 4, 2) := by decide +kernel
theorem dX7_fits_50 : decode cX7_fits 50 = .ok (.iconst (-1), 1) := by decide +kernel
theorem dX7_fits_51 : decode cX7_fits 51 = .ok (.istore 5, 2) := by decide +kernel
theorem dX7_fits_53 : decode cX7_fits 53 = .ok (.iconst 0, 1) := by decide +kernel
theorem dX7_fits_54 : decode cX7_fits 54 = .ok (.istore 6, 2) := by decide +kernel
theorem dX7_fits_56 : decode cX7_fits 56 = .ok (.iload 6, 2) := by decide +kernel
theorem dX7_fits_58 : decode cX7_fits 58 = .ok (.bipush 20, 2) := by decide +kernel
theorem dX7_fits_60 : decode cX7_fits 60 = .ok (.if_icmp .gt 32, 3) := by decide +kernel
theorem dX7_fits_63 : decode cX7_fits 63 = .ok (.aload_n 0, 1) := by decide +kernel
theorem dX7_fits_64 : decode cX7_fits 64 = .ok (.iload_n 1, 1) := by decide +kernel
theorem dX7_fits_65 : decode cX7_fits 65 = .ok (.iload_n 2, 1) := by decide +kernel
theorem dX7_fits_66 : decode cX7_fits 66 = .ok (.iload 6, 2) := by decide +kernel
theorem dX7_fits_68 : decode cX7_fits 68 = .ok (.invokevirtual 227, 3) := by decide +kernel
theorem dX7_fits_71 : decode cX7_fits 71 = .ok (.ifCond .eq 15, 3) := by decide +kernel
theorem dX7_fits_74 : decode cX7_fits 74 = .ok (.iinc 4 1, 3) := by decide +kernel
theorem dX7_fits_77 : decode cX7_fits 77 = .ok (.iload 5, 2) := by decide +kernel
theorem dX7_fits_79 : decode cX7_fits 79 = .ok (.ifCond .ge 7, 3) := by decide +kernel
theorem dX7_fits_82 : decode cX7_fits 82 = .ok (.iload 6, 2) := by decide +kernel
theorem dX7_fits_84 : decode cX7_fits 84 = .ok (.istore 5, 2) := by decide +kernel
theorem dX7_fits_86 : decode cX7_fits 86 = .ok (.iinc 6 1, 3) := by decide +kernel
theorem dX7_fits_89 : decode cX7_fits 89 = .ok (.goto (-33), 3) := by decide +kernel
theorem dX7_fits_92 : decode cX7_fits 92 = .ok (.iload_n 3, 1) := by decide +kernel
theorem dX7_fits_93 : decode cX7_fits 93 = .ok (.ifCond .ne 6, 3) := by decide +kernel
theorem dX7_fits_96 : decode cX7_fits 96 = .ok (.iload 4, 2) := by decide +kernel
theorem dX7_fits_98 : decode cX7_fits 98 = .ok (.ireturn, 1) := by decide +kernel
theorem dX7_fits_99 : decode cX7_fits 99 = .ok (.iload 5, 2) := by decide +kernel
theorem dX7_fits_101 : decode cX7_fits 101 = .ok (.ifCond .ge 11, 3) := by decide +kernel
theorem dX7_fits_104 : decode cX7_fits 104 = .ok (.aload_n 0, 1) := by decide +kernel
theorem dX7_fits_105 : decode cX7_fits 105 = .ok (.iconst 2, 1) := by decide +kernel
theorem dX7_fits_106 : decode cX7_fits 106 = .ok (.invokevirtual 55, 3) := by decide +kernel
theorem dX7_fits_109 : decode cX7_fits 109 = .ok (.goto 5, 3) := by decide +kernel
theorem dX7_fits_112 : decode cX7_fits 112 = .ok (.iload 5, 2) := by decide +kernel
theorem dX7_fits_114 : decode cX7_fits 114 = .ok (.ireturn, 1) := by decide +kernel
theorem dX7_loose_0 : decode cX7_loose 0 = .ok (.iload_n 1, 1) := by decide +kernel
theorem dX7_loose_1 : decode cX7_loose 1 = .ok (.iconst 1, 1) := by decide +kernel
theorem dX7_loose_2 : decode cX7_loose 2 = .ok (.bipush 30, 2) := by decide +kernel
theorem dX7_loose_4 : decode cX7_loose 4 = .ok (.invokestatic 93, 3) := by decide +kernel
theorem dX7_loose_7 : decode cX7_loose 7 = .ok (.ifCond .ne 9, 3) := by decide +kernel
theorem dX7_loose_10 : decode cX7_loose 10 = .ok (.aload_n 0, 1) := by decide +kernel
theorem dX7_loose_11 : decode cX7_loose 11 = .ok (.iconst 1, 1) := by decide +kernel
theorem dX7_loose_12 : decode cX7_loose 12 = .ok (.invokevirtual 55, 3) := by decide +kernel
theorem dX7_loose_15 : decode cX7_loose 15 = .ok (.ireturn, 1) := by decide +kernel
theorem dX7_loose_16 : decode cX7_loose 16 = .ok (.iconst 0, 1) := by decide +kernel
theorem dX7_loose_17 : decode cX7_loose 17 = .ok (.istore_n 2, 1) := by decide +kernel
theorem dX7_loose_18 : decode cX7_loose 18 = .ok (.iconst 0, 1) := by decide +kernel
theorem dX7_loose_19 : decode cX7_loose 19 = .ok (.istore_n 3, 1) := by decide +kernel
theorem dX7_loose_20 : decode cX7_loose 20 = .ok (.iload_n 3, 1) := by decide +kernel
theorem dX7_loose_21 : decode cX7_loose 21 = .ok (.iload_n 1, 1) := by decide +kernel
theorem dX7_loose_22 : decode cX7_loose 22 = .ok (.if_icmp .ge 22, 3) := by decide +kernel
theorem dX7_loose_25 : decode cX7_loose 25 = .ok (.aload_n 0, 1) := by decide +kernel
theorem dX7_loose_26 : decode cX7_loose 26 = .ok (.getfield 10, 3) := by decide +kernel
theorem dX7_loose_29 : decode cX7_loose 29 = .ok (.invokevirtual 230, 3) := by decide +kernel
theorem dX7_loose_32 : decode cX7_loose 32 = .ok (.ifCond .eq 6, 3) := by decide +kernel
theorem dX7_loose_35 : decode cX7_loose 35 = .ok (.iinc 2 1, 3) := by decide +kernel
theorem dX7_loose_38 : decode cX7_loose 38 = .ok (.iinc 3 1, 3) := by decide +kernel
theorem dX7_loose_41 : decode cX7_loose 41 = .ok (.goto (-21), 3) := by decide +kernel
theorem dX7_loose_44 : decode cX7_loose 44 = .ok (.iload_n 2, 1) := by decide +kernel
theorem dX7_loose_45 : decode cX7_loose 45 = .ok (.ireturn, 1) := by decide +kernel
theorem dX7_seed_0 : decode cX7_seed 0 = .ok (.aload_n 0, 1) := by decide +kernel
theorem dX7_seed_1 : decode cX7_seed 1 = .ok (.getfield 10, 3) := by decide +kernel
theorem dX7_seed_4 : decode cX7_seed 4 = .ok (.getfield 234, 3) := by decide +kernel
theorem dX7_seed_7 : decode cX7_seed 7 = .ok (.istore_n 2, 1) := by decide +kernel
theorem dX7_seed_8 : decode cX7_seed 8 = .ok (.aload_n 0, 1) := by decide +kernel
theorem dX7_seed_9 : decode cX7_seed 9 = .ok (.getfield 10, 3) := by decide +kernel
theorem dX7_seed_12 : decode cX7_seed 12 = .ok (.iload_n 1, 1) := by decide +kernel
theorem dX7_seed_13 : decode cX7_seed 13 = .ok (.putfield 234, 3) := by decide +kernel
theorem dX7_seed_16 : decode cX7_seed 16 = .ok (.iload_n 2, 1) := by decide +kernel
theorem dX7_seed_17 : decode cX7_seed 17 = .ok (.ireturn, 1) := by decide +kernel
theorem dX7_voice_0 : decode cX7_voice 0 = .ok (.aload_n 0, 1) := by decide +kernel
theorem dX7_voice_1 : decode cX7_voice 1 = .ok (.iload_n 1, 1) := by decide +kernel
theorem dX7_voice_2 : decode cX7_voice 2 = .ok (.invokevirtual 72, 3) := by decide +kernel
theorem dX7_voice_5 : decode cX7_voice 5 = .ok (.ifCond .eq 12, 3) := by decide +kernel
theorem dX7_voice_8 : decode cX7_voice 8 = .ok (.iload_n 2, 1) := by decide +kernel
theorem dX7_voice_9 : decode cX7_voice 9 = .ok (.iconst 0, 1) := by decide +kernel
theorem dX7_voice_10 : decode cX7_voice 10 = .ok (.iconst 3, 1) := by decide +kernel
theorem dX7_voice_11 : decode cX7_voice 11 = .ok (.invokestatic 93, 3) := by decide +kernel
theorem dX7_voice_14 : decode cX7_voice 14 = .ok (.ifCond .ne 9, 3) := by decide +kernel
theorem dX7_voice_17 : decode cX7_voice 17 = .ok (.aload_n 0, 1) := by decide +kernel
theorem dX7_voice_18 : decode cX7_voice 18 = .ok (.iconst 1, 1) := by decide +kernel
theorem dX7_voice_19 : decode cX7_voice 19 = .ok (.invokevirtual 55, 3) := by decide +kernel
theorem dX7_voice_22 : decode cX7_voice 22 = .ok (.ireturn, 1) := by decide +kernel
theorem dX7_voice_23 : decode cX7_voice 23 = .ok (.aload_n 0, 1) := by decide +kernel
theorem dX7_voice_24 : decode cX7_voice 24 = .ok (.getfield 36, 3) := by decide +kernel
theorem dX7_voice_27 : decode cX7_voice 27 = .ok (.iload_n 1, 1) := by decide +kernel
theorem dX7_voice_28 : decode cX7_voice 28 = .ok (.aload_n 0, 1) := by decide +kernel
theorem dX7_voice_29 : decode cX7_voice 29 = .ok (.getfield 10, 3) := by decide +kernel
theorem dX7_voice_32 : decode cX7_voice 32 = .ok (.getfield 59, 3) := by decide +kernel
theorem dX7_voice_35 : decode cX7_voice 35 = .ok (.getfield 75, 3) := by decide +kernel
theorem dX7_voice_38 : decode cX7_voice 38 = .ok (.iload_n 1, 1) := by decide +kernel
theorem dX7_voice_39 : decode cX7_voice 39 = .ok (.iaload, 1) := by decide +kernel
theorem dX7_voice_40 : decode cX7_voice 40 = .ok (.aload_n 0, 1) := by decide +kernel
theorem dX7_voice_41 : decode cX7_voice 41 = .ok (.getfield 10, 3) := by decide +kernel
theorem dX7_voice_44 : decode cX7_voice 44 = .ok (.getfield 59, 3) := by decide +kernel
theorem dX7_voice_47 : decode cX7_voice 47 = .ok (.getfield 78, 3) := by decide +kernel
theorem dX7_voice_50 : decode cX7_voice 50 = .ok (.iload_n 1, 1) := by decide +kernel
theorem dX7_voice_51 : decode cX7_voice 51 = .ok (.iaload, 1) := by decide +kernel
theorem dX7_voice_52 : decode cX7_voice 52 = .ok (.iload_n 2, 1) := by decide +kernel
theorem dX7_voice_53 : decode cX7_voice 53 = .ok (.iload_n 3, 1) := by decide +kernel
theorem dX7_voice_54 : decode cX7_voice 54 = .ok (.invokevirtual 237, 3) := by decide +kernel
theorem dX7_voice_57 : decode cX7_voice 57 = .ok (.istore 4, 2) := by decide +kernel
theorem dX7_voice_59 : decode cX7_voice 59 = .ok (.aload_n 0, 1) := by decide +kernel
theorem dX7_voice_60 : decode cX7_voice 60 = .ok (.getfield 36, 3) := by decide +kernel
theorem dX7_voice_63 : decode cX7_voice 63 = .ok (.getfield 241, 3) := by decide +kernel
theorem dX7_voice_66 : decode cX7_voice 66 = .ok (.ifCond .eq 12, 3) := by decide +kernel
theorem dX7_voice_69 : decode cX7_voice 69 = .ok (.aload_n 0, 1) := by decide +kernel
theorem dX7_voice_70 : decode cX7_voice 70 = .ok (.bipush 6, 2) := by decide +kernel
theorem dX7_voice_72 : decode cX7_voice 72 = .ok (.invokevirtual 55, 3) := by decide +kernel
theorem dX7_voice_75 : decode cX7_voice 75 = .ok (.goto 5, 3) := by decide +kernel
theorem dX7_voice_78 : decode cX7_voice 78 = .ok (.iload 4, 2) := by decide +kernel
theorem dX7_voice_80 : decode cX7_voice 80 = .ok (.ireturn, 1) := by decide +kernel
theorem dX7_body_0 : decode cX7_body 0 = .ok (.iload_n 1, 1) := by decide +kernel
theorem dX7_body_1 : decode cX7_body 1 = .ok (.ifCond .lt 14, 3) := by decide +kernel
theorem dX7_body_4 : decode cX7_body 4 = .ok (.iload_n 1, 1) := by decide +kernel
theorem dX7_body_5 : decode cX7_body 5 = .ok (.aload_n 0, 1) := by decide +kernel
theorem dX7_body_6 : decode cX7_body 6 = .ok (.getfield 36, 3) := by decide +kernel
theorem dX7_body_9 : decode cX7_body 9 = .ok (.getfield 244, 3) := by decide +kernel
theorem dX7_body_12 : decode cX7_body 12 = .ok (.if_icmp .lt 9, 3) := by decide +kernel
theorem dX7_body_15 : decode cX7_body 15 = .ok (.aload_n 0, 1) := by decide +kernel
theorem dX7_body_16 : decode cX7_body 16 = .ok (.iconst 2, 1) := by decide +kernel
theorem dX7_body_17 : decode cX7_body 17 = .ok (.invokevirtual 55, 3) := by decide +kernel
theorem dX7_body_20 : decode cX7_body 20 = .ok (.ireturn, 1) := by decide +kernel
theorem dX7_body_21 : decode cX7_body 21 = .ok (.aload_n 0, 1) := by decide +kernel
theorem dX7_body_22 : decode cX7_body 22 = .ok (.getfield 36, 3) := by decide +kernel
theorem dX7_body_25 : decode cX7_body 25 = .ok (.getfield 247, 3) := by decide +kernel
theorem dX7_body_28 : decode cX7_body 28 = .ok (.iload_n 1, 1) := by decide +kernel
theorem dX7_body_29 : decode cX7_body 29 = .ok (.iaload, 1) := by decide +kernel
theorem dX7_body_30 : decode cX7_body 30 = .ok (.ireturn, 1) := by decide +kernel
theorem dX7_sheet_0 : decode cX7_sheet 0 = .ok (.iload_n 1, 1) := by decide +kernel
theorem dX7_sheet_1 : decode cX7_sheet 1 = .ok (.invokestatic 221, 3) := by decide +kernel
theorem dX7_sheet_4 : decode cX7_sheet 4 = .ok (.ifCond .eq 25, 3) := by decide +kernel
theorem dX7_sheet_7 : decode cX7_sheet 7 = .ok (.iload_n 2, 1) := by decide +kernel
theorem dX7_sheet_8 : decode cX7_sheet 8 = .ok (.ifCond .eq 27, 3) := by decide +kernel
theorem dX7_sheet_11 : decode cX7_sheet 11 = .ok (.iload_n 2, 1) := by decide +kernel
theorem dX7_sheet_12 : decode cX7_sheet 12 = .ok (.bipush 8, 2) := by decide +kernel
theorem dX7_sheet_14 : decode cX7_sheet 14 = .ok (.if_icmp .eq 21, 3) := by decide +kernel
theorem dX7_sheet_17 : decode cX7_sheet 17 = .ok (.iload_n 2, 1) := by decide +kernel
theorem dX7_sheet_18 : decode cX7_sheet 18 = .ok (.bipush 16, 2) := by decide +kernel
theorem dX7_sheet_20 : decode cX7_sheet 20 = .ok (.if_icmp .eq 15, 3) := by decide +kernel
theorem dX7_sheet_23 : decode cX7_sheet 23 = .ok (.iload_n 2, 1) := by decide +kernel
theorem dX7_sheet_24 : decode cX7_sheet 24 = .ok (.bipush 32, 2) := by decide +kernel
theorem dX7_sheet_26 : decode cX7_sheet 26 = .ok (.if_icmp .eq 9, 3) := by decide +kernel
theorem dX7_sheet_29 : decode cX7_sheet 29 = .ok (.aload_n 0, 1) := by decide +kernel
theorem dX7_sheet_30 : decode cX7_sheet 30 = .ok (.iconst 1, 1) := by decide +kernel
theorem dX7_sheet_31 : decode cX7_sheet 31 = .ok (.invokevirtual 55, 3) := by decide +kernel
theorem dX7_sheet_34 : decode cX7_sheet 34 = .ok (.ireturn, 1) := by decide +kernel
theorem dX7_sheet_35 : decode cX7_sheet 35 = .ok (.iload_n 2, 1) := by decide +kernel
theorem dX7_sheet_36 : decode cX7_sheet 36 = .ok (.ifCond .ne 15, 3) := by decide +kernel
theorem dX7_sheet_39 : decode cX7_sheet 39 = .ok (.aload_n 0, 1) := by decide +kernel
theorem dX7_sheet_40 : decode cX7_sheet 40 = .ok (.getfield 29, 3) := by decide +kernel
theorem dX7_sheet_43 : decode cX7_sheet 43 = .ok (.iload_n 1, 1) := by decide +kernel
theorem dX7_sheet_44 : decode cX7_sheet 44 = .ok (.iconst 0, 1) := by decide +kernel
theorem dX7_sheet_45 : decode cX7_sheet 45 = .ok (.iconst 0, 1) := by decide +kernel
theorem dX7_sheet_46 : decode cX7_sheet 46 = .ok (.invokevirtual 250, 3) := by decide +kernel
theorem dX7_sheet_49 : decode cX7_sheet 49 = .ok (.iconst 1, 1) := by decide +kernel
theorem dX7_sheet_50 : decode cX7_sheet 50 = .ok (.ireturn, 1) := by decide +kernel
theorem dX7_sheet_51 : decode cX7_sheet 51 = .ok (.iload_n 3, 1) := by decide +kernel
theorem dX7_sheet_52 : decode cX7_sheet 52 = .ok (.ifCond .ge 9, 3) := by decide +kernel
theorem dX7_sheet_55 : decode cX7_sheet 55 = .ok (.aload_n 0, 1) := by decide +kernel
theorem dX7_sheet_56 : decode cX7_sheet 56 = .ok (.iconst 3, 1) := by decide +kernel
theorem dX7_sheet_57 : decode cX7_sheet 57 = .ok (.invokevirtual 55, 3) := by decide +kernel
theorem dX7_sheet_60 : decode cX7_sheet 60 = .ok (.ireturn, 1) := by decide +kernel
theorem dX7_sheet_61 : decode cX7_sheet 61 = .ok (.iload_n 3, 1) := by decide +kernel
theorem dX7_sheet_62 : decode cX7_sheet 62 = .ok (.bipush 24, 2) := by decide +kernel
theorem dX7_sheet_64 : decode cX7_sheet 64 = .ok (.if_icmp .le 9, 3) := by decide +kernel
theorem dX7_sheet_67 : decode cX7_sheet 67 = .ok (.aload_n 0, 1) := by decide +kernel
theorem dX7_sheet_68 : decode cX7_sheet 68 = .ok (.iconst 1, 1) := by decide +kernel
theorem dX7_sheet_69 : decode cX7_sheet 69 = .ok (.invokevirtual 55, 3) := by decide +kernel
theorem dX7_sheet_72 : decode cX7_sheet 72 = .ok (.ireturn, 1) := by decide +kernel
theorem dX7_sheet_73 : decode cX7_sheet 73 = .ok (.aload_n 0, 1) := by decide +kernel
theorem dX7_sheet_74 : decode cX7_sheet 74 = .ok (.getfield 29, 3) := by decide +kernel
theorem dX7_sheet_77 : decode cX7_sheet 77 = .ok (.iload_n 1, 1) := by decide +kernel
theorem dX7_sheet_78 : decode cX7_sheet 78 = .ok (.iload_n 2, 1) := by decide +kernel
theorem dX7_sheet_79 : decode cX7_sheet 79 = .ok (.iload_n 3, 1) := by decide +kernel
theorem dX7_sheet_80 : decode cX7_sheet 80 = .ok (.invokevirtual 250, 3) := by decide +kernel
theorem dX7_sheet_83 : decode cX7_sheet 83 = .ok (.iconst 1, 1) := by decide +kernel
theorem dX7_sheet_84 : decode cX7_sheet 84 = .ok (.ireturn, 1) := by decide +kernel
theorem dX7_put_0 : decode cX7_put 0 = .ok (.iload_n 1, 1) := by decide +kernel
theorem dX7_put_1 : decode cX7_put 1 = .ok (.invokestatic 221, 3) := by decide +kernel
theorem dX7_put_4 : decode cX7_put 4 = .ok (.ifCond .ne 9, 3) := by decide +kernel
theorem dX7_put_7 : decode cX7_put 7 = .ok (.aload_n 0, 1) := by decide +kernel
theorem dX7_put_8 : decode cX7_put 8 = .ok (.iconst 1, 1) := by decide +kernel
theorem dX7_put_9 : decode cX7_put 9 = .ok (.invokevirtual 55, 3) := by decide +kernel
theorem dX7_put_12 : decode cX7_put 12 = .ok (.ireturn, 1) := by decide +kernel
theorem dX7_put_13 : decode cX7_put 13 = .ok (.aload_n 0, 1) := by decide +kernel
theorem dX7_put_14 : decode cX7_put 14 = .ok (.getfield 29, 3) := by decide +kernel
theorem dX7_put_17 : decode cX7_put 17 = .ok (.iload_n 1, 1) := by decide +kernel
theorem dX7_put_18 : decode cX7_put 18 = .ok (.invokevirtual 224, 3) := by decide +kernel
theorem dX7_put_21 : decode cX7_put 21 = .ok (.ifCond .eq 9, 3) := by decide +kernel
theorem dX7_put_24 : decode cX7_put 24 = .ok (.aload_n 0, 1) := by decide +kernel
theorem dX7_put_25 : decode cX7_put 25 = .ok (.iconst 2, 1) := by decide +kernel
theorem dX7_put_26 : decode cX7_put 26 = .ok (.invokevirtual 55, 3) := by decide +kernel
theorem dX7_put_29 : decode cX7_put 29 = .ok (.ireturn, 1) := by decide +kernel
theorem dX7_put_30 : decode cX7_put 30 = .ok (.aload_n 0, 1) := by decide +kernel
theorem dX7_put_31 : decode cX7_put 31 = .ok (.getfield 29, 3) := by decide +kernel
theorem dX7_put_34 : decode cX7_put 34 = .ok (.iload_n 1, 1) := by decide +kernel
theorem dX7_put_35 : decode cX7_put 35 = .ok (.iload_n 2, 1) := by decide +kernel
theorem dX7_put_36 : decode cX7_put 36 = .ok (.iconst 1, 1) := by decide +kernel
theorem dX7_put_37 : decode cX7_put 37 = .ok (.invokevirtual 254, 3) := by decide +kernel
theorem dX7_put_40 : decode cX7_put 40 = .ok (.ifCond .ne 9, 3) := by decide +kernel
theorem dX7_put_43 : decode cX7_put 43 = .ok (.aload_n 0, 1) := by decide +kernel
theorem dX7_put_44 : decode cX7_put 44 = .ok (.iconst 1, 1) := by decide +kernel
theorem dX7_put_45 : decode cX7_put 45 = .ok (.invokevirtual 55, 3) := by decide +kernel
theorem dX7_put_48 : decode cX7_put 48 = .ok (.ireturn, 1) := by decide +kernel
theorem dX7_put_49 : decode cX7_put 49 = .ok (.aload_n 0, 1) := by decide +kernel
theorem dX7_put_50 : decode cX7_put 50 = .ok (.getfield 29, 3) := by decide +kernel
theorem dX7_put_53 : decode cX7_put 53 = .ok (.iload_n 1, 1) := by decide +kernel
theorem dX7_put_54 : decode cX7_put 54 = .ok (.iload_n 2, 1) := by decide +kernel
theorem dX7_put_55 : decode cX7_put 55 = .ok (.iload_n 3, 1) := by decide +kernel
theorem dX7_put_56 : decode cX7_put 56 = .ok (.invokevirtual 257, 3) := by decide +kernel
theorem dX7_put_59 : decode cX7_put 59 = .ok (.iconst 1, 1) := by decide +kernel
theorem dX7_put_60 : decode cX7_put 60 = .ok (.ireturn, 1) := by decide +kernel
theorem dX7_move_0 : decode cX7_move 0 = .ok (.iload_n 1, 1) := by decide +kernel
theorem dX7_move_1 : decode cX7_move 1 = .ok (.invokestatic 221, 3) := by decide +kernel
theorem dX7_move_4 : decode cX7_move 4 = .ok (.ifCond .eq 10, 3) := by decide +kernel
theorem dX7_move_7 : decode cX7_move 7 = .ok (.iload_n 3, 1) := by decide +kernel
theorem dX7_move_8 : decode cX7_move 8 = .ok (.invokestatic 221, 3) := by decide +kernel
theorem dX7_move_11 : decode cX7_move 11 = .ok (.ifCond .ne 9, 3) := by decide +kernel
theorem dX7_move_14 : decode cX7_move 14 = .ok (.aload_n 0, 1) := by decide +kernel
theorem dX7_move_15 : decode cX7_move 15 = .ok (.iconst 1, 1) := by decide +kernel
theorem dX7_move_16 : decode cX7_move 16 = .ok (.invokevirtual 55, 3) := by decide +kernel
theorem dX7_move_19 : decode cX7_move 19 = .ok (.ireturn, 1) := by decide +kernel
theorem dX7_move_20 : decode cX7_move 20 = .ok (.aload_n 0, 1) := by decide +kernel
theorem dX7_move_21 : decode cX7_move 21 = .ok (.getfield 29, 3) := by decide +kernel
theorem dX7_move_24 : decode cX7_move 24 = .ok (.iload_n 1, 1) := by decide +kernel
theorem dX7_move_25 : decode cX7_move 25 = .ok (.invokevirtual 224, 3) := by decide +kernel
theorem dX7_move_28 : decode cX7_move 28 = .ok (.ifCond .ne 14, 3) := by decide +kernel
theorem dX7_move_31 : decode cX7_move 31 = .ok (.aload_n 0, 1) := by decide +kernel
theorem dX7_move_32 : decode cX7_move 32 = .ok (.getfield 29, 3) := by decide +kernel
theorem dX7_move_35 : decode cX7_move 35 = .ok (.iload_n 3, 1) := by decide +kernel
theorem dX7_move_36 : decode cX7_move 36 = .ok (.invokevirtual 224, 3) := by decide +kernel
theorem dX7_move_39 : decode cX7_move 39 = .ok (.ifCond .eq 9, 3) := by decide +kernel
theorem dX7_move_42 : decode cX7_move 42 = .ok (.aload_n 0, 1) := by decide +kernel
theorem dX7_move_43 : decode cX7_move 43 = .ok (.iconst 2, 1) := by decide +kernel
theorem dX7_move_44 : decode cX7_move 44 = .ok (.invokevirtual 55, 3) := by decide +kernel
theorem dX7_move_47 : decode cX7_move 47 = .ok (.ireturn, 1) := by decide +kernel
theorem dX7_move_48 : decode cX7_move 48 = .ok (.aload_n 0, 1) := by decide +kernel
theorem dX7_move_49 : decode cX7_move 49 = .ok (.getfield 29, 3) := by decide +kernel
theorem dX7_move_52 : decode cX7_move 52 = .ok (.getfield 260, 3) := by decide +kernel
theorem dX7_move_55 : decode cX7_move 55 = .ok (.iload_n 1, 1) := by decide +kernel
theorem dX7_move_56 : decode cX7_move 56 = .ok (.iaload, 1) := by decide +kernel
theorem dX7_move_57 : decode cX7_move 57 = .ok (.aload_n 0, 1) := by decide +kernel
theorem dX7_move_58 : decode cX7_move 58 = .ok (.getfield 29, 3) := by decide +kernel
theorem dX7_move_61 : decode cX7_move 61 = .ok (.getfield 260, 3) := by decide +kernel
theorem dX7_move_64 : decode cX7_move 64 = .ok (.iload_n 3, 1) := by decide +kernel
theorem dX7_move_65 : decode cX7_move 65 = .ok (.iaload, 1) := by decide +kernel
theorem dX7_move_66 : decode cX7_move 66 = .ok (.if_icmp .eq 9, 3) := by decide +kernel
theorem dX7_move_69 : decode cX7_move 69 = .ok (.aload_n 0, 1) := by decide +kernel
theorem dX7_move_70 : decode cX7_move 70 = .ok (.iconst 5, 1) := by decide +kernel
theorem dX7_move_71 : decode cX7_move 71 = .ok (.invokevirtual 55, 3) := by decide +kernel
theorem dX7_move_74 : decode cX7_move 74 = .ok (.ireturn, 1) := by decide +kernel
theorem dX7_move_75 : decode cX7_move 75 = .ok (.aload_n 0, 1) := by decide +kernel
theorem dX7_move_76 : decode cX7_move 76 = .ok (.getfield 29, 3) := by decide +kernel
theorem dX7_move_79 : decode cX7_move 79 = .ok (.iload_n 1, 1) := by decide +kernel
theorem dX7_move_80 : decode cX7_move 80 = .ok (.iload_n 2, 1) := by decide +kernel
theorem dX7_move_81 : decode cX7_move 81 = .ok (.iload 5, 2) := by decide +kernel
theorem dX7_move_83 : decode cX7_move 83 = .ok (.invokevirtual 254, 3) := by decide +kernel
theorem dX7_move_86 : decode cX7_move 86 = .ok (.ifCond .eq 18, 3) := by decide +kernel
theorem dX7_move_89 : decode cX7_move 89 = .ok (.aload_n 0, 1) := by decide +kernel
theorem dX7_move_90 : decode cX7_move 90 = .ok (.getfield 29, 3) := by decide +kernel
theorem dX7_move_93 : decode cX7_move 93 = .ok (.iload_n 3, 1) := by decide +kernel
theorem dX7_move_94 : decode cX7_move 94 = .ok (.iload 4, 2) := by decide +kernel
theorem dX7_move_96 : decode cX7_move 96 = .ok (.iload 5, 2) := by decide +kernel
theorem dX7_move_98 : decode cX7_move 98 = .ok (.invokevirtual 254, 3) := by decide +kernel
theorem dX7_move_101 : decode cX7_move 101 = .ok (.ifCond .ne 9, 3) := by decide +kernel
theorem dX7_move_104 : decode cX7_move 104 = .ok (.aload_n 0, 1) := by decide +kernel
theorem dX7_move_105 : decode cX7_move 105 = .ok (.iconst 1, 1) := by decide +kernel
theorem dX7_move_106 : decode cX7_move 106 = .ok (.invokevirtual 55, 3) := by decide +kernel
theorem dX7_move_109 : decode cX7_move 109 = .ok (.ireturn, 1) := by decide +kernel
theorem dX7_move_110 : decode cX7_move 110 = .ok (.aload_n 0, 1) := by decide +kernel
theorem dX7_move_111 : decode cX7_move 111 = .ok (.getfield 29, 3) := by decide +kernel
theorem dX7_move_114 : decode cX7_move 114 = .ok (.iload_n 1, 1) := by decide +kernel
theorem dX7_move_115 : decode cX7_move 115 = .ok (.iload_n 2, 1) := by decide +kernel
theorem dX7_move_116 : decode cX7_move 116 = .ok (.iload_n 3, 1) := by decide +kernel
theorem dX7_move_117 : decode cX7_move 117 = .ok (.iload 4, 2) := by decide +kernel
theorem dX7_move_119 : decode cX7_move 119 = .ok (.iload 5, 2) := by decide +kernel
theorem dX7_move_121 : decode cX7_move 121 = .ok (.invokevirtual 263, 3) := by decide +kernel
theorem dX7_move_124 : decode cX7_move 124 = .ok (.iload 5, 2) := by decide +kernel
theorem dX7_move_126 : decode cX7_move 126 = .ok (.ireturn, 1) := by decide +kernel
theorem dX7_weightsBy_0 : decode cX7_weightsBy 0 = .ok (.iload_n 1, 1) := by decide +kernel
theorem dX7_weightsBy_1 : decode cX7_weightsBy 1 = .ok (.invokestatic 221, 3) := by decide +kernel
theorem dX7_weightsBy_4 : decode cX7_weightsBy 4 = .ok (.ifCond .ne 9, 3) := by decide +kernel
theorem dX7_weightsBy_7 : decode cX7_weightsBy 7 = .ok (.aload_n 0, 1) := by decide +kernel
theorem dX7_weightsBy_8 : decode cX7_weightsBy 8 = .ok (.iconst 1, 1) := by decide +kernel
theorem dX7_weightsBy_9 : decode cX7_weightsBy 9 = .ok (.invokevirtual 55, 3) := by decide +kernel
theorem dX7_weightsBy_12 : decode cX7_weightsBy 12 = .ok (.ireturn, 1) := by decide +kernel
theorem dX7_weightsBy_13 : decode cX7_weightsBy 13 = .ok (.aload_n 0, 1) := by decide +kernel
theorem dX7_weightsBy_14 : decode cX7_weightsBy 14 = .ok (.getfield 29, 3) := by decide +kernel
theorem dX7_weightsBy_17 : decode cX7_weightsBy 17 = .ok (.iload_n 1, 1) := by decide +kernel
theorem dX7_weightsBy_18 : decode cX7_weightsBy 18 = .ok (.invokevirtual 224, 3) := by decide +kernel
theorem dX7_weightsBy_21 : decode cX7_weightsBy 21 = .ok (.ifCond .eq 9, 3) := by decide +kernel
theorem dX7_weightsBy_24 : decode cX7_weightsBy 24 = .ok (.aload_n 0, 1) := by decide +kernel
theorem dX7_weightsBy_25 : decode cX7_weightsBy 25 = .ok (.iconst 2, 1) := by decide +kernel
theorem dX7_weightsBy_26 : decode cX7_weightsBy 26 = .ok (.invokevirtual 55, 3) := by decide +kernel
theorem dX7_weightsBy_29 : decode cX7_weightsBy 29 = .ok (.ireturn, 1) := by decide +kernel
theorem dX7_weightsBy_30 : decode cX7_weightsBy 30 = .ok (.aload_n 0, 1) := by decide +kernel
theorem dX7_weightsBy_31 : decode cX7_weightsBy 31 = .ok (.getfield 29, 3) := by decide +kernel
theorem dX7_weightsBy_34 : decode cX7_weightsBy 34 = .ok (.getfield 267, 3) := by decide +kernel
theorem dX7_weightsBy_37 : decode cX7_weightsBy 37 = .ok (.iload_n 1, 1) := by decide +kernel
theorem dX7_weightsBy_38 : decode cX7_weightsBy 38 = .ok (.iaload, 1) := by decide +kernel
theorem dX7_weightsBy_39 : decode cX7_weightsBy 39 = .ok (.aload_n 0, 1) := by decide +kernel
theorem dX7_weightsBy_40 : decode cX7_weightsBy 40 = .ok (.getfield 10, 3) := by decide +kernel
theorem dX7_weightsBy_43 : decode cX7_weightsBy 43 = .ok (.getfield 59, 3) := by decide +kernel
theorem dX7_weightsBy_46 : decode cX7_weightsBy 46 = .ok (.getfield 63, 3) := by decide +kernel
theorem dX7_weightsBy_49 : decode cX7_weightsBy 49 = .ok (.invokestatic 205, 3) := by decide +kernel
theorem dX7_weightsBy_52 : decode cX7_weightsBy 52 = .ok (.istore_n 2, 1) := by decide +kernel
theorem dX7_weightsBy_53 : decode cX7_weightsBy 53 = .ok (.iconst 0, 1) := by decide +kernel
theorem dX7_weightsBy_54 : decode cX7_weightsBy 54 = .ok (.istore_n 3, 1) := by decide +kernel
theorem dX7_weightsBy_55 : decode cX7_weightsBy 55 = .ok (.iload_n 3, 1) := by decide +kernel
theorem dX7_weightsBy_56 : decode cX7_weightsBy 56 = .ok (.iload_n 2, 1) := by decide +kernel
theorem dX7_weightsBy_57 : decode cX7_weightsBy 57 = .ok (.if_icmp .ge 44, 3) := by decide +kernel
theorem dX7_weightsBy_60 : decode cX7_weightsBy 60 = .ok (.aload_n 0, 1) := by decide +kernel
theorem dX7_weightsBy_61 : decode cX7_weightsBy 61 = .ok (.getfield 29, 3) := by decide +kernel
theorem dX7_weightsBy_64 : decode cX7_weightsBy 64 = .ok (.iload_n 1, 1) := by decide +kernel
theorem dX7_weightsBy_65 : decode cX7_weightsBy 65 = .ok (.iload_n 3, 1) := by decide +kernel
theorem dX7_weightsBy_66 : decode cX7_weightsBy 66 = .ok (.invokevirtual 269, 3) := by decide +kernel
theorem dX7_weightsBy_69 : decode cX7_weightsBy 69 = .ok (.istore 4, 2) := by decide +kernel
theorem dX7_weightsBy_71 : decode cX7_weightsBy 71 = .ok (.iload 4, 2) := by decide +kernel
theorem dX7_weightsBy_73 : decode cX7_weightsBy 73 = .ok (.invokestatic 52, 3) := by decide +kernel
theorem dX7_weightsBy_76 : decode cX7_weightsBy 76 = .ok (.ifCond .ne 5, 3) := by decide +kernel
theorem dX7_weightsBy_79 : decode cX7_weightsBy 79 = .ok (.iload_n 3, 1) := by decide +kernel
theorem dX7_weightsBy_80 : decode cX7_weightsBy 80 = .ok (.ireturn, 1) := by decide +kernel
theorem dX7_weightsBy_81 : decode cX7_weightsBy 81 = .ok (.aload_n 0, 1) := by decide +kernel
theorem dX7_weightsBy_82 : decode cX7_weightsBy 82 = .ok (.getfield 10, 3) := by decide +kernel
theorem dX7_weightsBy_85 : decode cX7_weightsBy 85 = .ok (.getfield 59, 3) := by decide +kernel
theorem dX7_weightsBy_88 : decode cX7_weightsBy 88 = .ok (.getfield 81, 3) := by decide +kernel
theorem dX7_weightsBy_91 : decode cX7_weightsBy 91 = .ok (.iload_n 3, 1) := by decide +kernel
theorem dX7_weightsBy_92 : decode cX7_weightsBy 92 = .ok (.iload 4, 2) := by decide +kernel
theorem dX7_weightsBy_94 : decode cX7_weightsBy 94 = .ok (.iastore, 1) := by decide +kernel
theorem dX7_weightsBy_95 : decode cX7_weightsBy 95 = .ok (.iinc 3 1, 3) := by decide +kernel
theorem dX7_weightsBy_98 : decode cX7_weightsBy 98 = .ok (.goto (-43), 3) := by decide +kernel
theorem dX7_weightsBy_101 : decode cX7_weightsBy 101 = .ok (.iload_n 2, 1) := by decide +kernel
theorem dX7_weightsBy_102 : decode cX7_weightsBy 102 = .ok (.ireturn, 1) := by decide +kernel
theorem dX7_judge_0 : decode cX7_judge 0 = .ok (.iload_n 1, 1) := by decide +kernel
theorem dX7_judge_1 : decode cX7_judge 1 = .ok (.invokestatic 221, 3) := by decide +kernel
theorem dX7_judge_4 : decode cX7_judge 4 = .ok (.ifCond .ne 9, 3) := by decide +kernel
theorem dX7_judge_7 : decode cX7_judge 7 = .ok (.aload_n 0, 1) := by decide +kernel
theorem dX7_judge_8 : decode cX7_judge 8 = .ok (.iconst 1, 1) := by decide +kernel
theorem dX7_judge_9 : decode cX7_judge 9 = .ok (.invokevirtual 55, 3) := by decide +kernel
theorem dX7_judge_12 : decode cX7_judge 12 = .ok (.ireturn, 1) := by decide +kernel
theorem dX7_judge_13 : decode cX7_judge 13 = .ok (.aload_n 0, 1) := by decide +kernel
theorem dX7_judge_14 : decode cX7_judge 14 = .ok (.getfield 29, 3) := by decide +kernel
theorem dX7_judge_17 : decode cX7_judge 17 = .ok (.iload_n 1, 1) := by decide +kernel
theorem dX7_judge_18 : decode cX7_judge 18 = .ok (.invokevirtual 224, 3) := by decide +kernel
theorem dX7_judge_21 : decode cX7_judge 21 = .ok (.ifCond .eq 9, 3) := by decide +kernel
theorem dX7_judge_24 : decode cX7_judge 24 = .ok (.aload_n 0, 1) := by decide +kernel
theorem dX7_judge_25 : decode cX7_judge 25 = .ok (.iconst 2, 1) := by decide +kernel
theorem dX7_judge_26 : decode cX7_judge 26 = .ok (.invokevirtual 55, 3) := by decide +kernel
theorem dX7_judge_29 : decode cX7_judge 29 = .ok (.ireturn, 1) := by decide +kernel
theorem dX7_judge_30 : decode cX7_judge 30 = .ok (.aload_n 0, 1) := by decide +kernel
theorem dX7_judge_31 : decode cX7_judge 31 = .ok (.getfield 29, 3) := by decide +kernel
theorem dX7_judge_34 : decode cX7_judge 34 = .ok (.getfield 267, 3) := by decide +kernel
theorem dX7_judge_37 : decode cX7_judge 37 = .ok (.iload_n 1, 1) := by decide +kernel
theorem dX7_judge_38 : decode cX7_judge 38 = .ok (.iaload, 1) := by decide +kernel
theorem dX7_judge_39 : decode cX7_judge 39 = .ok (.aload_n 0, 1) := by decide +kernel
theorem dX7_judge_40 : decode cX7_judge 40 = .ok (.getfield 10, 3) := by decide +kernel
theorem dX7_judge_43 : decode cX7_judge 43 = .ok (.getfield 59, 3) := by decide +kernel
theorem dX7_judge_46 : decode cX7_judge 46 = .ok (.getfield 63, 3) := by decide +kernel
theorem dX7_judge_49 : decode cX7_judge 49 = .ok (.invokestatic 205, 3) := by decide +kernel
theorem dX7_judge_52 : decode cX7_judge 52 = .ok (.istore_n 2, 1) := by decide +kernel
theorem dX7_judge_53 : decode cX7_judge 53 = .ok (.iconst 0, 1) := by decide +kernel
theorem dX7_judge_54 : decode cX7_judge 54 = .ok (.istore_n 3, 1) := by decide +kernel
theorem dX7_judge_55 : decode cX7_judge 55 = .ok (.iload_n 3, 1) := by decide +kernel
theorem dX7_judge_56 : decode cX7_judge 56 = .ok (.iload_n 2, 1) := by decide +kernel
theorem dX7_judge_57 : decode cX7_judge 57 = .ok (.if_icmp .ge 31, 3) := by decide +kernel
theorem dX7_judge_60 : decode cX7_judge 60 = .ok (.aload_n 0, 1) := by decide +kernel
theorem dX7_judge_61 : decode cX7_judge 61 = .ok (.getfield 29, 3) := by decide +kernel
theorem dX7_judge_64 : decode cX7_judge 64 = .ok (.iload_n 1, 1) := by decide +kernel
theorem dX7_judge_65 : decode cX7_judge 65 = .ok (.iload_n 3, 1) := by decide +kernel
theorem dX7_judge_66 : decode cX7_judge 66 = .ok (.invokevirtual 269, 3) := by decide +kernel
theorem dX7_judge_69 : decode cX7_judge 69 = .ok (.aload_n 0, 1) := by decide +kernel
theorem dX7_judge_70 : decode cX7_judge 70 = .ok (.getfield 10, 3) := by decide +kernel
theorem dX7_judge_73 : decode cX7_judge 73 = .ok (.iload_n 3, 1) := by decide +kernel
theorem dX7_judge_74 : decode cX7_judge 74 = .ok (.invokevirtual 87, 3) := by decide +kernel
theorem dX7_judge_77 : decode cX7_judge 77 = .ok (.if_icmp .eq 5, 3) := by decide +kernel
theorem dX7_judge_80 : decode cX7_judge 80 = .ok (.iload_n 3, 1) := by decide +kernel
theorem dX7_judge_81 : decode cX7_judge 81 = .ok (.ireturn, 1) := by decide +kernel
theorem dX7_judge_82 : decode cX7_judge 82 = .ok (.iinc 3 1, 3) := by decide +kernel
theorem dX7_judge_85 : decode cX7_judge 85 = .ok (.goto (-30), 3) := by decide +kernel
theorem dX7_judge_88 : decode cX7_judge 88 = .ok (.iload_n 2, 1) := by decide +kernel
theorem dX7_judge_89 : decode cX7_judge 89 = .ok (.ireturn, 1) := by decide +kernel
theorem dX7_image_0 : decode cX7_image 0 = .ok (.aload_n 0, 1) := by decide +kernel
theorem dX7_image_1 : decode cX7_image 1 = .ok (.getfield 16, 3) := by decide +kernel
theorem dX7_image_4 : decode cX7_image 4 = .ok (.aload_n 0, 1) := by decide +kernel
theorem dX7_image_5 : decode cX7_image 5 = .ok (.getfield 10, 3) := by decide +kernel
theorem dX7_image_8 : decode cX7_image 8 = .ok (.invokevirtual 272, 3) := by decide +kernel
theorem dX7_image_11 : decode cX7_image 11 = .ok (.aload_n 0, 1) := by decide +kernel
theorem dX7_image_12 : decode cX7_image 12 = .ok (.dup, 1) := by decide +kernel
theorem dX7_image_13 : decode cX7_image 13 = .ok (.getfield 44, 3) := by decide +kernel
theorem dX7_image_16 : decode cX7_image 16 = .ok (.iconst 1, 1) := by decide +kernel
theorem dX7_image_17 : decode cX7_image 17 = .ok (.iadd, 1) := by decide +kernel
theorem dX7_image_18 : decode cX7_image 18 = .ok (.putfield 44, 3) := by decide +kernel
theorem dX7_image_21 : decode cX7_image 21 = .ok (.aload_n 0, 1) := by decide +kernel
theorem dX7_image_22 : decode cX7_image 22 = .ok (.getfield 44, 3) := by decide +kernel
theorem dX7_image_25 : decode cX7_image 25 = .ok (.ireturn, 1) := by decide +kernel
theorem dX7_restore_0 : decode cX7_restore 0 = .ok (.aload_n 0, 1) := by decide +kernel
theorem dX7_restore_1 : decode cX7_restore 1 = .ok (.getfield 44, 3) := by decide +kernel
theorem dX7_restore_4 : decode cX7_restore 4 = .ok (.ifCond .ne 9, 3) := by decide +kernel
theorem dX7_restore_7 : decode cX7_restore 7 = .ok (.aload_n 0, 1) := by decide +kernel
theorem dX7_restore_8 : decode cX7_restore 8 = .ok (.iconst 2, 1) := by decide +kernel
theorem dX7_restore_9 : decode cX7_restore 9 = .ok (.invokevirtual 55, 3) := by decide +kernel
theorem dX7_restore_12 : decode cX7_restore 12 = .ok (.ireturn, 1) := by decide +kernel
theorem dX7_restore_13 : decode cX7_restore 13 = .ok (.aload_n 0, 1) := by decide +kernel
theorem dX7_restore_14 : decode cX7_restore 14 = .ok (.getfield 10, 3) := by decide +kernel
theorem dX7_restore_17 : decode cX7_restore 17 = .ok (.aload_n 0, 1) := by decide +kernel
theorem dX7_restore_18 : decode cX7_restore 18 = .ok (.getfield 16, 3) := by decide +kernel
theorem dX7_restore_21 : decode cX7_restore 21 = .ok (.invokevirtual 272, 3) := by decide +kernel
theorem dX7_restore_24 : decode cX7_restore 24 = .ok (.aload_n 0, 1) := by decide +kernel
theorem dX7_restore_25 : decode cX7_restore 25 = .ok (.getfield 10, 3) := by decide +kernel
theorem dX7_restore_28 : decode cX7_restore 28 = .ok (.getfield 275, 3) := by decide +kernel
theorem dX7_restore_31 : decode cX7_restore 31 = .ok (.ireturn, 1) := by decide +kernel
theorem dX7_tell_0 : decode cX7_tell 0 = .ok (.aload_n 0, 1) := by decide +kernel
theorem dX7_tell_1 : decode cX7_tell 1 = .ok (.getfield 10, 3) := by decide +kernel
theorem dX7_tell_4 : decode cX7_tell 4 = .ok (.getfield 278, 3) := by decide +kernel
theorem dX7_tell_7 : decode cX7_tell 7 = .ok (.bipush 24, 2) := by decide +kernel
theorem dX7_tell_9 : decode cX7_tell 9 = .ok (.if_icmp .lt 9, 3) := by decide +kernel
theorem dX7_tell_12 : decode cX7_tell 12 = .ok (.aload_n 0, 1) := by decide +kernel
theorem dX7_tell_13 : decode cX7_tell 13 = .ok (.iconst 4, 1) := by decide +kernel
theorem dX7_tell_14 : decode cX7_tell 14 = .ok (.invokevirtual 55, 3) := by decide +kernel
theorem dX7_tell_17 : decode cX7_tell 17 = .ok (.ireturn, 1) := by decide +kernel
theorem dX7_tell_18 : decode cX7_tell 18 = .ok (.aload_n 0, 1) := by decide +kernel
theorem dX7_tell_19 : decode cX7_tell 19 = .ok (.getfield 10, 3) := by decide +kernel
theorem dX7_tell_22 : decode cX7_tell 22 = .ok (.getfield 281, 3) := by decide +kernel
theorem dX7_tell_25 : decode cX7_tell 25 = .ok (.aload_n 0, 1) := by decide +kernel
theorem dX7_tell_26 : decode cX7_tell 26 = .ok (.getfield 10, 3) := by decide +kernel
theorem dX7_tell_29 : decode cX7_tell 29 = .ok (.getfield 278, 3) := by decide +kernel
theorem dX7_tell_32 : decode cX7_tell 32 = .ok (.iload_n 1, 1) := by decide +kernel
theorem dX7_tell_33 : decode cX7_tell 33 = .ok (.iastore, 1) := by decide +kernel
theorem dX7_tell_34 : decode cX7_tell 34 = .ok (.aload_n 0, 1) := by decide +kernel
theorem dX7_tell_35 : decode cX7_tell 35 = .ok (.getfield 10, 3) := by decide +kernel
theorem dX7_tell_38 : decode cX7_tell 38 = .ok (.dup, 1) := by decide +kernel
theorem dX7_tell_39 : decode cX7_tell 39 = .ok (.getfield 278, 3) := by decide +kernel
theorem dX7_tell_42 : decode cX7_tell 42 = .ok (.iconst 1, 1) := by decide +kernel
theorem dX7_tell_43 : decode cX7_tell 43 = .ok (.iadd, 1) := by decide +kernel
theorem dX7_tell_44 : decode cX7_tell 44 = .ok (.putfield 278, 3) := by decide +kernel
theorem dX7_tell_47 : decode cX7_tell 47 = .ok (.aload_n 0, 1) := by decide +kernel
theorem dX7_tell_48 : decode cX7_tell 48 = .ok (.getfield 10, 3) := by decide +kernel
theorem dX7_tell_51 : decode cX7_tell 51 = .ok (.getfield 278, 3) := by decide +kernel
theorem dX7_tell_54 : decode cX7_tell 54 = .ok (.ireturn, 1) := by decide +kernel
theorem dX7_check_0 : decode cX7_check 0 = .ok (.aload_n 0, 1) := by decide +kernel
theorem dX7_check_1 : decode cX7_check 1 = .ok (.getfield 10, 3) := by decide +kernel
theorem dX7_check_4 : decode cX7_check 4 = .ok (.getfield 278, 3) := by decide +kernel
theorem dX7_check_7 : decode cX7_check 7 = .ok (.istore_n 1, 1) := by decide +kernel
theorem dX7_check_8 : decode cX7_check 8 = .ok (.aload_n 0, 1) := by decide +kernel
theorem dX7_check_9 : decode cX7_check 9 = .ok (.getfield 10, 3) := by decide +kernel
theorem dX7_check_12 : decode cX7_check 12 = .ok (.iconst 0, 1) := by decide +kernel
theorem dX7_check_13 : decode cX7_check 13 = .ok (.putfield 278, 3) := by decide +kernel
theorem dX7_check_16 : decode cX7_check 16 = .ok (.iconst 0, 1) := by decide +kernel
theorem dX7_check_17 : decode cX7_check 17 = .ok (.istore_n 2, 1) := by decide +kernel
theorem dX7_check_18 : decode cX7_check 18 = .ok (.iload_n 2, 1) := by decide +kernel
theorem dX7_check_19 : decode cX7_check 19 = .ok (.iload_n 1, 1) := by decide +kernel
theorem dX7_check_20 : decode cX7_check 20 = .ok (.if_icmp .ge 51, 3) := by decide +kernel
theorem dX7_check_23 : decode cX7_check 23 = .ok (.iload_n 2, 1) := by decide +kernel
theorem dX7_check_24 : decode cX7_check 24 = .ok (.aload_n 0, 1) := by decide +kernel
theorem dX7_check_25 : decode cX7_check 25 = .ok (.getfield 10, 3) := by decide +kernel
theorem dX7_check_28 : decode cX7_check 28 = .ok (.getfield 101, 3) := by decide +kernel
theorem dX7_check_31 : decode cX7_check 31 = .ok (.getfield 105, 3) := by decide +kernel
theorem dX7_check_34 : decode cX7_check 34 = .ok (.if_icmp .ge 27, 3) := by decide +kernel
theorem dX7_check_37 : decode cX7_check 37 = .ok (.aload_n 0, 1) := by decide +kernel
theorem dX7_check_38 : decode cX7_check 38 = .ok (.getfield 10, 3) := by decide +kernel
theorem dX7_check_41 : decode cX7_check 41 = .ok (.getfield 281, 3) := by decide +kernel
theorem dX7_check_44 : decode cX7_check 44 = .ok (.iload_n 2, 1) := by decide +kernel
theorem dX7_check_45 : decode cX7_check 45 = .ok (.iaload, 1) := by decide +kernel
theorem dX7_check_46 : decode cX7_check 46 = .ok (.aload_n 0, 1) := by decide +kernel
theorem dX7_check_47 : decode cX7_check 47 = .ok (.getfield 10, 3) := by decide +kernel
theorem dX7_check_50 : decode cX7_check 50 = .ok (.getfield 101, 3) := by decide +kernel
theorem dX7_check_53 : decode cX7_check 53 = .ok (.getfield 112, 3) := by decide +kernel
theorem dX7_check_56 : decode cX7_check 56 = .ok (.iload_n 2, 1) := by decide +kernel
theorem dX7_check_57 : decode cX7_check 57 = .ok (.iaload, 1) := by decide +kernel
theorem dX7_check_58 : decode cX7_check 58 = .ok (.if_icmp .eq 7, 3) := by decide +kernel
theorem dX7_check_61 : decode cX7_check 61 = .ok (.iconst 1, 1) := by decide +kernel
theorem dX7_check_62 : decode cX7_check 62 = .ok (.iload_n 2, 1) := by decide +kernel
theorem dX7_check_63 : decode cX7_check 63 = .ok (.iadd, 1) := by decide +kernel
theorem dX7_check_64 : decode cX7_check 64 = .ok (.ireturn, 1) := by decide +kernel
theorem dX7_check_65 : decode cX7_check 65 = .ok (.iinc 2 1, 3) := by decide +kernel
theorem dX7_check_68 : decode cX7_check 68 = .ok (.goto (-50), 3) := by decide +kernel
theorem dX7_check_71 : decode cX7_check 71 = .ok (.iconst 0, 1) := by decide +kernel
theorem dX7_check_72 : decode cX7_check 72 = .ok (.ireturn, 1) := by decide +kernel
theorem dX7_count_0 : decode cX7_count 0 = .ok (.iload_n 1, 1) := by decide +kernel
theorem dX7_count_1 : decode cX7_count 1 = .ok (.tableswitch 165 0 11 #[63, 74, 85, 93, 101, 109, 117, 125, 133, 141, 149, 157], 63) := by decide +kernel
theorem dX7_count_64 : decode cX7_count 64 = .ok (.aload_n 0, 1) := by decide +kernel
theorem dX7_count_65 : decode cX7_count 65 = .ok (.getfield 10, 3) := by decide +kernel
theorem dX7_count_68 : decode cX7_count 68 = .ok (.getfield 59, 3) := by decide +kernel
theorem dX7_count_71 : decode cX7_count 71 = .ok (.getfield 63, 3) := by decide +kernel
theorem dX7_count_74 : decode cX7_count 74 = .ok (.ireturn, 1) := by decide +kernel
theorem dX7_count_75 : decode cX7_count 75 = .ok (.aload_n 0, 1) := by decide +kernel
theorem dX7_count_76 : decode cX7_count 76 = .ok (.getfield 10, 3) := by decide +kernel
theorem dX7_count_79 : decode cX7_count 79 = .ok (.getfield 101, 3) := by decide +kernel
theorem dX7_count_82 : decode cX7_count 82 = .ok (.getfield 105, 3) := by decide +kernel
theorem dX7_count_85 : decode cX7_count 85 = .ok (.ireturn, 1) := by decide +kernel
theorem dX7_count_86 : decode cX7_count 86 = .ok (.aload_n 0, 1) := by decide +kernel
theorem dX7_count_87 : decode cX7_count 87 = .ok (.getfield 10, 3) := by decide +kernel
theorem dX7_count_90 : decode cX7_count 90 = .ok (.getfield 284, 3) := by decide +kernel
theorem dX7_count_93 : decode cX7_count 93 = .ok (.ireturn, 1) := by decide +kernel
theorem dX7_count_94 : decode cX7_count 94 = .ok (.aload_n 0, 1) := by decide +kernel
theorem dX7_count_95 : decode cX7_count 95 = .ok (.getfield 10, 3) := by decide +kernel
theorem dX7_count_98 : decode cX7_count 98 = .ok (.getfield 275, 3) := by decide +kernel
theorem dX7_count_101 : decode cX7_count 101 = .ok (.ireturn, 1) := by decide +kernel
theorem dX7_count_102 : decode cX7_count 102 = .ok (.aload_n 0, 1) := by decide +kernel
theorem dX7_count_103 : decode cX7_count 103 = .ok (.getfield 10, 3) := by decide +kernel
theorem dX7_count_106 : decode cX7_count 106 = .ok (.getfield 287, 3) := by decide +kernel
theorem dX7_count_109 : decode cX7_count 109 = .ok (.ireturn, 1) := by decide +kernel
theorem dX7_count_110 : decode cX7_count 110 = .ok (.aload_n 0, 1) := by decide +kernel
theorem dX7_count_111 : decode cX7_count 111 = .ok (.getfield 10, 3) := by decide +kernel
theorem dX7_count_114 : decode cX7_count 114 = .ok (.getfield 290, 3) := by decide +kernel
theorem dX7_count_117 : decode cX7_count 117 = .ok (.ireturn, 1) := by decide +kernel
theorem dX7_count_118 : decode cX7_count 118 = .ok (.aload_n 0, 1) := by decide +kernel
theorem dX7_count_119 : decode cX7_count 119 = .ok (.getfield 10, 3) := by decide +kernel
theorem dX7_count_122 : decode cX7_count 122 = .ok (.getfield 293, 3) := by decide +kernel
theorem dX7_count_125 : decode cX7_count 125 = .ok (.ireturn, 1) := by decide +kernel
theorem dX7_count_126 : decode cX7_count 126 = .ok (.aload_n 0, 1) := by decide +kernel
theorem dX7_count_127 : decode cX7_count 127 = .ok (.getfield 10, 3) := by decide +kernel
theorem dX7_count_130 : decode cX7_count 130 = .ok (.getfield 296, 3) := by decide +kernel
theorem dX7_count_133 : decode cX7_count 133 = .ok (.ireturn, 1) := by decide +kernel
theorem dX7_count_134 : decode cX7_count 134 = .ok (.aload_n 0, 1) := by decide +kernel
theorem dX7_count_135 : decode cX7_count 135 = .ok (.getfield 10, 3) := by decide +kernel
theorem dX7_count_138 : decode cX7_count 138 = .ok (.getfield 149, 3) := by decide +kernel
theorem dX7_count_141 : decode cX7_count 141 = .ok (.ireturn, 1) := by decide +kernel
theorem dX7_count_142 : decode cX7_count 142 = .ok (.aload_n 0, 1) := by decide +kernel
theorem dX7_count_143 : decode cX7_count 143 = .ok (.getfield 10, 3) := by decide +kernel
theorem dX7_count_146 : decode cX7_count 146 = .ok (.getfield 278, 3) := by decide +kernel
theorem dX7_count_149 : decode cX7_count 149 = .ok (.ireturn, 1) := by decide +kernel
theorem dX7_count_150 : decode cX7_count 150 = .ok (.aload_n 0, 1) := by decide +kernel
theorem dX7_count_151 : decode cX7_count 151 = .ok (.getfield 36, 3) := by decide +kernel
theorem dX7_count_154 : decode cX7_count 154 = .ok (.getfield 244, 3) := by decide +kernel
theorem dX7_count_157 : decode cX7_count 157 = .ok (.ireturn, 1) := by decide +kernel
theorem dX7_count_158 : decode cX7_count 158 = .ok (.aload_n 0, 1) := by decide +kernel
theorem dX7_count_159 : decode cX7_count 159 = .ok (.getfield 10, 3) := by decide +kernel
theorem dX7_count_162 : decode cX7_count 162 = .ok (.getfield 234, 3) := by decide +kernel
theorem dX7_count_165 : decode cX7_count 165 = .ok (.ireturn, 1) := by decide +kernel
theorem dX7_count_166 : decode cX7_count 166 = .ok (.aload_n 0, 1) := by decide +kernel
theorem dX7_count_167 : decode cX7_count 167 = .ok (.iconst 1, 1) := by decide +kernel
theorem dX7_count_168 : decode cX7_count 168 = .ok (.invokevirtual 55, 3) := by decide +kernel
theorem dX7_count_171 : decode cX7_count 171 = .ok (.ireturn, 1) := by decide +kernel
theorem dX7_told_0 : decode cX7_told 0 = .ok (.iload_n 1, 1) := by decide +kernel
theorem dX7_told_1 : decode cX7_told 1 = .ok (.iconst 1, 1) := by decide +kernel
theorem dX7_told_2 : decode cX7_told 2 = .ok (.bipush 6, 2) := by decide +kernel
theorem dX7_told_4 : decode cX7_told 4 = .ok (.invokestatic 93, 3) := by decide +kernel
theorem dX7_told_7 : decode cX7_told 7 = .ok (.ifCond .ne 9, 3) := by decide +kernel
theorem dX7_told_10 : decode cX7_told 10 = .ok (.aload_n 0, 1) := by decide +kernel
theorem dX7_told_11 : decode cX7_told 11 = .ok (.iconst 1, 1) := by decide +kernel
theorem dX7_told_12 : decode cX7_told 12 = .ok (.invokevirtual 55, 3) := by decide +kernel
theorem dX7_told_15 : decode cX7_told 15 = .ok (.ireturn, 1) := by decide +kernel
theorem dX7_told_16 : decode cX7_told 16 = .ok (.aload_n 0, 1) := by decide +kernel
theorem dX7_told_17 : decode cX7_told 17 = .ok (.getfield 40, 3) := by decide +kernel
theorem dX7_told_20 : decode cX7_told 20 = .ok (.iload_n 1, 1) := by decide +kernel
theorem dX7_told_21 : decode cX7_told 21 = .ok (.iaload, 1) := by decide +kernel
theorem dX7_told_22 : decode cX7_told 22 = .ok (.ireturn, 1) := by decide +kernel
theorem dX7_error_0 : decode cX7_error 0 = .ok (.iload_n 1, 1) := by decide +kernel
theorem dX7_error_1 : decode cX7_error 1 = .ok (.ifCond .lt 22, 3) := by decide +kernel
theorem dX7_error_4 : decode cX7_error 4 = .ok (.iload_n 1, 1) := by decide +kernel
theorem dX7_error_5 : decode cX7_error 5 = .ok (.aload_n 0, 1) := by decide +kernel
theorem dX7_error_6 : decode cX7_error 6 = .ok (.getfield 40, 3) := by decide +kernel
theorem dX7_error_9 : decode cX7_error 9 = .ok (.arraylength, 1) := by decide +kernel
theorem dX7_error_10 : decode cX7_error 10 = .ok (.if_icmp .ge 13, 3) := by decide +kernel
theorem dX7_error_13 : decode cX7_error 13 = .ok (.aload_n 0, 1) := by decide +kernel
theorem dX7_error_14 : decode cX7_error 14 = .ok (.getfield 40, 3) := by decide +kernel
theorem dX7_error_17 : decode cX7_error 17 = .ok (.iload_n 1, 1) := by decide +kernel
theorem dX7_error_18 : decode cX7_error 18 = .ok (.dup2, 1) := by decide +kernel
theorem dX7_error_19 : decode cX7_error 19 = .ok (.iaload, 1) := by decide +kernel
theorem dX7_error_20 : decode cX7_error 20 = .ok (.iconst 1, 1) := by decide +kernel
theorem dX7_error_21 : decode cX7_error 21 = .ok (.iadd, 1) := by decide +kernel
theorem dX7_error_22 : decode cX7_error 22 = .ok (.iastore, 1) := by decide +kernel
theorem dX7_error_23 : decode cX7_error 23 = .ok (.ldc_w 299, 3) := by decide +kernel
theorem dX7_error_26 : decode cX7_error 26 = .ok (.iload_n 1, 1) := by decide +kernel
theorem dX7_error_27 : decode cX7_error 27 = .ok (.isub, 1) := by decide +kernel
theorem dX7_error_28 : decode cX7_error 28 = .ok (.ireturn, 1) := by decide +kernel
theorem dX7_isPitch_0 : decode cX7_isPitch 0 = .ok (.iload_n 1, 1) := by decide +kernel
theorem dX7_isPitch_1 : decode cX7_isPitch 1 = .ok (.ifCond .lt 21, 3) := by decide +kernel
theorem dX7_isPitch_4 : decode cX7_isPitch 4 = .ok (.iload_n 1, 1) := by decide +kernel
theorem dX7_isPitch_5 : decode cX7_isPitch 5 = .ok (.aload_n 0, 1) := by decide +kernel
theorem dX7_isPitch_6 : decode cX7_isPitch 6 = .ok (.getfield 10, 3) := by decide +kernel
theorem dX7_isPitch_9 : decode cX7_isPitch 9 = .ok (.getfield 59, 3) := by decide +kernel
theorem dX7_isPitch_12 : decode cX7_isPitch 12 = .ok (.getfield 63, 3) := by decide +kernel
theorem dX7_isPitch_15 : decode cX7_isPitch 15 = .ok (.if_icmp .ge 7, 3) := by decide +kernel
theorem dX7_isPitch_18 : decode cX7_isPitch 18 = .ok (.iconst 1, 1) := by decide +kernel
theorem dX7_isPitch_19 : decode cX7_isPitch 19 = .ok (.goto 4, 3) := by decide +kernel
theorem dX7_isPitch_22 : decode cX7_isPitch 22 = .ok (.iconst 0, 1) := by decide +kernel
theorem dX7_isPitch_23 : decode cX7_isPitch 23 = .ok (.ireturn, 1) := by decide +kernel
theorem dX7_isRunner_0 : decode cX7_isRunner 0 = .ok (.iload_n 1, 1) := by decide +kernel
theorem dX7_isRunner_1 : decode cX7_isRunner 1 = .ok (.ifCond .lt 21, 3) := by decide +kernel
theorem dX7_isRunner_4 : decode cX7_isRunner 4 = .ok (.iload_n 1, 1) := by decide +kernel
theorem dX7_isRunner_5 : decode cX7_isRunner 5 = .ok (.aload_n 0, 1) := by decide +kernel
theorem dX7_isRunner_6 : decode cX7_isRunner 6 = .ok (.getfield 10, 3) := by decide +kernel
theorem dX7_isRunner_9 : decode cX7_isRunner 9 = .ok (.getfield 101, 3) := by decide +kernel
theorem dX7_isRunner_12 : decode cX7_isRunner 12 = .ok (.getfield 105, 3) := by decide +kernel
theorem dX7_isRunner_15 : decode cX7_isRunner 15 = .ok (.if_icmp .ge 7, 3) := by decide +kernel
theorem dX7_isRunner_18 : decode cX7_isRunner 18 = .ok (.iconst 1, 1) := by decide +kernel
theorem dX7_isRunner_19 : decode cX7_isRunner 19 = .ok (.goto 4, 3) := by decide +kernel
theorem dX7_isRunner_22 : decode cX7_isRunner 22 = .ok (.iconst 0, 1) := by decide +kernel
theorem dX7_isRunner_23 : decode cX7_isRunner 23 = .ok (.ireturn, 1) := by decide +kernel
theorem dX7_within_0 : decode cX7_within 0 = .ok (.iload_n 0, 1) := by decide +kernel
theorem dX7_within_1 : decode cX7_within 1 = .ok (.iload_n 1, 1) := by decide +kernel
theorem dX7_within_2 : decode cX7_within 2 = .ok (.if_icmp .lt 12, 3) := by decide +kernel
theorem dX7_within_5 : decode cX7_within 5 = .ok (.iload_n 0, 1) := by decide +kernel
theorem dX7_within_6 : decode cX7_within 6 = .ok (.iload_n 2, 1) := by decide +kernel
theorem dX7_within_7 : decode cX7_within 7 = .ok (.if_icmp .gt 7, 3) := by decide +kernel
theorem dX7_within_10 : decode cX7_within 10 = .ok (.iconst 1, 1) := by decide +kernel
theorem dX7_within_11 : decode cX7_within 11 = .ok (.goto 4, 3) := by decide +kernel
theorem dX7_within_14 : decode cX7_within 14 = .ok (.iconst 0, 1) := by decide +kernel
theorem dX7_within_15 : decode cX7_within 15 = .ok (.ireturn, 1) := by decide +kernel
theorem dX7_isDigit_0 : decode cX7_isDigit 0 = .ok (.iload_n 0, 1) := by decide +kernel
theorem dX7_isDigit_1 : decode cX7_isDigit 1 = .ok (.iconst 0, 1) := by decide +kernel
theorem dX7_isDigit_2 : decode cX7_isDigit 2 = .ok (.bipush 9, 2) := by decide +kernel
theorem dX7_isDigit_4 : decode cX7_isDigit 4 = .ok (.invokestatic 93, 3) := by decide +kernel
theorem dX7_isDigit_7 : decode cX7_isDigit 7 = .ok (.ireturn, 1) := by decide +kernel
theorem dX7_isKindAndM_0 : decode cX7_isKindAndM 0 = .ok (.iload_n 0, 1) := by decide +kernel
theorem dX7_isKindAndM_1 : decode cX7_isKindAndM 1 = .ok (.iconst 0, 1) := by decide +kernel
theorem dX7_isKindAndM_2 : decode cX7_isKindAndM 2 = .ok (.bipush 69, 2) := by decide +kernel
theorem dX7_isKindAndM_4 : decode cX7_isKindAndM 4 = .ok (.invokestatic 93, 3) := by decide +kernel
theorem dX7_isKindAndM_7 : decode cX7_isKindAndM 7 = .ok (.ireturn, 1) := by decide +kernel
theorem dX7_isFeet_0 : decode cX7_isFeet 0 = .ok (.iload_n 0, 1) := by decide +kernel
theorem dX7_isFeet_1 : decode cX7_isFeet 1 = .ok (.iconst 0, 1) := by decide +kernel
theorem dX7_isFeet_2 : decode cX7_isFeet 2 = .ok (.bipush 20, 2) := by decide +kernel
theorem dX7_isFeet_4 : decode cX7_isFeet 4 = .ok (.invokestatic 93, 3) := by decide +kernel
theorem dX7_isFeet_7 : decode cX7_isFeet 7 = .ok (.ireturn, 1) := by decide +kernel
theorem dX7_isUse_0 : decode cX7_isUse 0 = .ok (.iload_n 0, 1) := by decide +kernel
theorem dX7_isUse_1 : decode cX7_isUse 1 = .ok (.iconst 0, 1) := by decide +kernel
theorem dX7_isUse_2 : decode cX7_isUse 2 = .ok (.iconst 1, 1) := by decide +kernel
theorem dX7_isUse_3 : decode cX7_isUse 3 = .ok (.invokestatic 93, 3) := by decide +kernel
theorem dX7_isUse_6 : decode cX7_isUse 6 = .ok (.ireturn, 1) := by decide +kernel
theorem dX7_isSheet_0 : decode cX7_isSheet 0 = .ok (.iload_n 0, 1) := by decide +kernel
theorem dX7_isSheet_1 : decode cX7_isSheet 1 = .ok (.iconst 0, 1) := by decide +kernel
theorem dX7_isSheet_2 : decode cX7_isSheet 2 = .ok (.iconst 3, 1) := by decide +kernel
theorem dX7_isSheet_3 : decode cX7_isSheet 3 = .ok (.invokestatic 93, 3) := by decide +kernel
theorem dX7_isSheet_6 : decode cX7_isSheet 6 = .ok (.ireturn, 1) := by decide +kernel
theorem dX7_mostOfSetting_0 : decode cX7_mostOfSetting 0 = .ok (.iload_n 0, 1) := by decide +kernel
theorem dX7_mostOfSetting_1 : decode cX7_mostOfSetting 1 = .ok (.tableswitch 38 0 2 #[27, 31, 35], 27) := by decide +kernel
theorem dX7_mostOfSetting_28 : decode cX7_mostOfSetting 28 = .ok (.sipush 200, 3) := by decide +kernel
theorem dX7_mostOfSetting_31 : decode cX7_mostOfSetting 31 = .ok (.ireturn, 1) := by decide +kernel
theorem dX7_mostOfSetting_32 : decode cX7_mostOfSetting 32 = .ok (.sipush 200, 3) := by decide +kernel
theorem dX7_mostOfSetting_35 : decode cX7_mostOfSetting 35 = .ok (.ireturn, 1) := by decide +kernel
theorem dX7_mostOfSetting_36 : decode cX7_mostOfSetting 36 = .ok (.bipush 9, 2) := by decide +kernel
theorem dX7_mostOfSetting_38 : decode cX7_mostOfSetting 38 = .ok (.ireturn, 1) := by decide +kernel
theorem dX7_mostOfSetting_39 : decode cX7_mostOfSetting 39 = .ok (.iconst 2, 1) := by decide +kernel
theorem dX7_mostOfSetting_40 : decode cX7_mostOfSetting 40 = .ok (.ireturn, 1) := by decide +kernel
theorem dX7_isUnder_0 : decode cX7_isUnder 0 = .ok (.iload_n 0, 1) := by decide +kernel
theorem dX7_isUnder_1 : decode cX7_isUnder 1 = .ok (.istore_n 2, 1) := by decide +kernel
theorem dX7_isUnder_2 : decode cX7_isUnder 2 = .ok (.iconst 0, 1) := by decide +kernel
theorem dX7_isUnder_3 : decode cX7_isUnder 3 = .ok (.istore_n 3, 1) := by decide +kernel
theorem dX7_isUnder_4 : decode cX7_isUnder 4 = .ok (.iload_n 3, 1) := by decide +kernel
theorem dX7_isUnder_5 : decode cX7_isUnder 5 = .ok (.bipush 7, 2) := by decide +kernel
theorem dX7_isUnder_7 : decode cX7_isUnder 7 = .ok (.if_icmp .ge 32, 3) := by decide +kernel
theorem dX7_isUnder_10 : decode cX7_isUnder 10 = .ok (.iload_n 2, 1) := by decide +kernel
theorem dX7_isUnder_11 : decode cX7_isUnder 11 = .ok (.ifCond .lt 28, 3) := by decide +kernel
theorem dX7_isUnder_14 : decode cX7_isUnder 14 = .ok (.iload_n 2, 1) := by decide +kernel
theorem dX7_isUnder_15 : decode cX7_isUnder 15 = .ok (.bipush 7, 2) := by decide +kernel
theorem dX7_isUnder_17 : decode cX7_isUnder 17 = .ok (.if_icmp .ge 22, 3) := by decide +kernel
theorem dX7_isUnder_20 : decode cX7_isUnder 20 = .ok (.iload_n 2, 1) := by decide +kernel
theorem dX7_isUnder_21 : decode cX7_isUnder 21 = .ok (.iload_n 1, 1) := by decide +kernel
theorem dX7_isUnder_22 : decode cX7_isUnder 22 = .ok (.if_icmp .ne 5, 3) := by decide +kernel
theorem dX7_isUnder_25 : decode cX7_isUnder 25 = .ok (.iconst 1, 1) := by decide +kernel
theorem dX7_isUnder_26 : decode cX7_isUnder 26 = .ok (.ireturn, 1) := by decide +kernel
theorem dX7_isUnder_27 : decode cX7_isUnder 27 = .ok (.getstatic 300, 3) := by decide +kernel
theorem dX7_isUnder_30 : decode cX7_isUnder 30 = .ok (.iload_n 2, 1) := by decide +kernel
theorem dX7_isUnder_31 : decode cX7_isUnder 31 = .ok (.iaload, 1) := by decide +kernel
theorem dX7_isUnder_32 : decode cX7_isUnder 32 = .ok (.istore_n 2, 1) := by decide +kernel
theorem dX7_isUnder_33 : decode cX7_isUnder 33 = .ok (.iinc 3 1, 3) := by decide +kernel
theorem dX7_isUnder_36 : decode cX7_isUnder 36 = .ok (.goto (-32), 3) := by decide +kernel
theorem dX7_isUnder_39 : decode cX7_isUnder 39 = .ok (.iconst 0, 1) := by decide +kernel
theorem dX7_isUnder_40 : decode cX7_isUnder 40 = .ok (.ireturn, 1) := by decide +kernel
theorem dX7_fitsFrom_0 : decode cX7_fitsFrom 0 = .ok (.aload_n 0, 1) := by decide +kernel
theorem dX7_fitsFrom_1 : decode cX7_fitsFrom 1 = .ok (.getfield 29, 3) := by decide +kernel
theorem dX7_fitsFrom_4 : decode cX7_fitsFrom 4 = .ok (.getfield 267, 3) := by decide +kernel
theorem dX7_fitsFrom_7 : decode cX7_fitsFrom 7 = .ok (.iload_n 1, 1) := by decide +kernel
theorem dX7_fitsFrom_8 : decode cX7_fitsFrom 8 = .ok (.iaload, 1) := by decide +kernel
theorem dX7_fitsFrom_9 : decode cX7_fitsFrom 9 = .ok (.istore 4, 2) := by decide +kernel
theorem dX7_fitsFrom_11 : decode cX7_fitsFrom 11 = .ok (.iload 4, 2) := by decide +kernel
theorem dX7_fitsFrom_13 : decode cX7_fitsFrom 13 = .ok (.aload_n 0, 1) := by decide +kernel
theorem dX7_fitsFrom_14 : decode cX7_fitsFrom 14 = .ok (.getfield 10, 3) := by decide +kernel
theorem dX7_fitsFrom_17 : decode cX7_fitsFrom 17 = .ok (.getfield 59, 3) := by decide +kernel
theorem dX7_fitsFrom_20 : decode cX7_fitsFrom 20 = .ok (.getfield 63, 3) := by decide +kernel
theorem dX7_fitsFrom_23 : decode cX7_fitsFrom 23 = .ok (.if_icmp .le 5, 3) := by decide +kernel
theorem dX7_fitsFrom_26 : decode cX7_fitsFrom 26 = .ok (.iconst 0, 1) := by decide +kernel
theorem dX7_fitsFrom_27 : decode cX7_fitsFrom 27 = .ok (.ireturn, 1) := by decide +kernel
theorem dX7_fitsFrom_28 : decode cX7_fitsFrom 28 = .ok (.aload_n 0, 1) := by decide +kernel
theorem dX7_fitsFrom_29 : decode cX7_fitsFrom 29 = .ok (.getfield 10, 3) := by decide +kernel
theorem dX7_fitsFrom_32 : decode cX7_fitsFrom 32 = .ok (.iload_n 2, 1) := by decide +kernel
theorem dX7_fitsFrom_33 : decode cX7_fitsFrom 33 = .ok (.iload_n 3, 1) := by decide +kernel
theorem dX7_fitsFrom_34 : decode cX7_fitsFrom 34 = .ok (.invokevirtual 213, 3) := by decide +kernel
theorem dX7_fitsFrom_37 : decode cX7_fitsFrom 37 = .ok (.istore 5, 2) := by decide +kernel
theorem dX7_fitsFrom_39 : decode cX7_fitsFrom 39 = .ok (.iconst 0, 1) := by decide +kernel
theorem dX7_fitsFrom_40 : decode cX7_fitsFrom 40 = .ok (.istore 6, 2) := by decide +kernel
theorem dX7_fitsFrom_42 : decode cX7_fitsFrom 42 = .ok (.iload 6, 2) := by decide +kernel
theorem dX7_fitsFrom_44 : decode cX7_fitsFrom 44 = .ok (.iload 4, 2) := by decide +kernel
theorem dX7_fitsFrom_46 : decode cX7_fitsFrom 46 = .ok (.if_icmp .ge 31, 3) := by decide +kernel
theorem dX7_fitsFrom_49 : decode cX7_fitsFrom 49 = .ok (.aload_n 0, 1) := by decide +kernel
theorem dX7_fitsFrom_50 : decode cX7_fitsFrom 50 = .ok (.getfield 29, 3) := by decide +kernel
theorem dX7_fitsFrom_53 : decode cX7_fitsFrom 53 = .ok (.iload_n 1, 1) := by decide +kernel
theorem dX7_fitsFrom_54 : decode cX7_fitsFrom 54 = .ok (.iload 6, 2) := by decide +kernel
theorem dX7_fitsFrom_56 : decode cX7_fitsFrom 56 = .ok (.invokevirtual 269, 3) := by decide +kernel
theorem dX7_fitsFrom_59 : decode cX7_fitsFrom 59 = .ok (.iload 5, 2) := by decide +kernel
theorem dX7_fitsFrom_61 : decode cX7_fitsFrom 61 = .ok (.iload 6, 2) := by decide +kernel
theorem dX7_fitsFrom_63 : decode cX7_fitsFrom 63 = .ok (.ishr, 1) := by decide +kernel
theorem dX7_fitsFrom_64 : decode cX7_fitsFrom 64 = .ok (.iconst 1, 1) := by decide +kernel
theorem dX7_fitsFrom_65 : decode cX7_fitsFrom 65 = .ok (.iand, 1) := by decide +kernel
theorem dX7_fitsFrom_66 : decode cX7_fitsFrom 66 = .ok (.if_icmp .eq 5, 3) := by decide +kernel
theorem dX7_fitsFrom_69 : decode cX7_fitsFrom 69 = .ok (.iconst 0, 1) := by decide +kernel
theorem dX7_fitsFrom_70 : decode cX7_fitsFrom 70 = .ok (.ireturn, 1) := by decide +kernel
theorem dX7_fitsFrom_71 : decode cX7_fitsFrom 71 = .ok (.iinc 6 1, 3) := by decide +kernel
theorem dX7_fitsFrom_74 : decode cX7_fitsFrom 74 = .ok (.goto (-32), 3) := by decide +kernel
theorem dX7_fitsFrom_77 : decode cX7_fitsFrom 77 = .ok (.iconst 1, 1) := by decide +kernel
theorem dX7_fitsFrom_78 : decode cX7_fitsFrom 78 = .ok (.ireturn, 1) := by decide +kernel
theorem dX7_partOf_0 : decode cX7_partOf 0 = .ok (.iload_n 0, 1) := by decide +kernel
theorem dX7_partOf_1 : decode cX7_partOf 1 = .ok (.ifCond .eq 7, 3) := by decide +kernel
theorem dX7_partOf_4 : decode cX7_partOf 4 = .ok (.iload_n 1, 1) := by decide +kernel
theorem dX7_partOf_5 : decode cX7_partOf 5 = .ok (.ifCond .ne 5, 3) := by decide +kernel
theorem dX7_partOf_8 : decode cX7_partOf 8 = .ok (.iload_n 2, 1) := by decide +kernel
theorem dX7_partOf_9 : decode cX7_partOf 9 = .ok (.ireturn, 1) := by decide +kernel
theorem dX7_partOf_10 : decode cX7_partOf 10 = .ok (.iload_n 0, 1) := by decide +kernel
theorem dX7_partOf_11 : decode cX7_partOf 11 = .ok (.invokestatic 303, 3) := by decide +kernel
theorem dX7_partOf_14 : decode cX7_partOf 14 = .ok (.iload_n 1, 1) := by decide +kernel
theorem dX7_partOf_15 : decode cX7_partOf 15 = .ok (.invokestatic 303, 3) := by decide +kernel
theorem dX7_partOf_18 : decode cX7_partOf 18 = .ok (.invokestatic 306, 3) := by decide +kernel
theorem dX7_partOf_21 : decode cX7_partOf 21 = .ok (.istore_n 3, 1) := by decide +kernel
theorem dX7_partOf_22 : decode cX7_partOf 22 = .ok (.iload_n 1, 1) := by decide +kernel
theorem dX7_partOf_23 : decode cX7_partOf 23 = .ok (.ifCond .ge 6, 3) := by decide +kernel
theorem dX7_partOf_26 : decode cX7_partOf 26 = .ok (.iload_n 3, 1) := by decide +kernel
theorem dX7_partOf_27 : decode cX7_partOf 27 = .ok (.ineg, 1) := by decide +kernel
theorem dX7_partOf_28 : decode cX7_partOf 28 = .ok (.istore_n 3, 1) := by decide +kernel
theorem dX7_partOf_29 : decode cX7_partOf 29 = .ok (.iload_n 2, 1) := by decide +kernel
theorem dX7_partOf_30 : decode cX7_partOf 30 = .ok (.ifCond .ne 7, 3) := by decide +kernel
theorem dX7_partOf_33 : decode cX7_partOf 33 = .ok (.iload_n 0, 1) := by decide +kernel
theorem dX7_partOf_34 : decode cX7_partOf 34 = .ok (.goto 4, 3) := by decide +kernel
theorem dX7_partOf_37 : decode cX7_partOf 37 = .ok (.iload_n 1, 1) := by decide +kernel
theorem dX7_partOf_38 : decode cX7_partOf 38 = .ok (.iload_n 3, 1) := by decide +kernel
theorem dX7_partOf_39 : decode cX7_partOf 39 = .ok (.idiv, 1) := by decide +kernel
theorem dX7_partOf_40 : decode cX7_partOf 40 = .ok (.ireturn, 1) := by decide +kernel
theorem dX7_commonOf_0 : decode cX7_commonOf 0 = .ok (.iload_n 0, 1) := by decide +kernel
theorem dX7_commonOf_1 : decode cX7_commonOf 1 = .ok (.istore_n 2, 1) := by decide +kernel
theorem dX7_commonOf_2 : decode cX7_commonOf 2 = .ok (.iload_n 1, 1) := by decide +kernel
theorem dX7_commonOf_3 : decode cX7_commonOf 3 = .ok (.istore_n 3, 1) := by decide +kernel
theorem dX7_commonOf_4 : decode cX7_commonOf 4 = .ok (.iconst 0, 1) := by decide +kernel
theorem dX7_commonOf_5 : decode cX7_commonOf 5 = .ok (.istore 4, 2) := by decide +kernel
theorem dX7_commonOf_7 : decode cX7_commonOf 7 = .ok (.iload 4, 2) := by decide +kernel
theorem dX7_commonOf_9 : decode cX7_commonOf 9 = .ok (.bipush 64, 2) := by decide +kernel
theorem dX7_commonOf_11 : decode cX7_commonOf 11 = .ok (.if_icmp .ge 23, 3) := by decide +kernel
theorem dX7_commonOf_14 : decode cX7_commonOf 14 = .ok (.iload_n 3, 1) := by decide +kernel
theorem dX7_commonOf_15 : decode cX7_commonOf 15 = .ok (.ifCond .le 19, 3) := by decide +kernel
theorem dX7_commonOf_18 : decode cX7_commonOf 18 = .ok (.iload_n 2, 1) := by decide +kernel
theorem dX7_commonOf_19 : decode cX7_commonOf 19 = .ok (.iload_n 3, 1) := by decide +kernel
theorem dX7_commonOf_20 : decode cX7_commonOf 20 = .ok (.irem, 1) := by decide +kernel
theorem dX7_commonOf_21 : decode cX7_commonOf 21 = .ok (.istore 5, 2) := by decide +kernel
theorem dX7_commonOf_23 : decode cX7_commonOf 23 = .ok (.iload_n 3, 1) := by decide +kernel
theorem dX7_commonOf_24 : decode cX7_commonOf 24 = .ok (.istore_n 2, 1) := by decide +kernel
theorem dX7_commonOf_25 : decode cX7_commonOf 25 = .ok (.iload 5, 2) := by decide +kernel
theorem dX7_commonOf_27 : decode cX7_commonOf 27 = .ok (.istore_n 3, 1) := by decide +kernel
theorem dX7_commonOf_28 : decode cX7_commonOf 28 = .ok (.iinc 4 1, 3) := by decide +kernel
theorem dX7_commonOf_31 : decode cX7_commonOf 31 = .ok (.goto (-24), 3) := by decide +kernel
theorem dX7_commonOf_34 : decode cX7_commonOf 34 = .ok (.iload_n 2, 1) := by decide +kernel
theorem dX7_commonOf_35 : decode cX7_commonOf 35 = .ok (.iconst 1, 1) := by decide +kernel
theorem dX7_commonOf_36 : decode cX7_commonOf 36 = .ok (.invokestatic 210, 3) := by decide +kernel
theorem dX7_commonOf_39 : decode cX7_commonOf 39 = .ok (.ireturn, 1) := by decide +kernel
end
section
/-! decode rows, as printed -/
theorem dX8_init_0 : decode cX8_init 0 = .ok (.aload_n 0, 1) := by decide +kernel
theorem dX8_init_1 : decode cX8_init 1 = .ok (.invokespecial 3, 3) := by decide +kernel
theorem dX8_init_4 : decode cX8_init 4 = .ok (.aload_n 0, 1) := by decide +kernel
theorem dX8_init_5 : decode cX8_init 5 = .ok (.sipush 386, 3) := by decide +kernel
theorem dX8_init_8 : decode cX8_init 8 = .ok (.newarray .int, 2) := by decide +kernel
theorem dX8_init_10 : decode cX8_init 10 = .ok (.putfield 9, 3) := by decide +kernel
theorem dX8_init_13 : decode cX8_init 13 = .ok (.aload_n 0, 1) := by decide +kernel
theorem dX8_init_14 : decode cX8_init 14 = .ok (.sipush 386, 3) := by decide +kernel
theorem dX8_init_17 : decode cX8_init 17 = .ok (.newarray .int, 2) := by decide +kernel
theorem dX8_init_19 : decode cX8_init 19 = .ok (.putfield 13, 3) := by decide +kernel
theorem dX8_init_22 : decode cX8_init 22 = .ok (.aload_n 0, 1) := by decide +kernel
theorem dX8_init_23 : decode cX8_init 23 = .ok (.bipush 7, 2) := by decide +kernel
theorem dX8_init_25 : decode cX8_init 25 = .ok (.newarray .int, 2) := by decide +kernel
theorem dX8_init_27 : decode cX8_init 27 = .ok (.putfield 16, 3) := by decide +kernel
theorem dX8_init_30 : decode cX8_init 30 = .ok (.aload_n 0, 1) := by decide +kernel
theorem dX8_init_31 : decode cX8_init 31 = .ok (.iconst 4, 1) := by decide +kernel
theorem dX8_init_32 : decode cX8_init 32 = .ok (.newarray .int, 2) := by decide +kernel
theorem dX8_init_34 : decode cX8_init 34 = .ok (.putfield 19, 3) := by decide +kernel
theorem dX8_init_37 : decode cX8_init 37 = .ok (.aload_n 0, 1) := by decide +kernel
theorem dX8_init_38 : decode cX8_init 38 = .ok (.iconst 4, 1) := by decide +kernel
theorem dX8_init_39 : decode cX8_init 39 = .ok (.newarray .int, 2) := by decide +kernel
theorem dX8_init_41 : decode cX8_init 41 = .ok (.putfield 22, 3) := by decide +kernel
theorem dX8_init_44 : decode cX8_init 44 = .ok (.aload_n 0, 1) := by decide +kernel
theorem dX8_init_45 : decode cX8_init 45 = .ok (.bipush 96, 2) := by decide +kernel
theorem dX8_init_47 : decode cX8_init 47 = .ok (.newarray .int, 2) := by decide +kernel
theorem dX8_init_49 : decode cX8_init 49 = .ok (.putfield 25, 3) := by decide +kernel
theorem dX8_init_52 : decode cX8_init 52 = .ok (.aload_n 0, 1) := by decide +kernel
theorem dX8_init_53 : decode cX8_init 53 = .ok (.bipush 60, 2) := by decide +kernel
theorem dX8_init_55 : decode cX8_init 55 = .ok (.newarray .int, 2) := by decide +kernel
theorem dX8_init_57 : decode cX8_init 57 = .ok (.putfield 28, 3) := by decide +kernel
theorem dX8_init_60 : decode cX8_init 60 = .ok (.aload_n 0, 1) := by decide +kernel
theorem dX8_init_61 : decode cX8_init 61 = .ok (.bipush 60, 2) := by decide +kernel
theorem dX8_init_63 : decode cX8_init 63 = .ok (.newarray .int, 2) := by decide +kernel
theorem dX8_init_65 : decode cX8_init 65 = .ok (.putfield 31, 3) := by decide +kernel
theorem dX8_init_68 : decode cX8_init 68 = .ok (.aload_n 0, 1) := by decide +kernel
theorem dX8_init_69 : decode cX8_init 69 = .ok (.iconst 3, 1) := by decide +kernel
theorem dX8_init_70 : decode cX8_init 70 = .ok (.newarray .int, 2) := by decide +kernel
theorem dX8_init_72 : decode cX8_init 72 = .ok (.putfield 34, 3) := by decide +kernel
theorem dX8_init_75 : decode cX8_init 75 = .ok (.aload_n 0, 1) := by decide +kernel
theorem dX8_init_76 : decode cX8_init 76 = .ok (.bipush 60, 2) := by decide +kernel
theorem dX8_init_78 : decode cX8_init 78 = .ok (.newarray .int, 2) := by decide +kernel
theorem dX8_init_80 : decode cX8_init 80 = .ok (.putfield 37, 3) := by decide +kernel
theorem dX8_init_83 : decode cX8_init 83 = .ok (.aload_n 0, 1) := by decide +kernel
theorem dX8_init_84 : decode cX8_init 84 = .ok (.bipush 30, 2) := by decide +kernel
theorem dX8_init_86 : decode cX8_init 86 = .ok (.newarray .int, 2) := by decide +kernel
theorem dX8_init_88 : decode cX8_init 88 = .ok (.putfield 40, 3) := by decide +kernel
theorem dX8_init_91 : decode cX8_init 91 = .ok (.aload_n 0, 1) := by decide +kernel
theorem dX8_init_92 : decode cX8_init 92 = .ok (.getfield 9, 3) := by decide +kernel
theorem dX8_init_95 : decode cX8_init 95 = .ok (.iconst 0, 1) := by decide +kernel
theorem dX8_init_96 : decode cX8_init 96 = .ok (.bipush 100, 2) := by decide +kernel
theorem dX8_init_98 : decode cX8_init 98 = .ok (.iastore, 1) := by decide +kernel
theorem dX8_init_99 : decode cX8_init 99 = .ok (.aload_n 0, 1) := by decide +kernel
theorem dX8_init_100 : decode cX8_init 100 = .ok (.getfield 9, 3) := by decide +kernel
theorem dX8_init_103 : decode cX8_init 103 = .ok (.iconst 1, 1) := by decide +kernel
theorem dX8_init_104 : decode cX8_init 104 = .ok (.sipush 130, 3) := by decide +kernel
theorem dX8_init_107 : decode cX8_init 107 = .ok (.iastore, 1) := by decide +kernel
theorem dX8_init_108 : decode cX8_init 108 = .ok (.aload_n 0, 1) := by decide +kernel
theorem dX8_init_109 : decode cX8_init 109 = .ok (.getfield 9, 3) := by decide +kernel
theorem dX8_init_112 : decode cX8_init 112 = .ok (.bipush 6, 2) := by decide +kernel
theorem dX8_init_114 : decode cX8_init 114 = .ok (.iconst 1, 1) := by decide +kernel
theorem dX8_init_115 : decode cX8_init 115 = .ok (.iastore, 1) := by decide +kernel
theorem dX8_init_116 : decode cX8_init 116 = .ok (.return_, 1) := by decide +kernel
theorem dX8_error_0 : decode cX8_error 0 = .ok (.aload_n 0, 1) := by decide +kernel
theorem dX8_error_1 : decode cX8_error 1 = .ok (.getfield 16, 3) := by decide +kernel
theorem dX8_error_4 : decode cX8_error 4 = .ok (.ldc 43, 2) := by decide +kernel
theorem dX8_error_6 : decode cX8_error 6 = .ok (.iload_n 1, 1) := by decide +kernel
theorem dX8_error_7 : decode cX8_error 7 = .ok (.isub, 1) := by decide +kernel
theorem dX8_error_8 : decode cX8_error 8 = .ok (.dup2, 1) := by decide +kernel
theorem dX8_error_9 : decode cX8_error 9 = .ok (.iaload, 1) := by decide +kernel
theorem dX8_error_10 : decode cX8_error 10 = .ok (.iconst 1, 1) := by decide +kernel
theorem dX8_error_11 : decode cX8_error 11 = .ok (.iadd, 1) := by decide +kernel
theorem dX8_error_12 : decode cX8_error 12 = .ok (.iastore, 1) := by decide +kernel
theorem dX8_error_13 : decode cX8_error 13 = .ok (.iload_n 1, 1) := by decide +kernel
theorem dX8_error_14 : decode cX8_error 14 = .ok (.ireturn, 1) := by decide +kernel
theorem dX8_in_0 : decode cX8_in 0 = .ok (.iload_n 0, 1) := by decide +kernel
theorem dX8_in_1 : decode cX8_in 1 = .ok (.iload_n 1, 1) := by decide +kernel
theorem dX8_in_2 : decode cX8_in 2 = .ok (.if_icmp .lt 12, 3) := by decide +kernel
theorem dX8_in_5 : decode cX8_in 5 = .ok (.iload_n 0, 1) := by decide +kernel
theorem dX8_in_6 : decode cX8_in 6 = .ok (.iload_n 2, 1) := by decide +kernel
theorem dX8_in_7 : decode cX8_in 7 = .ok (.if_icmp .gt 7, 3) := by decide +kernel
theorem dX8_in_10 : decode cX8_in 10 = .ok (.iconst 1, 1) := by decide +kernel
theorem dX8_in_11 : decode cX8_in 11 = .ok (.goto 4, 3) := by decide +kernel
theorem dX8_in_14 : decode cX8_in 14 = .ok (.iconst 0, 1) := by decide +kernel
theorem dX8_in_15 : decode cX8_in 15 = .ok (.ireturn, 1) := by decide +kernel
theorem dX8_held_0 : decode cX8_held 0 = .ok (.iload_n 0, 1) := by decide +kernel
theorem dX8_held_1 : decode cX8_held 1 = .ok (.iload_n 1, 1) := by decide +kernel
theorem dX8_held_2 : decode cX8_held 2 = .ok (.if_icmp .ge 7, 3) := by decide +kernel
theorem dX8_held_5 : decode cX8_held 5 = .ok (.iload_n 1, 1) := by decide +kernel
theorem dX8_held_6 : decode cX8_held 6 = .ok (.goto 13, 3) := by decide +kernel
theorem dX8_held_9 : decode cX8_held 9 = .ok (.iload_n 0, 1) := by decide +kernel
theorem dX8_held_10 : decode cX8_held 10 = .ok (.iload_n 2, 1) := by decide +kernel
theorem dX8_held_11 : decode cX8_held 11 = .ok (.if_icmp .le 7, 3) := by decide +kernel
theorem dX8_held_14 : decode cX8_held 14 = .ok (.iload_n 2, 1) := by decide +kernel
theorem dX8_held_15 : decode cX8_held 15 = .ok (.goto 4, 3) := by decide +kernel
theorem dX8_held_18 : decode cX8_held 18 = .ok (.iload_n 0, 1) := by decide +kernel
theorem dX8_held_19 : decode cX8_held 19 = .ok (.ireturn, 1) := by decide +kernel
theorem dX8_copyAll_0 : decode cX8_copyAll 0 = .ok (.iconst 0, 1) := by decide +kernel
theorem dX8_copyAll_1 : decode cX8_copyAll 1 = .ok (.istore_n 2, 1) := by decide +kernel
theorem dX8_copyAll_2 : decode cX8_copyAll 2 = .ok (.iload_n 2, 1) := by decide +kernel
theorem dX8_copyAll_3 : decode cX8_copyAll 3 = .ok (.sipush 386, 3) := by decide +kernel
theorem dX8_copyAll_6 : decode cX8_copyAll 6 = .ok (.if_icmp .ge 15, 3) := by decide +kernel
theorem dX8_copyAll_9 : decode cX8_copyAll 9 = .ok (.aload_n 1, 1) := by decide +kernel
theorem dX8_copyAll_10 : decode cX8_copyAll 10 = .ok (.iload_n 2, 1) := by decide +kernel
theorem dX8_copyAll_11 : decode cX8_copyAll 11 = .ok (.aload_n 0, 1) := by decide +kernel
theorem dX8_copyAll_12 : decode cX8_copyAll 12 = .ok (.iload_n 2, 1) := by decide +kernel
theorem dX8_copyAll_13 : decode cX8_copyAll 13 = .ok (.iaload, 1) := by decide +kernel
theorem dX8_copyAll_14 : decode cX8_copyAll 14 = .ok (.iastore, 1) := by decide +kernel
theorem dX8_copyAll_15 : decode cX8_copyAll 15 = .ok (.iinc 2 1, 3) := by decide +kernel
theorem dX8_copyAll_18 : decode cX8_copyAll 18 = .ok (.goto (-16), 3) := by decide +kernel
theorem dX8_copyAll_21 : decode cX8_copyAll 21 = .ok (.return_, 1) := by decide +kernel
theorem dX8_isPitch_0 : decode cX8_isPitch 0 = .ok (.iload_n 1, 1) := by decide +kernel
theorem dX8_isPitch_1 : decode cX8_isPitch 1 = .ok (.iconst 0, 1) := by decide +kernel
theorem dX8_isPitch_2 : decode cX8_isPitch 2 = .ok (.aload_n 0, 1) := by decide +kernel
theorem dX8_isPitch_3 : decode cX8_isPitch 3 = .ok (.getfield 9, 3) := by decide +kernel
theorem dX8_isPitch_6 : decode cX8_isPitch 6 = .ok (.bipush 7, 2) := by decide +kernel
theorem dX8_isPitch_8 : decode cX8_isPitch 8 = .ok (.iaload, 1) := by decide +kernel
theorem dX8_isPitch_9 : decode cX8_isPitch 9 = .ok (.iconst 1, 1) := by decide +kernel
theorem dX8_isPitch_10 : decode cX8_isPitch 10 = .ok (.isub, 1) := by decide +kernel
theorem dX8_isPitch_11 : decode cX8_isPitch 11 = .ok (.invokestatic 44, 3) := by decide +kernel
theorem dX8_isPitch_14 : decode cX8_isPitch 14 = .ok (.ireturn, 1) := by decide +kernel
theorem dX8_isRunner_0 : decode cX8_isRunner 0 = .ok (.iload_n 1, 1) := by decide +kernel
theorem dX8_isRunner_1 : decode cX8_isRunner 1 = .ok (.iconst 0, 1) := by decide +kernel
theorem dX8_isRunner_2 : decode cX8_isRunner 2 = .ok (.aload_n 0, 1) := by decide +kernel
theorem dX8_isRunner_3 : decode cX8_isRunner 3 = .ok (.getfield 9, 3) := by decide +kernel
theorem dX8_isRunner_6 : decode cX8_isRunner 6 = .ok (.bipush 8, 2) := by decide +kernel
theorem dX8_isRunner_8 : decode cX8_isRunner 8 = .ok (.iaload, 1) := by decide +kernel
theorem dX8_isRunner_9 : decode cX8_isRunner 9 = .ok (.iconst 1, 1) := by decide +kernel
theorem dX8_isRunner_10 : decode cX8_isRunner 10 = .ok (.isub, 1) := by decide +kernel
theorem dX8_isRunner_11 : decode cX8_isRunner 11 = .ok (.invokestatic 44, 3) := by decide +kernel
theorem dX8_isRunner_14 : decode cX8_isRunner 14 = .ok (.ireturn, 1) := by decide +kernel
theorem dX8_isLead_0 : decode cX8_isLead 0 = .ok (.iload_n 0, 1) := by decide +kernel
theorem dX8_isLead_1 : decode cX8_isLead 1 = .ok (.iconst 0, 1) := by decide +kernel
theorem dX8_isLead_2 : decode cX8_isLead 2 = .ok (.bipush 20, 2) := by decide +kernel
theorem dX8_isLead_4 : decode cX8_isLead 4 = .ok (.invokestatic 44, 3) := by decide +kernel
theorem dX8_isLead_7 : decode cX8_isLead 7 = .ok (.ireturn, 1) := by decide +kernel
theorem dX8_becomes_0 : decode cX8_becomes 0 = .ok (.aload_n 0, 1) := by decide +kernel
theorem dX8_becomes_1 : decode cX8_becomes 1 = .ok (.getfield 9, 3) := by decide +kernel
theorem dX8_becomes_4 : decode cX8_becomes 4 = .ok (.iload_n 1, 1) := by decide +kernel
theorem dX8_becomes_5 : decode cX8_becomes 5 = .ok (.iaload, 1) := by decide +kernel
theorem dX8_becomes_6 : decode cX8_becomes 6 = .ok (.istore_n 3, 1) := by decide +kernel
theorem dX8_becomes_7 : decode cX8_becomes 7 = .ok (.aload_n 0, 1) := by decide +kernel
theorem dX8_becomes_8 : decode cX8_becomes 8 = .ok (.getfield 9, 3) := by decide +kernel
theorem dX8_becomes_11 : decode cX8_becomes 11 = .ok (.iload_n 1, 1) := by decide +kernel
theorem dX8_becomes_12 : decode cX8_becomes 12 = .ok (.iload_n 2, 1) := by decide +kernel
theorem dX8_becomes_13 : decode cX8_becomes 13 = .ok (.iastore, 1) := by decide +kernel
theorem dX8_becomes_14 : decode cX8_becomes 14 = .ok (.iload_n 3, 1) := by decide +kernel
theorem dX8_becomes_15 : decode cX8_becomes 15 = .ok (.ireturn, 1) := by decide +kernel
theorem dX8_of_0 : decode cX8_of 0 = .ok (.aload_n 0, 1) := by decide +kernel
theorem dX8_of_1 : decode cX8_of 1 = .ok (.getfield 9, 3) := by decide +kernel
theorem dX8_of_4 : decode cX8_of 4 = .ok (.bipush 11, 2) := by decide +kernel
theorem dX8_of_6 : decode cX8_of 6 = .ok (.iconst 4, 1) := by decide +kernel
theorem dX8_of_7 : decode cX8_of 7 = .ok (.iload_n 1, 1) := by decide +kernel
theorem dX8_of_8 : decode cX8_of 8 = .ok (.imul, 1) := by decide +kernel
theorem dX8_of_9 : decode cX8_of 9 = .ok (.iadd, 1) := by decide +kernel
theorem dX8_of_10 : decode cX8_of 10 = .ok (.iload_n 2, 1) := by decide +kernel
theorem dX8_of_11 : decode cX8_of 11 = .ok (.iadd, 1) := by decide +kernel
theorem dX8_of_12 : decode cX8_of 12 = .ok (.iaload, 1) := by decide +kernel
theorem dX8_of_13 : decode cX8_of 13 = .ok (.ireturn, 1) := by decide +kernel
theorem dX8_about_0 : decode cX8_about 0 = .ok (.aload_n 0, 1) := by decide +kernel
theorem dX8_about_1 : decode cX8_about 1 = .ok (.getfield 9, 3) := by decide +kernel
theorem dX8_about_4 : decode cX8_about 4 = .ok (.bipush 35, 2) := by decide +kernel
theorem dX8_about_6 : decode cX8_about 6 = .ok (.iconst 5, 1) := by decide +kernel
theorem dX8_about_7 : decode cX8_about 7 = .ok (.iload_n 1, 1) := by decide +kernel
theorem dX8_about_8 : decode cX8_about 8 = .ok (.imul, 1) := by decide +kernel
theorem dX8_about_9 : decode cX8_about 9 = .ok (.iadd, 1) := by decide +kernel
theorem dX8_about_10 : decode cX8_about 10 = .ok (.iload_n 2, 1) := by decide +kernel
theorem dX8_about_11 : decode cX8_about 11 = .ok (.iadd, 1) := by decide +kernel
theorem dX8_about_12 : decode cX8_about 12 = .ok (.iaload, 1) := by decide +kernel
theorem dX8_about_13 : decode cX8_about 13 = .ok (.ireturn, 1) := by decide +kernel
theorem dX8_lets_0 : decode cX8_lets 0 = .ok (.aload_n 0, 1) := by decide +kernel
theorem dX8_lets_1 : decode cX8_lets 1 = .ok (.getfield 9, 3) := by decide +kernel
theorem dX8_lets_4 : decode cX8_lets 4 = .ok (.bipush 35, 2) := by decide +kernel
theorem dX8_lets_6 : decode cX8_lets 6 = .ok (.iconst 5, 1) := by decide +kernel
theorem dX8_lets_7 : decode cX8_lets 7 = .ok (.iload_n 1, 1) := by decide +kernel
theorem dX8_lets_8 : decode cX8_lets 8 = .ok (.imul, 1) := by decide +kernel
theorem dX8_lets_9 : decode cX8_lets 9 = .ok (.iadd, 1) := by decide +kernel
theorem dX8_lets_10 : decode cX8_lets 10 = .ok (.iload_n 2, 1) := by decide +kernel
theorem dX8_lets_11 : decode cX8_lets 11 = .ok (.iadd, 1) := by decide +kernel
theorem dX8_lets_12 : decode cX8_lets 12 = .ok (.iload_n 3, 1) := by decide +kernel
theorem dX8_lets_13 : decode cX8_lets 13 = .ok (.iastore, 1) := by decide +kernel
theorem dX8_lets_14 : decode cX8_lets 14 = .ok (.return_, 1) := by decide +kernel
theorem dX8_plainAir_0 : decode cX8_plainAir 0 = .ok (.aload_n 0, 1) := by decide +kernel
theorem dX8_plainAir_1 : decode cX8_plainAir 1 = .ok (.iload_n 1, 1) := by decide +kernel
theorem dX8_plainAir_2 : decode cX8_plainAir 2 = .ok (.iconst 1, 1) := by decide +kernel
theorem dX8_plainAir_3 : decode cX8_plainAir 3 = .ok (.invokevirtual 48, 3) := by decide +kernel
theorem dX8_plainAir_6 : decode cX8_plainAir 6 = .ok (.istore_n 2, 1) := by decide +kernel
theorem dX8_plainAir_7 : decode cX8_plainAir 7 = .ok (.bipush 45, 2) := by decide +kernel
theorem dX8_plainAir_9 : decode cX8_plainAir 9 = .ok (.iload_n 2, 1) := by decide +kernel
theorem dX8_plainAir_10 : decode cX8_plainAir 10 = .ok (.iadd, 1) := by decide +kernel
theorem dX8_plainAir_11 : decode cX8_plainAir 11 = .ok (.istore_n 3, 1) := by decide +kernel
theorem dX8_plainAir_12 : decode cX8_plainAir 12 = .ok (.aload_n 0, 1) := by decide +kernel
theorem dX8_plainAir_13 : decode cX8_plainAir 13 = .ok (.iload_n 1, 1) := by decide +kernel
theorem dX8_plainAir_14 : decode cX8_plainAir 14 = .ok (.iconst 0, 1) := by decide +kernel
theorem dX8_plainAir_15 : decode cX8_plainAir 15 = .ok (.invokevirtual 48, 3) := by decide +kernel
theorem dX8_plainAir_18 : decode cX8_plainAir 18 = .ok (.tableswitch 90 1 6 #[38, 43, 47, 54, 68, 79], 38) := by decide +kernel
theorem dX8_plainAir_56 : decode cX8_plainAir 56 = .ok (.iload_n 3, 1) := by decide +kernel
theorem dX8_plainAir_57 : decode cX8_plainAir 57 = .ok (.bipush 15, 2) := by decide +kernel
theorem dX8_plainAir_59 : decode cX8_plainAir 59 = .ok (.iadd, 1) := by decide +kernel
theorem dX8_plainAir_60 : decode cX8_plainAir 60 = .ok (.ireturn, 1) := by decide +kernel
theorem dX8_plainAir_61 : decode cX8_plainAir 61 = .ok (.iload_n 3, 1) := by decide +kernel
theorem dX8_plainAir_62 : decode cX8_plainAir 62 = .ok (.iconst 5, 1) := by decide +kernel
theorem dX8_plainAir_63 : decode cX8_plainAir 63 = .ok (.isub, 1) := by decide +kernel
theorem dX8_plainAir_64 : decode cX8_plainAir 64 = .ok (.ireturn, 1) := by decide +kernel
theorem dX8_plainAir_65 : decode cX8_plainAir 65 = .ok (.iload_n 3, 1) := by decide +kernel
theorem dX8_plainAir_66 : decode cX8_plainAir 66 = .ok (.bipush 12, 2) := by decide +kernel
theorem dX8_plainAir_68 : decode cX8_plainAir 68 = .ok (.isub, 1) := by decide +kernel
theorem dX8_plainAir_69 : decode cX8_plainAir 69 = .ok (.iload_n 2, 1) := by decide +kernel
theorem dX8_plainAir_70 : decode cX8_plainAir 70 = .ok (.isub, 1) := by decide +kernel
theorem dX8_plainAir_71 : decode cX8_plainAir 71 = .ok (.ireturn, 1) := by decide +kernel
theorem dX8_plainAir_72 : decode cX8_plainAir 72 = .ok (.iload_n 3, 1) := by decide +kernel
theorem dX8_plainAir_73 : decode cX8_plainAir 73 = .ok (.bipush 15, 2) := by decide +kernel
theorem dX8_plainAir_75 : decode cX8_plainAir 75 = .ok (.iadd, 1) := by decide +kernel
theorem dX8_plainAir_76 : decode cX8_plainAir 76 = .ok (.iconst 2, 1) := by decide +kernel
theorem dX8_plainAir_77 : decode cX8_plainAir 77 = .ok (.aload_n 0, 1) := by decide +kernel
theorem dX8_plainAir_78 : decode cX8_plainAir 78 = .ok (.getfield 9, 3) := by decide +kernel
theorem dX8_plainAir_81 : decode cX8_plainAir 81 = .ok (.iconst 2, 1) := by decide +kernel
theorem dX8_plainAir_82 : decode cX8_plainAir 82 = .ok (.iaload, 1) := by decide +kernel
theorem dX8_plainAir_83 : decode cX8_plainAir 83 = .ok (.imul, 1) := by decide +kernel
theorem dX8_plainAir_84 : decode cX8_plainAir 84 = .ok (.iadd, 1) := by decide +kernel
theorem dX8_plainAir_85 : decode cX8_plainAir 85 = .ok (.ireturn, 1) := by decide +kernel
theorem dX8_plainAir_86 : decode cX8_plainAir 86 = .ok (.iload_n 3, 1) := by decide +kernel
theorem dX8_plainAir_87 : decode cX8_plainAir 87 = .ok (.iconst 5, 1) := by decide +kernel
theorem dX8_plainAir_88 : decode cX8_plainAir 88 = .ok (.isub, 1) := by decide +kernel
theorem dX8_plainAir_89 : decode cX8_plainAir 89 = .ok (.aload_n 0, 1) := by decide +kernel
theorem dX8_plainAir_90 : decode cX8_plainAir 90 = .ok (.getfield 9, 3) := by decide +kernel
theorem dX8_plainAir_93 : decode cX8_plainAir 93 = .ok (.iconst 3, 1) := by decide +kernel
theorem dX8_plainAir_94 : decode cX8_plainAir 94 = .ok (.iaload, 1) := by decide +kernel
theorem dX8_plainAir_95 : decode cX8_plainAir 95 = .ok (.iadd, 1) := by decide +kernel
theorem dX8_plainAir_96 : decode cX8_plainAir 96 = .ok (.ireturn, 1) := by decide +kernel
theorem dX8_plainAir_97 : decode cX8_plainAir 97 = .ok (.iload_n 3, 1) := by decide +kernel
theorem dX8_plainAir_98 : decode cX8_plainAir 98 = .ok (.aload_n 0, 1) := by decide +kernel
theorem dX8_plainAir_99 : decode cX8_plainAir 99 = .ok (.iload_n 1, 1) := by decide +kernel
theorem dX8_plainAir_100 : decode cX8_plainAir 100 = .ok (.iconst 3, 1) := by decide +kernel
theorem dX8_plainAir_101 : decode cX8_plainAir 101 = .ok (.invokevirtual 48, 3) := by decide +kernel
theorem dX8_plainAir_104 : decode cX8_plainAir 104 = .ok (.iconst 5, 1) := by decide +kernel
theorem dX8_plainAir_105 : decode cX8_plainAir 105 = .ok (.irem, 1) := by decide +kernel
theorem dX8_plainAir_106 : decode cX8_plainAir 106 = .ok (.iadd, 1) := by decide +kernel
theorem dX8_plainAir_107 : decode cX8_plainAir 107 = .ok (.ireturn, 1) := by decide +kernel
theorem dX8_plainAir_108 : decode cX8_plainAir 108 = .ok (.iload_n 3, 1) := by decide +kernel
theorem dX8_plainAir_109 : decode cX8_plainAir 109 = .ok (.ireturn, 1) := by decide +kernel
theorem dX8_airOf_0 : decode cX8_airOf 0 = .ok (.aload_n 0, 1) := by decide +kernel
theorem dX8_airOf_1 : decode cX8_airOf 1 = .ok (.iconst 0, 1) := by decide +kernel
theorem dX8_airOf_2 : decode cX8_airOf 2 = .ok (.aload_n 0, 1) := by decide +kernel
theorem dX8_airOf_3 : decode cX8_airOf 3 = .ok (.iload_n 1, 1) := by decide +kernel
theorem dX8_airOf_4 : decode cX8_airOf 4 = .ok (.invokevirtual 52, 3) := by decide +kernel
theorem dX8_airOf_7 : decode cX8_airOf 7 = .ok (.aload_n 0, 1) := by decide +kernel
theorem dX8_airOf_8 : decode cX8_airOf 8 = .ok (.getfield 9, 3) := by decide +kernel
theorem dX8_airOf_11 : decode cX8_airOf 11 = .ok (.iconst 2, 1) := by decide +kernel
theorem dX8_airOf_12 : decode cX8_airOf 12 = .ok (.iaload, 1) := by decide +kernel
theorem dX8_airOf_13 : decode cX8_airOf 13 = .ok (.aload_n 0, 1) := by decide +kernel
theorem dX8_airOf_14 : decode cX8_airOf 14 = .ok (.getfield 9, 3) := by decide +kernel
theorem dX8_airOf_17 : decode cX8_airOf 17 = .ok (.iconst 3, 1) := by decide +kernel
theorem dX8_airOf_18 : decode cX8_airOf 18 = .ok (.iaload, 1) := by decide +kernel
theorem dX8_airOf_19 : decode cX8_airOf 19 = .ok (.invokevirtual 56, 3) := by decide +kernel
theorem dX8_airOf_22 : decode cX8_airOf 22 = .ok (.ireturn, 1) := by decide +kernel
theorem dX8_costsOf_0 : decode cX8_costsOf 0 = .ok (.aload_n 0, 1) := by decide +kernel
theorem dX8_costsOf_1 : decode cX8_costsOf 1 = .ok (.iload_n 1, 1) := by decide +kernel
theorem dX8_costsOf_2 : decode cX8_costsOf 2 = .ok (.iconst 0, 1) := by decide +kernel
theorem dX8_costsOf_3 : decode cX8_costsOf 3 = .ok (.invokevirtual 48, 3) := by decide +kernel
theorem dX8_costsOf_6 : decode cX8_costsOf 6 = .ok (.tableswitch 70 1 6 #[38, 70, 45, 54, 70, 63], 38) := by decide +kernel
theorem dX8_costsOf_44 : decode cX8_costsOf 44 = .ok (.aload_n 0, 1) := by decide +kernel
theorem dX8_costsOf_45 : decode cX8_costsOf 45 = .ok (.getfield 9, 3) := by decide +kernel
theorem dX8_costsOf_48 : decode cX8_costsOf 48 = .ok (.iconst 3, 1) := by decide +kernel
theorem dX8_costsOf_49 : decode cX8_costsOf 49 = .ok (.iaload, 1) := by decide +kernel
theorem dX8_costsOf_50 : decode cX8_costsOf 50 = .ok (.ireturn, 1) := by decide +kernel
theorem dX8_costsOf_51 : decode cX8_costsOf 51 = .ok (.iconst 5, 1) := by decide +kernel
theorem dX8_costsOf_52 : decode cX8_costsOf 52 = .ok (.aload_n 0, 1) := by decide +kernel
theorem dX8_costsOf_53 : decode cX8_costsOf 53 = .ok (.iload_n 1, 1) := by decide +kernel
theorem dX8_costsOf_54 : decode cX8_costsOf 54 = .ok (.iconst 1, 1) := by decide +kernel
theorem dX8_costsOf_55 : decode cX8_costsOf 55 = .ok (.invokevirtual 48, 3) := by decide +kernel
theorem dX8_costsOf_58 : decode cX8_costsOf 58 = .ok (.iadd, 1) := by decide +kernel
theorem dX8_costsOf_59 : decode cX8_costsOf 59 = .ok (.ireturn, 1) := by decide +kernel
theorem dX8_costsOf_60 : decode cX8_costsOf 60 = .ok (.aload_n 0, 1) := by decide +kernel
theorem dX8_costsOf_61 : decode cX8_costsOf 61 = .ok (.getfield 9, 3) := by decide +kernel
theorem dX8_costsOf_64 : decode cX8_costsOf 64 = .ok (.iconst 3, 1) := by decide +kernel
theorem dX8_costsOf_65 : decode cX8_costsOf 65 = .ok (.iaload, 1) := by decide +kernel
theorem dX8_costsOf_66 : decode cX8_costsOf 66 = .ok (.iconst 1, 1) := by decide +kernel
theorem dX8_costsOf_67 : decode cX8_costsOf 67 = .ok (.iadd, 1) := by decide +kernel
theorem dX8_costsOf_68 : decode cX8_costsOf 68 = .ok (.ireturn, 1) := by decide +kernel
theorem dX8_costsOf_69 : decode cX8_costsOf 69 = .ok (.aload_n 0, 1) := by decide +kernel
theorem dX8_costsOf_70 : decode cX8_costsOf 70 = .ok (.getfield 9, 3) := by decide +kernel
theorem dX8_costsOf_73 : decode cX8_costsOf 73 = .ok (.iconst 2, 1) := by decide +kernel
theorem dX8_costsOf_74 : decode cX8_costsOf 74 = .ok (.iaload, 1) := by decide +kernel
theorem dX8_costsOf_75 : decode cX8_costsOf 75 = .ok (.ireturn, 1) := by decide +kernel
theorem dX8_costsOf_76 : decode cX8_costsOf 76 = .ok (.iconst 0, 1) := by decide +kernel
theorem dX8_costsOf_77 : decode cX8_costsOf 77 = .ok (.ireturn, 1) := by decide +kernel
theorem dX8_runFrom_0 : decode cX8_runFrom 0 = .ok (.aload_n 0, 1) := by decide +kernel
theorem dX8_runFrom_1 : decode cX8_runFrom 1 = .ok (.iload_n 1, 1) := by decide +kernel
theorem dX8_runFrom_2 : decode cX8_runFrom 2 = .ok (.iconst 0, 1) := by decide +kernel
theorem dX8_runFrom_3 : decode cX8_runFrom 3 = .ok (.invokevirtual 60, 3) := by decide +kernel
theorem dX8_runFrom_6 : decode cX8_runFrom 6 = .ok (.aload_n 0, 1) := by decide +kernel
theorem dX8_runFrom_7 : decode cX8_runFrom 7 = .ok (.iload_n 1, 1) := by decide +kernel
theorem dX8_runFrom_8 : decode cX8_runFrom 8 = .ok (.iconst 1, 1) := by decide +kernel
theorem dX8_runFrom_9 : decode cX8_runFrom 9 = .ok (.invokevirtual 60, 3) := by decide +kernel
theorem dX8_runFrom_12 : decode cX8_runFrom 12 = .ok (.bipush 90, 2) := by decide +kernel
theorem dX8_runFrom_14 : decode cX8_runFrom 14 = .ok (.iload_n 2, 1) := by decide +kernel
theorem dX8_runFrom_15 : decode cX8_runFrom 15 = .ok (.isub, 1) := by decide +kernel
theorem dX8_runFrom_16 : decode cX8_runFrom 16 = .ok (.imul, 1) := by decide +kernel
theorem dX8_runFrom_17 : decode cX8_runFrom 17 = .ok (.bipush 10, 2) := by decide +kernel
theorem dX8_runFrom_19 : decode cX8_runFrom 19 = .ok (.idiv, 1) := by decide +kernel
theorem dX8_runFrom_20 : decode cX8_runFrom 20 = .ok (.iadd, 1) := by decide +kernel
theorem dX8_runFrom_21 : decode cX8_runFrom 21 = .ok (.ireturn, 1) := by decide +kernel
theorem dX8_isPickedAt_0 : decode cX8_isPickedAt 0 = .ok (.aload_n 0, 1) := by decide +kernel
theorem dX8_isPickedAt_1 : decode cX8_isPickedAt 1 = .ok (.iload_n 1, 1) := by decide +kernel
theorem dX8_isPickedAt_2 : decode cX8_isPickedAt 2 = .ok (.iconst 0, 1) := by decide +kernel
theorem dX8_isPickedAt_3 : decode cX8_isPickedAt 3 = .ok (.invokevirtual 60, 3) := by decide +kernel
theorem dX8_isPickedAt_6 : decode cX8_isPickedAt 6 = .ok (.aload_n 0, 1) := by decide +kernel
theorem dX8_isPickedAt_7 : decode cX8_isPickedAt 7 = .ok (.iload_n 1, 1) := by decide +kernel
theorem dX8_isPickedAt_8 : decode cX8_isPickedAt 8 = .ok (.iconst 1, 1) := by decide +kernel
theorem dX8_isPickedAt_9 : decode cX8_isPickedAt 9 = .ok (.invokevirtual 60, 3) := by decide +kernel
theorem dX8_isPickedAt_12 : decode cX8_isPickedAt 12 = .ok (.iload_n 2, 1) := by decide +kernel
theorem dX8_isPickedAt_13 : decode cX8_isPickedAt 13 = .ok (.imul, 1) := by decide +kernel
theorem dX8_isPickedAt_14 : decode cX8_isPickedAt 14 = .ok (.bipush 10, 2) := by decide +kernel
theorem dX8_isPickedAt_16 : decode cX8_isPickedAt 16 = .ok (.idiv, 1) := by decide +kernel
theorem dX8_isPickedAt_17 : decode cX8_isPickedAt 17 = .ok (.iadd, 1) := by decide +kernel
theorem dX8_isPickedAt_18 : decode cX8_isPickedAt 18 = .ok (.aload_n 0, 1) := by decide +kernel
theorem dX8_isPickedAt_19 : decode cX8_isPickedAt 19 = .ok (.getfield 9, 3) := by decide +kernel
theorem dX8_isPickedAt_22 : decode cX8_isPickedAt 22 = .ok (.iconst 0, 1) := by decide +kernel
theorem dX8_isPickedAt_23 : decode cX8_isPickedAt 23 = .ok (.iaload, 1) := by decide +kernel
theorem dX8_isPickedAt_24 : decode cX8_isPickedAt 24 = .ok (.iconst 2, 1) := by decide +kernel
theorem dX8_isPickedAt_25 : decode cX8_isPickedAt 25 = .ok (.idiv, 1) := by decide +kernel
theorem dX8_isPickedAt_26 : decode cX8_isPickedAt 26 = .ok (.bipush 30, 2) := by decide +kernel
theorem dX8_isPickedAt_28 : decode cX8_isPickedAt 28 = .ok (.iadd, 1) := by decide +kernel
theorem dX8_isPickedAt_29 : decode cX8_isPickedAt 29 = .ok (.if_icmp .le 7, 3) := by decide +kernel
theorem dX8_isPickedAt_32 : decode cX8_isPickedAt 32 = .ok (.iconst 1, 1) := by decide +kernel
theorem dX8_isPickedAt_33 : decode cX8_isPickedAt 33 = .ok (.goto 4, 3) := by decide +kernel
theorem dX8_isPickedAt_36 : decode cX8_isPickedAt 36 = .ok (.iconst 0, 1) := by decide +kernel
theorem dX8_isPickedAt_37 : decode cX8_isPickedAt 37 = .ok (.ireturn, 1) := by decide +kernel
theorem dX8_marginOf_0 : decode cX8_marginOf 0 = .ok (.aload_n 0, 1) := by decide +kernel
theorem dX8_marginOf_1 : decode cX8_marginOf 1 = .ok (.getfield 9, 3) := by decide +kernel
theorem dX8_marginOf_4 : decode cX8_marginOf 4 = .ok (.iconst 0, 1) := by decide +kernel
theorem dX8_marginOf_5 : decode cX8_marginOf 5 = .ok (.iaload, 1) := by decide +kernel
theorem dX8_marginOf_6 : decode cX8_marginOf 6 = .ok (.aload_n 0, 1) := by decide +kernel
theorem dX8_marginOf_7 : decode cX8_marginOf 7 = .ok (.iload_n 2, 1) := by decide +kernel
theorem dX8_marginOf_8 : decode cX8_marginOf 8 = .ok (.invokevirtual 63, 3) := by decide +kernel
theorem dX8_marginOf_11 : decode cX8_marginOf 11 = .ok (.iadd, 1) := by decide +kernel
theorem dX8_marginOf_12 : decode cX8_marginOf 12 = .ok (.aload_n 0, 1) := by decide +kernel
theorem dX8_marginOf_13 : decode cX8_marginOf 13 = .ok (.getfield 9, 3) := by decide +kernel
theorem dX8_marginOf_16 : decode cX8_marginOf 16 = .ok (.iconst 1, 1) := by decide +kernel
theorem dX8_marginOf_17 : decode cX8_marginOf 17 = .ok (.iaload, 1) := by decide +kernel
theorem dX8_marginOf_18 : decode cX8_marginOf 18 = .ok (.iadd, 1) := by decide +kernel
theorem dX8_marginOf_19 : decode cX8_marginOf 19 = .ok (.aload_n 0, 1) := by decide +kernel
theorem dX8_marginOf_20 : decode cX8_marginOf 20 = .ok (.iload_n 1, 1) := by decide +kernel
theorem dX8_marginOf_21 : decode cX8_marginOf 21 = .ok (.iload_n 3, 1) := by decide +kernel
theorem dX8_marginOf_22 : decode cX8_marginOf 22 = .ok (.invokevirtual 66, 3) := by decide +kernel
theorem dX8_marginOf_25 : decode cX8_marginOf 25 = .ok (.isub, 1) := by decide +kernel
theorem dX8_marginOf_26 : decode cX8_marginOf 26 = .ok (.ireturn, 1) := by decide +kernel
theorem dX8_isSafe_0 : decode cX8_isSafe 0 = .ok (.aload_n 0, 1) := by decide +kernel
theorem dX8_isSafe_1 : decode cX8_isSafe 1 = .ok (.iload_n 1, 1) := by decide +kernel
theorem dX8_isSafe_2 : decode cX8_isSafe 2 = .ok (.iload_n 2, 1) := by decide +kernel
theorem dX8_isSafe_3 : decode cX8_isSafe 3 = .ok (.iload_n 3, 1) := by decide +kernel
theorem dX8_isSafe_4 : decode cX8_isSafe 4 = .ok (.invokevirtual 69, 3) := by decide +kernel
theorem dX8_isSafe_7 : decode cX8_isSafe 7 = .ok (.ifCond .lt 7, 3) := by decide +kernel
theorem dX8_isSafe_10 : decode cX8_isSafe 10 = .ok (.iconst 1, 1) := by decide +kernel
theorem dX8_isSafe_11 : decode cX8_isSafe 11 = .ok (.goto 4, 3) := by decide +kernel
theorem dX8_isSafe_14 : decode cX8_isSafe 14 = .ok (.iconst 0, 1) := by decide +kernel
theorem dX8_isSafe_15 : decode cX8_isSafe 15 = .ok (.ireturn, 1) := by decide +kernel
theorem dX8_gainOf_0 : decode cX8_gainOf 0 = .ok (.aload_n 0, 1) := by decide +kernel
theorem dX8_gainOf_1 : decode cX8_gainOf 1 = .ok (.iload_n 1, 1) := by decide +kernel
theorem dX8_gainOf_2 : decode cX8_gainOf 2 = .ok (.iload_n 2, 1) := by decide +kernel
theorem dX8_gainOf_3 : decode cX8_gainOf 3 = .ok (.iload_n 3, 1) := by decide +kernel
theorem dX8_gainOf_4 : decode cX8_gainOf 4 = .ok (.invokevirtual 69, 3) := by decide +kernel
theorem dX8_gainOf_7 : decode cX8_gainOf 7 = .ok (.istore 4, 2) := by decide +kernel
theorem dX8_gainOf_9 : decode cX8_gainOf 9 = .ok (.aload_n 0, 1) := by decide +kernel
theorem dX8_gainOf_10 : decode cX8_gainOf 10 = .ok (.iconst 1, 1) := by decide +kernel
theorem dX8_gainOf_11 : decode cX8_gainOf 11 = .ok (.iload 4, 2) := by decide +kernel
theorem dX8_gainOf_13 : decode cX8_gainOf 13 = .ok (.ifCond .lt 7, 3) := by decide +kernel
theorem dX8_gainOf_16 : decode cX8_gainOf 16 = .ok (.iconst 1, 1) := by decide +kernel
theorem dX8_gainOf_17 : decode cX8_gainOf 17 = .ok (.goto 4, 3) := by decide +kernel
theorem dX8_gainOf_20 : decode cX8_gainOf 20 = .ok (.iconst 0, 1) := by decide +kernel
theorem dX8_gainOf_21 : decode cX8_gainOf 21 = .ok (.iload 4, 2) := by decide +kernel
theorem dX8_gainOf_23 : decode cX8_gainOf 23 = .ok (.aload_n 0, 1) := by decide +kernel
theorem dX8_gainOf_24 : decode cX8_gainOf 24 = .ok (.getfield 9, 3) := by decide +kernel
theorem dX8_gainOf_27 : decode cX8_gainOf 27 = .ok (.iconst 3, 1) := by decide +kernel
theorem dX8_gainOf_28 : decode cX8_gainOf 28 = .ok (.iaload, 1) := by decide +kernel
theorem dX8_gainOf_29 : decode cX8_gainOf 29 = .ok (.invokevirtual 56, 3) := by decide +kernel
theorem dX8_gainOf_32 : decode cX8_gainOf 32 = .ok (.ireturn, 1) := by decide +kernel
theorem dX8_isKm_0 : decode cX8_isKm 0 = .ok (.iload_n 0, 1) := by decide +kernel
theorem dX8_isKm_1 : decode cX8_isKm 1 = .ok (.iconst 0, 1) := by decide +kernel
theorem dX8_isKm_2 : decode cX8_isKm 2 = .ok (.bipush 69, 2) := by decide +kernel
theorem dX8_isKm_4 : decode cX8_isKm 4 = .ok (.invokestatic 44, 3) := by decide +kernel
theorem dX8_isKm_7 : decode cX8_isKm 7 = .ok (.ireturn, 1) := by decide +kernel
theorem dX8_pitch_0 : decode cX8_pitch 0 = .ok (.iload_n 1, 1) := by decide +kernel
theorem dX8_pitch_1 : decode cX8_pitch 1 = .ok (.invokestatic 73, 3) := by decide +kernel
theorem dX8_pitch_4 : decode cX8_pitch 4 = .ok (.ifCond .eq 13, 3) := by decide +kernel
theorem dX8_pitch_7 : decode cX8_pitch 7 = .ok (.iload_n 2, 1) := by decide +kernel
theorem dX8_pitch_8 : decode cX8_pitch 8 = .ok (.iconst 0, 1) := by decide +kernel
theorem dX8_pitch_9 : decode cX8_pitch 9 = .ok (.bipush 9, 2) := by decide +kernel
theorem dX8_pitch_11 : decode cX8_pitch 11 = .ok (.invokestatic 44, 3) := by decide +kernel
theorem dX8_pitch_14 : decode cX8_pitch 14 = .ok (.ifCond .ne 10, 3) := by decide +kernel
theorem dX8_pitch_17 : decode cX8_pitch 17 = .ok (.aload_n 0, 1) := by decide +kernel
theorem dX8_pitch_18 : decode cX8_pitch 18 = .ok (.ldc 77, 2) := by decide +kernel
theorem dX8_pitch_20 : decode cX8_pitch 20 = .ok (.invokevirtual 78, 3) := by decide +kernel
theorem dX8_pitch_23 : decode cX8_pitch 23 = .ok (.ireturn, 1) := by decide +kernel
theorem dX8_pitch_24 : decode cX8_pitch 24 = .ok (.aload_n 0, 1) := by decide +kernel
theorem dX8_pitch_25 : decode cX8_pitch 25 = .ok (.getfield 9, 3) := by decide +kernel
theorem dX8_pitch_28 : decode cX8_pitch 28 = .ok (.bipush 7, 2) := by decide +kernel
theorem dX8_pitch_30 : decode cX8_pitch 30 = .ok (.iaload, 1) := by decide +kernel
theorem dX8_pitch_31 : decode cX8_pitch 31 = .ok (.istore_n 3, 1) := by decide +kernel
theorem dX8_pitch_32 : decode cX8_pitch 32 = .ok (.iload_n 3, 1) := by decide +kernel
theorem dX8_pitch_33 : decode cX8_pitch 33 = .ok (.bipush 6, 2) := by decide +kernel
theorem dX8_pitch_35 : decode cX8_pitch 35 = .ok (.if_icmp .ne 10, 3) := by decide +kernel
theorem dX8_pitch_38 : decode cX8_pitch 38 = .ok (.aload_n 0, 1) := by decide +kernel
theorem dX8_pitch_39 : decode cX8_pitch 39 = .ok (.ldc 81, 2) := by decide +kernel
theorem dX8_pitch_41 : decode cX8_pitch 41 = .ok (.invokevirtual 78, 3) := by decide +kernel
theorem dX8_pitch_44 : decode cX8_pitch 44 = .ok (.ireturn, 1) := by decide +kernel
theorem dX8_pitch_45 : decode cX8_pitch 45 = .ok (.aload_n 0, 1) := by decide +kernel
theorem dX8_pitch_46 : decode cX8_pitch 46 = .ok (.getfield 9, 3) := by decide +kernel
theorem dX8_pitch_49 : decode cX8_pitch 49 = .ok (.bipush 7, 2) := by decide +kernel
theorem dX8_pitch_51 : decode cX8_pitch 51 = .ok (.dup2, 1) := by decide +kernel
theorem dX8_pitch_52 : decode cX8_pitch 52 = .ok (.iaload, 1) := by decide +kernel
theorem dX8_pitch_53 : decode cX8_pitch 53 = .ok (.iconst 1, 1) := by decide +kernel
theorem dX8_pitch_54 : decode cX8_pitch 54 = .ok (.iadd, 1) := by decide +kernel
theorem dX8_pitch_55 : decode cX8_pitch 55 = .ok (.iastore, 1) := by decide +kernel
theorem dX8_pitch_56 : decode cX8_pitch 56 = .ok (.aload_n 0, 1) := by decide +kernel
theorem dX8_pitch_57 : decode cX8_pitch 57 = .ok (.getfield 9, 3) := by decide +kernel
theorem dX8_pitch_60 : decode cX8_pitch 60 = .ok (.bipush 11, 2) := by decide +kernel
theorem dX8_pitch_62 : decode cX8_pitch 62 = .ok (.iconst 4, 1) := by decide +kernel
theorem dX8_pitch_63 : decode cX8_pitch 63 = .ok (.iload_n 3, 1) := by decide +kernel
theorem dX8_pitch_64 : decode cX8_pitch 64 = .ok (.imul, 1) := by decide +kernel
theorem dX8_pitch_65 : decode cX8_pitch 65 = .ok (.iadd, 1) := by decide +kernel
theorem dX8_pitch_66 : decode cX8_pitch 66 = .ok (.iload_n 1, 1) := by decide +kernel
theorem dX8_pitch_67 : decode cX8_pitch 67 = .ok (.bipush 10, 2) := by decide +kernel
theorem dX8_pitch_69 : decode cX8_pitch 69 = .ok (.idiv, 1) := by decide +kernel
theorem dX8_pitch_70 : decode cX8_pitch 70 = .ok (.iastore, 1) := by decide +kernel
theorem dX8_pitch_71 : decode cX8_pitch 71 = .ok (.aload_n 0, 1) := by decide +kernel
theorem dX8_pitch_72 : decode cX8_pitch 72 = .ok (.getfield 9, 3) := by decide +kernel
theorem dX8_pitch_75 : decode cX8_pitch 75 = .ok (.bipush 11, 2) := by decide +kernel
theorem dX8_pitch_77 : decode cX8_pitch 77 = .ok (.iconst 4, 1) := by decide +kernel
theorem dX8_pitch_78 : decode cX8_pitch 78 = .ok (.iload_n 3, 1) := by decide +kernel
theorem dX8_pitch_79 : decode cX8_pitch 79 = .ok (.imul, 1) := by decide +kernel
theorem dX8_pitch_80 : decode cX8_pitch 80 = .ok (.iadd, 1) := by decide +kernel
theorem dX8_pitch_81 : decode cX8_pitch 81 = .ok (.iconst 1, 1) := by decide +kernel
theorem dX8_pitch_82 : decode cX8_pitch 82 = .ok (.iadd, 1) := by decide +kernel
theorem dX8_pitch_83 : decode cX8_pitch 83 = .ok (.iload_n 1, 1) := by decide +kernel
theorem dX8_pitch_84 : decode cX8_pitch 84 = .ok (.bipush 10, 2) := by decide +kernel
theorem dX8_pitch_86 : decode cX8_pitch 86 = .ok (.irem, 1) := by decide +kernel
theorem dX8_pitch_87 : decode cX8_pitch 87 = .ok (.iastore, 1) := by decide +kernel
theorem dX8_pitch_88 : decode cX8_pitch 88 = .ok (.aload_n 0, 1) := by decide +kernel
theorem dX8_pitch_89 : decode cX8_pitch 89 = .ok (.getfield 9, 3) := by decide +kernel
theorem dX8_pitch_92 : decode cX8_pitch 92 = .ok (.bipush 11, 2) := by decide +kernel
theorem dX8_pitch_94 : decode cX8_pitch 94 = .ok (.iconst 4, 1) := by decide +kernel
theorem dX8_pitch_95 : decode cX8_pitch 95 = .ok (.iload_n 3, 1) := by decide +kernel
theorem dX8_pitch_96 : decode cX8_pitch 96 = .ok (.imul, 1) := by decide +kernel
theorem dX8_pitch_97 : decode cX8_pitch 97 = .ok (.iadd, 1) := by decide +kernel
theorem dX8_pitch_98 : decode cX8_pitch 98 = .ok (.iconst 2, 1) := by decide +kernel
theorem dX8_pitch_99 : decode cX8_pitch 99 = .ok (.iadd, 1) := by decide +kernel
theorem dX8_pitch_100 : decode cX8_pitch 100 = .ok (.iload_n 2, 1) := by decide +kernel
theorem dX8_pitch_101 : decode cX8_pitch 101 = .ok (.iastore, 1) := by decide +kernel
theorem dX8_pitch_102 : decode cX8_pitch 102 = .ok (.aload_n 0, 1) := by decide +kernel
theorem dX8_pitch_103 : decode cX8_pitch 103 = .ok (.getfield 9, 3) := by decide +kernel
theorem dX8_pitch_106 : decode cX8_pitch 106 = .ok (.bipush 11, 2) := by decide +kernel
theorem dX8_pitch_108 : decode cX8_pitch 108 = .ok (.iconst 4, 1) := by decide +kernel
theorem dX8_pitch_109 : decode cX8_pitch 109 = .ok (.iload_n 3, 1) := by decide +kernel
theorem dX8_pitch_110 : decode cX8_pitch 110 = .ok (.imul, 1) := by decide +kernel
theorem dX8_pitch_111 : decode cX8_pitch 111 = .ok (.iadd, 1) := by decide +kernel
theorem dX8_pitch_112 : decode cX8_pitch 112 = .ok (.iconst 3, 1) := by decide +kernel
theorem dX8_pitch_113 : decode cX8_pitch 113 = .ok (.iadd, 1) := by decide +kernel
theorem dX8_pitch_114 : decode cX8_pitch 114 = .ok (.iconst 0, 1) := by decide +kernel
theorem dX8_pitch_115 : decode cX8_pitch 115 = .ok (.iastore, 1) := by decide +kernel
theorem dX8_pitch_116 : decode cX8_pitch 116 = .ok (.iload_n 3, 1) := by decide +kernel
theorem dX8_pitch_117 : decode cX8_pitch 117 = .ok (.ireturn, 1) := by decide +kernel
theorem dX8_pitchIs_0 : decode cX8_pitchIs 0 = .ok (.aload_n 0, 1) := by decide +kernel
theorem dX8_pitchIs_1 : decode cX8_pitchIs 1 = .ok (.iload_n 1, 1) := by decide +kernel
theorem dX8_pitchIs_2 : decode cX8_pitchIs 2 = .ok (.invokevirtual 82, 3) := by decide +kernel
theorem dX8_pitchIs_5 : decode cX8_pitchIs 5 = .ok (.ifCond .eq 12, 3) := by decide +kernel
theorem dX8_pitchIs_8 : decode cX8_pitchIs 8 = .ok (.iload_n 2, 1) := by decide +kernel
theorem dX8_pitchIs_9 : decode cX8_pitchIs 9 = .ok (.iconst 0, 1) := by decide +kernel
theorem dX8_pitchIs_10 : decode cX8_pitchIs 10 = .ok (.iconst 5, 1) := by decide +kernel
theorem dX8_pitchIs_11 : decode cX8_pitchIs 11 = .ok (.invokestatic 44, 3) := by decide +kernel
theorem dX8_pitchIs_14 : decode cX8_pitchIs 14 = .ok (.ifCond .ne 10, 3) := by decide +kernel
theorem dX8_pitchIs_17 : decode cX8_pitchIs 17 = .ok (.aload_n 0, 1) := by decide +kernel
theorem dX8_pitchIs_18 : decode cX8_pitchIs 18 = .ok (.ldc 77, 2) := by decide +kernel
theorem dX8_pitchIs_20 : decode cX8_pitchIs 20 = .ok (.invokevirtual 78, 3) := by decide +kernel
theorem dX8_pitchIs_23 : decode cX8_pitchIs 23 = .ok (.ireturn, 1) := by decide +kernel
theorem dX8_pitchIs_24 : decode cX8_pitchIs 24 = .ok (.iload_n 2, 1) := by decide +kernel
theorem dX8_pitchIs_25 : decode cX8_pitchIs 25 = .ok (.iconst 4, 1) := by decide +kernel
theorem dX8_pitchIs_26 : decode cX8_pitchIs 26 = .ok (.if_icmp .ge 12, 3) := by decide +kernel
theorem dX8_pitchIs_29 : decode cX8_pitchIs 29 = .ok (.aload_n 0, 1) := by decide +kernel
theorem dX8_pitchIs_30 : decode cX8_pitchIs 30 = .ok (.iload_n 1, 1) := by decide +kernel
theorem dX8_pitchIs_31 : decode cX8_pitchIs 31 = .ok (.iload_n 2, 1) := by decide +kernel
theorem dX8_pitchIs_32 : decode cX8_pitchIs 32 = .ok (.invokevirtual 48, 3) := by decide +kernel
theorem dX8_pitchIs_35 : decode cX8_pitchIs 35 = .ok (.goto 21, 3) := by decide +kernel
theorem dX8_pitchIs_38 : decode cX8_pitchIs 38 = .ok (.iload_n 2, 1) := by decide +kernel
theorem dX8_pitchIs_39 : decode cX8_pitchIs 39 = .ok (.iconst 4, 1) := by decide +kernel
theorem dX8_pitchIs_40 : decode cX8_pitchIs 40 = .ok (.if_icmp .ne 11, 3) := by decide +kernel
theorem dX8_pitchIs_43 : decode cX8_pitchIs 43 = .ok (.aload_n 0, 1) := by decide +kernel
theorem dX8_pitchIs_44 : decode cX8_pitchIs 44 = .ok (.iload_n 1, 1) := by decide +kernel
theorem dX8_pitchIs_45 : decode cX8_pitchIs 45 = .ok (.invokevirtual 63, 3) := by decide +kernel
theorem dX8_pitchIs_48 : decode cX8_pitchIs 48 = .ok (.goto 8, 3) := by decide +kernel
theorem dX8_pitchIs_51 : decode cX8_pitchIs 51 = .ok (.aload_n 0, 1) := by decide +kernel
theorem dX8_pitchIs_52 : decode cX8_pitchIs 52 = .ok (.iload_n 1, 1) := by decide +kernel
theorem dX8_pitchIs_53 : decode cX8_pitchIs 53 = .ok (.invokevirtual 85, 3) := by decide +kernel
theorem dX8_pitchIs_56 : decode cX8_pitchIs 56 = .ok (.ireturn, 1) := by decide +kernel
theorem dX8_become_0 : decode cX8_become 0 = .ok (.aload_n 0, 1) := by decide +kernel
theorem dX8_become_1 : decode cX8_become 1 = .ok (.iload_n 1, 1) := by decide +kernel
theorem dX8_become_2 : decode cX8_become 2 = .ok (.invokevirtual 82, 3) := by decide +kernel
theorem dX8_become_5 : decode cX8_become 5 = .ok (.ifCond .eq 10, 3) := by decide +kernel
theorem dX8_become_8 : decode cX8_become 8 = .ok (.iload_n 2, 1) := by decide +kernel
theorem dX8_become_9 : decode cX8_become 9 = .ok (.invokestatic 73, 3) := by decide +kernel
theorem dX8_become_12 : decode cX8_become 12 = .ok (.ifCond .ne 10, 3) := by decide +kernel
theorem dX8_become_15 : decode cX8_become 15 = .ok (.aload_n 0, 1) := by decide +kernel
theorem dX8_become_16 : decode cX8_become 16 = .ok (.ldc 77, 2) := by decide +kernel
theorem dX8_become_18 : decode cX8_become 18 = .ok (.invokevirtual 78, 3) := by decide +kernel
theorem dX8_become_21 : decode cX8_become 21 = .ok (.ireturn, 1) := by decide +kernel
theorem dX8_become_22 : decode cX8_become 22 = .ok (.aload_n 0, 1) := by decide +kernel
theorem dX8_become_23 : decode cX8_become 23 = .ok (.getfield 9, 3) := by decide +kernel
theorem dX8_become_26 : decode cX8_become 26 = .ok (.bipush 11, 2) := by decide +kernel
theorem dX8_become_28 : decode cX8_become 28 = .ok (.iconst 4, 1) := by decide +kernel
theorem dX8_become_29 : decode cX8_become 29 = .ok (.iload_n 1, 1) := by decide +kernel
theorem dX8_become_30 : decode cX8_become 30 = .ok (.imul, 1) := by decide +kernel
theorem dX8_become_31 : decode cX8_become 31 = .ok (.iadd, 1) := by decide +kernel
theorem dX8_become_32 : decode cX8_become 32 = .ok (.iconst 1, 1) := by decide +kernel
theorem dX8_become_33 : decode cX8_become 33 = .ok (.iadd, 1) := by decide +kernel
theorem dX8_become_34 : decode cX8_become 34 = .ok (.iload_n 2, 1) := by decide +kernel
theorem dX8_become_35 : decode cX8_become 35 = .ok (.bipush 10, 2) := by decide +kernel
theorem dX8_become_37 : decode cX8_become 37 = .ok (.irem, 1) := by decide +kernel
theorem dX8_become_38 : decode cX8_become 38 = .ok (.iastore, 1) := by decide +kernel
theorem dX8_become_39 : decode cX8_become 39 = .ok (.aload_n 0, 1) := by decide +kernel
theorem dX8_become_40 : decode cX8_become 40 = .ok (.bipush 11, 2) := by decide +kernel
theorem dX8_become_42 : decode cX8_become 42 = .ok (.iconst 4, 1) := by decide +kernel
theorem dX8_become_43 : decode cX8_become 43 = .ok (.iload_n 1, 1) := by decide +kernel
theorem dX8_become_44 : decode cX8_become 44 = .ok (.imul, 1) := by decide +kernel
theorem dX8_become_45 : decode cX8_become 45 = .ok (.iadd, 1) := by decide +kernel
theorem dX8_become_46 : decode cX8_become 46 = .ok (.iload_n 2, 1) := by decide +kernel
theorem dX8_become_47 : decode cX8_become 47 = .ok (.bipush 10, 2) := by decide +kernel
theorem dX8_become_49 : decode cX8_become 49 = .ok (.idiv, 1) := by decide +kernel
theorem dX8_become_50 : decode cX8_become 50 = .ok (.invokevirtual 88, 3) := by decide +kernel
theorem dX8_become_53 : decode cX8_become 53 = .ok (.ireturn, 1) := by decide +kernel
theorem dX8_as_0 : decode cX8_as 0 = .ok (.aload_n 0, 1) := by decide +kernel
theorem dX8_as_1 : decode cX8_as 1 = .ok (.iload_n 1, 1) := by decide +kernel
theorem dX8_as_2 : decode cX8_as 2 = .ok (.invokevirtual 82, 3) := by decide +kernel
theorem dX8_as_5 : decode cX8_as 5 = .ok (.ifCond .eq 13, 3) := by decide +kernel
theorem dX8_as_8 : decode cX8_as 8 = .ok (.iload_n 2, 1) := by decide +kernel
theorem dX8_as_9 : decode cX8_as 9 = .ok (.iconst 0, 1) := by decide +kernel
theorem dX8_as_10 : decode cX8_as 10 = .ok (.bipush 6, 2) := by decide +kernel
theorem dX8_as_12 : decode cX8_as 12 = .ok (.invokestatic 44, 3) := by decide +kernel
theorem dX8_as_15 : decode cX8_as 15 = .ok (.ifCond .ne 10, 3) := by decide +kernel
theorem dX8_as_18 : decode cX8_as 18 = .ok (.aload_n 0, 1) := by decide +kernel
theorem dX8_as_19 : decode cX8_as 19 = .ok (.ldc 77, 2) := by decide +kernel
theorem dX8_as_21 : decode cX8_as 21 = .ok (.invokevirtual 78, 3) := by decide +kernel
theorem dX8_as_24 : decode cX8_as 24 = .ok (.ireturn, 1) := by decide +kernel
theorem dX8_as_25 : decode cX8_as 25 = .ok (.aload_n 0, 1) := by decide +kernel
theorem dX8_as_26 : decode cX8_as 26 = .ok (.iload_n 1, 1) := by decide +kernel
theorem dX8_as_27 : decode cX8_as 27 = .ok (.iconst 0, 1) := by decide +kernel
theorem dX8_as_28 : decode cX8_as 28 = .ok (.invokevirtual 48, 3) := by decide +kernel
theorem dX8_as_31 : decode cX8_as 31 = .ok (.istore_n 3, 1) := by decide +kernel
theorem dX8_as_32 : decode cX8_as 32 = .ok (.iload_n 2, 1) := by decide +kernel
theorem dX8_as_33 : decode cX8_as 33 = .ok (.ifCond .eq 28, 3) := by decide +kernel
theorem dX8_as_36 : decode cX8_as 36 = .ok (.iload_n 2, 1) := by decide +kernel
theorem dX8_as_37 : decode cX8_as 37 = .ok (.iload_n 3, 1) := by decide +kernel
theorem dX8_as_38 : decode cX8_as 38 = .ok (.if_icmp .eq 23, 3) := by decide +kernel
theorem dX8_as_41 : decode cX8_as 41 = .ok (.iload_n 2, 1) := by decide +kernel
theorem dX8_as_42 : decode cX8_as 42 = .ok (.iconst 1, 1) := by decide +kernel
theorem dX8_as_43 : decode cX8_as 43 = .ok (.if_icmp .ne 8, 3) := by decide +kernel
theorem dX8_as_46 : decode cX8_as 46 = .ok (.iload_n 3, 1) := by decide +kernel
theorem dX8_as_47 : decode cX8_as 47 = .ok (.iconst 4, 1) := by decide +kernel
theorem dX8_as_48 : decode cX8_as 48 = .ok (.if_icmp .eq 13, 3) := by decide +kernel
theorem dX8_as_51 : decode cX8_as 51 = .ok (.iload_n 2, 1) := by decide +kernel
theorem dX8_as_52 : decode cX8_as 52 = .ok (.iconst 2, 1) := by decide +kernel
theorem dX8_as_53 : decode cX8_as 53 = .ok (.if_icmp .ne 12, 3) := by decide +kernel
theorem dX8_as_56 : decode cX8_as 56 = .ok (.iload_n 3, 1) := by decide +kernel
theorem dX8_as_57 : decode cX8_as 57 = .ok (.iconst 5, 1) := by decide +kernel
theorem dX8_as_58 : decode cX8_as 58 = .ok (.if_icmp .ne 7, 3) := by decide +kernel
theorem dX8_as_61 : decode cX8_as 61 = .ok (.iconst 1, 1) := by decide +kernel
theorem dX8_as_62 : decode cX8_as 62 = .ok (.goto 4, 3) := by decide +kernel
theorem dX8_as_65 : decode cX8_as 65 = .ok (.iconst 0, 1) := by decide +kernel
theorem dX8_as_66 : decode cX8_as 66 = .ok (.istore 4, 2) := by decide +kernel
theorem dX8_as_68 : decode cX8_as 68 = .ok (.iload 4, 2) := by decide +kernel
theorem dX8_as_70 : decode cX8_as 70 = .ok (.ifCond .eq 12, 3) := by decide +kernel
theorem dX8_as_73 : decode cX8_as 73 = .ok (.aload_n 0, 1) := by decide +kernel
theorem dX8_as_74 : decode cX8_as 74 = .ok (.iload_n 1, 1) := by decide +kernel
theorem dX8_as_75 : decode cX8_as 75 = .ok (.iconst 1, 1) := by decide +kernel
theorem dX8_as_76 : decode cX8_as 76 = .ok (.invokevirtual 48, 3) := by decide +kernel
theorem dX8_as_79 : decode cX8_as 79 = .ok (.goto 9, 3) := by decide +kernel
theorem dX8_as_82 : decode cX8_as 82 = .ok (.aload_n 0, 1) := by decide +kernel
theorem dX8_as_83 : decode cX8_as 83 = .ok (.ldc 91, 2) := by decide +kernel
theorem dX8_as_85 : decode cX8_as 85 = .ok (.invokevirtual 78, 3) := by decide +kernel
theorem dX8_as_88 : decode cX8_as 88 = .ok (.ireturn, 1) := by decide +kernel
theorem dX8_weighs_0 : decode cX8_weighs 0 = .ok (.aload_n 0, 1) := by decide +kernel
theorem dX8_weighs_1 : decode cX8_weighs 1 = .ok (.iload_n 1, 1) := by decide +kernel
theorem dX8_weighs_2 : decode cX8_weighs 2 = .ok (.invokevirtual 82, 3) := by decide +kernel
theorem dX8_weighs_5 : decode cX8_weighs 5 = .ok (.ifCond .eq 29, 3) := by decide +kernel
theorem dX8_weighs_8 : decode cX8_weighs 8 = .ok (.iload_n 2, 1) := by decide +kernel
theorem dX8_weighs_9 : decode cX8_weighs 9 = .ok (.iconst 0, 1) := by decide +kernel
theorem dX8_weighs_10 : decode cX8_weighs 10 = .ok (.bipush 9, 2) := by decide +kernel
theorem dX8_weighs_12 : decode cX8_weighs 12 = .ok (.invokestatic 44, 3) := by decide +kernel
theorem dX8_weighs_15 : decode cX8_weighs 15 = .ok (.ifCond .eq 19, 3) := by decide +kernel
theorem dX8_weighs_18 : decode cX8_weighs 18 = .ok (.aload_n 0, 1) := by decide +kernel
theorem dX8_weighs_19 : decode cX8_weighs 19 = .ok (.bipush 11, 2) := by decide +kernel
theorem dX8_weighs_21 : decode cX8_weighs 21 = .ok (.iconst 4, 1) := by decide +kernel
theorem dX8_weighs_22 : decode cX8_weighs 22 = .ok (.iload_n 1, 1) := by decide +kernel
theorem dX8_weighs_23 : decode cX8_weighs 23 = .ok (.imul, 1) := by decide +kernel
theorem dX8_weighs_24 : decode cX8_weighs 24 = .ok (.iadd, 1) := by decide +kernel
theorem dX8_weighs_25 : decode cX8_weighs 25 = .ok (.iconst 2, 1) := by decide +kernel
theorem dX8_weighs_26 : decode cX8_weighs 26 = .ok (.iadd, 1) := by decide +kernel
theorem dX8_weighs_27 : decode cX8_weighs 27 = .ok (.iload_n 2, 1) := by decide +kernel
theorem dX8_weighs_28 : decode cX8_weighs 28 = .ok (.invokevirtual 88, 3) := by decide +kernel
theorem dX8_weighs_31 : decode cX8_weighs 31 = .ok (.goto 9, 3) := by decide +kernel
theorem dX8_weighs_34 : decode cX8_weighs 34 = .ok (.aload_n 0, 1) := by decide +kernel
theorem dX8_weighs_35 : decode cX8_weighs 35 = .ok (.ldc 77, 2) := by decide +kernel
theorem dX8_weighs_37 : decode cX8_weighs 37 = .ok (.invokevirtual 78, 3) := by decide +kernel
theorem dX8_weighs_40 : decode cX8_weighs 40 = .ok (.ireturn, 1) := by decide +kernel
theorem dX8_runner_0 : decode cX8_runner 0 = .ok (.iload_n 1, 1) := by decide +kernel
theorem dX8_runner_1 : decode cX8_runner 1 = .ok (.iconst 0, 1) := by decide +kernel
theorem dX8_runner_2 : decode cX8_runner 2 = .ok (.bipush 99, 2) := by decide +kernel
theorem dX8_runner_4 : decode cX8_runner 4 = .ok (.invokestatic 44, 3) := by decide +kernel
theorem dX8_runner_7 : decode cX8_runner 7 = .ok (.ifCond .eq 13, 3) := by decide +kernel
theorem dX8_runner_10 : decode cX8_runner 10 = .ok (.iload_n 2, 1) := by decide +kernel
theorem dX8_runner_11 : decode cX8_runner 11 = .ok (.iconst 1, 1) := by decide +kernel
theorem dX8_runner_12 : decode cX8_runner 12 = .ok (.bipush 60, 2) := by decide +kernel
theorem dX8_runner_14 : decode cX8_runner 14 = .ok (.invokestatic 44, 3) := by decide +kernel
theorem dX8_runner_17 : decode cX8_runner 17 = .ok (.ifCond .ne 10, 3) := by decide +kernel
theorem dX8_runner_20 : decode cX8_runner 20 = .ok (.aload_n 0, 1) := by decide +kernel
theorem dX8_runner_21 : decode cX8_runner 21 = .ok (.ldc 77, 2) := by decide +kernel
theorem dX8_runner_23 : decode cX8_runner 23 = .ok (.invokevirtual 78, 3) := by decide +kernel
theorem dX8_runner_26 : decode cX8_runner 26 = .ok (.ireturn, 1) := by decide +kernel
theorem dX8_runner_27 : decode cX8_runner 27 = .ok (.aload_n 0, 1) := by decide +kernel
theorem dX8_runner_28 : decode cX8_runner 28 = .ok (.getfield 9, 3) := by decide +kernel
theorem dX8_runner_31 : decode cX8_runner 31 = .ok (.bipush 8, 2) := by decide +kernel
theorem dX8_runner_33 : decode cX8_runner 33 = .ok (.iaload, 1) := by decide +kernel
theorem dX8_runner_34 : decode cX8_runner 34 = .ok (.istore_n 3, 1) := by decide +kernel
theorem dX8_runner_35 : decode cX8_runner 35 = .ok (.iload_n 3, 1) := by decide +kernel
theorem dX8_runner_36 : decode cX8_runner 36 = .ok (.iconst 5, 1) := by decide +kernel
theorem dX8_runner_37 : decode cX8_runner 37 = .ok (.if_icmp .ne 10, 3) := by decide +kernel
theorem dX8_runner_40 : decode cX8_runner 40 = .ok (.aload_n 0, 1) := by decide +kernel
theorem dX8_runner_41 : decode cX8_runner 41 = .ok (.ldc 81, 2) := by decide +kernel
theorem dX8_runner_43 : decode cX8_runner 43 = .ok (.invokevirtual 78, 3) := by decide +kernel
theorem dX8_runner_46 : decode cX8_runner 46 = .ok (.ireturn, 1) := by decide +kernel
theorem dX8_runner_47 : decode cX8_runner 47 = .ok (.aload_n 0, 1) := by decide +kernel
theorem dX8_runner_48 : decode cX8_runner 48 = .ok (.getfield 9, 3) := by decide +kernel
theorem dX8_runner_51 : decode cX8_runner 51 = .ok (.bipush 8, 2) := by decide +kernel
theorem dX8_runner_53 : decode cX8_runner 53 = .ok (.dup2, 1) := by decide +kernel
theorem dX8_runner_54 : decode cX8_runner 54 = .ok (.iaload, 1) := by decide +kernel
theorem dX8_runner_55 : decode cX8_runner 55 = .ok (.iconst 1, 1) := by decide +kernel
theorem dX8_runner_56 : decode cX8_runner 56 = .ok (.iadd, 1) := by decide +kernel
theorem dX8_runner_57 : decode cX8_runner 57 = .ok (.iastore, 1) := by decide +kernel
theorem dX8_runner_58 : decode cX8_runner 58 = .ok (.aload_n 0, 1) := by decide +kernel
theorem dX8_runner_59 : decode cX8_runner 59 = .ok (.iload_n 3, 1) := by decide +kernel
theorem dX8_runner_60 : decode cX8_runner 60 = .ok (.iconst 0, 1) := by decide +kernel
theorem dX8_runner_61 : decode cX8_runner 61 = .ok (.iload_n 1, 1) := by decide +kernel
theorem dX8_runner_62 : decode cX8_runner 62 = .ok (.invokevirtual 92, 3) := by decide +kernel
theorem dX8_runner_65 : decode cX8_runner 65 = .ok (.aload_n 0, 1) := by decide +kernel
theorem dX8_runner_66 : decode cX8_runner 66 = .ok (.iload_n 3, 1) := by decide +kernel
theorem dX8_runner_67 : decode cX8_runner 67 = .ok (.iconst 1, 1) := by decide +kernel
theorem dX8_runner_68 : decode cX8_runner 68 = .ok (.iload_n 2, 1) := by decide +kernel
theorem dX8_runner_69 : decode cX8_runner 69 = .ok (.invokevirtual 92, 3) := by decide +kernel
theorem dX8_runner_72 : decode cX8_runner 72 = .ok (.aload_n 0, 1) := by decide +kernel
theorem dX8_runner_73 : decode cX8_runner 73 = .ok (.iload_n 3, 1) := by decide +kernel
theorem dX8_runner_74 : decode cX8_runner 74 = .ok (.iconst 2, 1) := by decide +kernel
theorem dX8_runner_75 : decode cX8_runner 75 = .ok (.iconst 0, 1) := by decide +kernel
theorem dX8_runner_76 : decode cX8_runner 76 = .ok (.invokevirtual 92, 3) := by decide +kernel
theorem dX8_runner_79 : decode cX8_runner 79 = .ok (.aload_n 0, 1) := by decide +kernel
theorem dX8_runner_80 : decode cX8_runner 80 = .ok (.iload_n 3, 1) := by decide +kernel
theorem dX8_runner_81 : decode cX8_runner 81 = .ok (.iconst 3, 1) := by decide +kernel
theorem dX8_runner_82 : decode cX8_runner 82 = .ok (.iconst 0, 1) := by decide +kernel
theorem dX8_runner_83 : decode cX8_runner 83 = .ok (.invokevirtual 92, 3) := by decide +kernel
theorem dX8_runner_86 : decode cX8_runner 86 = .ok (.aload_n 0, 1) := by decide +kernel
theorem dX8_runner_87 : decode cX8_runner 87 = .ok (.iload_n 3, 1) := by decide +kernel
theorem dX8_runner_88 : decode cX8_runner 88 = .ok (.iconst 4, 1) := by decide +kernel
theorem dX8_runner_89 : decode cX8_runner 89 = .ok (.iconst 0, 1) := by decide +kernel
theorem dX8_runner_90 : decode cX8_runner 90 = .ok (.invokevirtual 92, 3) := by decide +kernel
theorem dX8_runner_93 : decode cX8_runner 93 = .ok (.iload_n 3, 1) := by decide +kernel
theorem dX8_runner_94 : decode cX8_runner 94 = .ok (.ireturn, 1) := by decide +kernel
theorem dX8_runnerIs_0 : decode cX8_runnerIs 0 = .ok (.aload_n 0, 1) := by decide +kernel
theorem dX8_runnerIs_1 : decode cX8_runnerIs 1 = .ok (.iload_n 1, 1) := by decide +kernel
theorem dX8_runnerIs_2 : decode cX8_runnerIs 2 = .ok (.invokevirtual 96, 3) := by decide +kernel
theorem dX8_runnerIs_5 : decode cX8_runnerIs 5 = .ok (.ifCond .eq 13, 3) := by decide +kernel
theorem dX8_runnerIs_8 : decode cX8_runnerIs 8 = .ok (.iload_n 2, 1) := by decide +kernel
theorem dX8_runnerIs_9 : decode cX8_runnerIs 9 = .ok (.iconst 0, 1) := by decide +kernel
theorem dX8_runnerIs_10 : decode cX8_runnerIs 10 = .ok (.bipush 6, 2) := by decide +kernel
theorem dX8_runnerIs_12 : decode cX8_runnerIs 12 = .ok (.invokestatic 44, 3) := by decide +kernel
theorem dX8_runnerIs_15 : decode cX8_runnerIs 15 = .ok (.ifCond .ne 10, 3) := by decide +kernel
theorem dX8_runnerIs_18 : decode cX8_runnerIs 18 = .ok (.aload_n 0, 1) := by decide +kernel
theorem dX8_runnerIs_19 : decode cX8_runnerIs 19 = .ok (.ldc 77, 2) := by decide +kernel
theorem dX8_runnerIs_21 : decode cX8_runnerIs 21 = .ok (.invokevirtual 78, 3) := by decide +kernel
theorem dX8_runnerIs_24 : decode cX8_runnerIs 24 = .ok (.ireturn, 1) := by decide +kernel
theorem dX8_runnerIs_25 : decode cX8_runnerIs 25 = .ok (.aload_n 0, 1) := by decide +kernel
theorem dX8_runnerIs_26 : decode cX8_runnerIs 26 = .ok (.iload_n 1, 1) := by decide +kernel
theorem dX8_runnerIs_27 : decode cX8_runnerIs 27 = .ok (.iconst 2, 1) := by decide +kernel
theorem dX8_runnerIs_28 : decode cX8_runnerIs 28 = .ok (.invokevirtual 60, 3) := by decide +kernel
theorem dX8_runnerIs_31 : decode cX8_runnerIs 31 = .ok (.istore_n 3, 1) := by decide +kernel
theorem dX8_runnerIs_32 : decode cX8_runnerIs 32 = .ok (.iload_n 2, 1) := by decide +kernel
theorem dX8_runnerIs_33 : decode cX8_runnerIs 33 = .ok (.iconst 5, 1) := by decide +kernel
theorem dX8_runnerIs_34 : decode cX8_runnerIs 34 = .ok (.if_icmp .ge 12, 3) := by decide +kernel
theorem dX8_runnerIs_37 : decode cX8_runnerIs 37 = .ok (.aload_n 0, 1) := by decide +kernel
theorem dX8_runnerIs_38 : decode cX8_runnerIs 38 = .ok (.iload_n 1, 1) := by decide +kernel
theorem dX8_runnerIs_39 : decode cX8_runnerIs 39 = .ok (.iload_n 2, 1) := by decide +kernel
theorem dX8_runnerIs_40 : decode cX8_runnerIs 40 = .ok (.invokevirtual 60, 3) := by decide +kernel
theorem dX8_runnerIs_43 : decode cX8_runnerIs 43 = .ok (.goto 31, 3) := by decide +kernel
theorem dX8_runnerIs_46 : decode cX8_runnerIs 46 = .ok (.iload_n 2, 1) := by decide +kernel
theorem dX8_runnerIs_47 : decode cX8_runnerIs 47 = .ok (.iconst 5, 1) := by decide +kernel
theorem dX8_runnerIs_48 : decode cX8_runnerIs 48 = .ok (.if_icmp .ne 12, 3) := by decide +kernel
theorem dX8_runnerIs_51 : decode cX8_runnerIs 51 = .ok (.aload_n 0, 1) := by decide +kernel
theorem dX8_runnerIs_52 : decode cX8_runnerIs 52 = .ok (.iload_n 1, 1) := by decide +kernel
theorem dX8_runnerIs_53 : decode cX8_runnerIs 53 = .ok (.iload_n 3, 1) := by decide +kernel
theorem dX8_runnerIs_54 : decode cX8_runnerIs 54 = .ok (.invokevirtual 66, 3) := by decide +kernel
theorem dX8_runnerIs_57 : decode cX8_runnerIs 57 = .ok (.goto 17, 3) := by decide +kernel
theorem dX8_runnerIs_60 : decode cX8_runnerIs 60 = .ok (.aload_n 0, 1) := by decide +kernel
theorem dX8_runnerIs_61 : decode cX8_runnerIs 61 = .ok (.iload_n 1, 1) := by decide +kernel
theorem dX8_runnerIs_62 : decode cX8_runnerIs 62 = .ok (.iload_n 3, 1) := by decide +kernel
theorem dX8_runnerIs_63 : decode cX8_runnerIs 63 = .ok (.invokevirtual 99, 3) := by decide +kernel
theorem dX8_runnerIs_66 : decode cX8_runnerIs 66 = .ok (.ifCond .eq 7, 3) := by decide +kernel
theorem dX8_runnerIs_69 : decode cX8_runnerIs 69 = .ok (.iconst 1, 1) := by decide +kernel
theorem dX8_runnerIs_70 : decode cX8_runnerIs 70 = .ok (.goto 4, 3) := by decide +kernel
theorem dX8_runnerIs_73 : decode cX8_runnerIs 73 = .ok (.iconst 0, 1) := by decide +kernel
theorem dX8_runnerIs_74 : decode cX8_runnerIs 74 = .ok (.ireturn, 1) := by decide +kernel
theorem dX8_leads_0 : decode cX8_leads 0 = .ok (.aload_n 0, 1) := by decide +kernel
theorem dX8_leads_1 : decode cX8_leads 1 = .ok (.iload_n 1, 1) := by decide +kernel
theorem dX8_leads_2 : decode cX8_leads 2 = .ok (.invokevirtual 96, 3) := by decide +kernel
theorem dX8_leads_5 : decode cX8_leads 5 = .ok (.ifCond .eq 26, 3) := by decide +kernel
theorem dX8_leads_8 : decode cX8_leads 8 = .ok (.iload_n 2, 1) := by decide +kernel
theorem dX8_leads_9 : decode cX8_leads 9 = .ok (.invokestatic 103, 3) := by decide +kernel
theorem dX8_leads_12 : decode cX8_leads 12 = .ok (.ifCond .eq 19, 3) := by decide +kernel
theorem dX8_leads_15 : decode cX8_leads 15 = .ok (.aload_n 0, 1) := by decide +kernel
theorem dX8_leads_16 : decode cX8_leads 16 = .ok (.bipush 35, 2) := by decide +kernel
theorem dX8_leads_18 : decode cX8_leads 18 = .ok (.iconst 5, 1) := by decide +kernel
theorem dX8_leads_19 : decode cX8_leads 19 = .ok (.iload_n 1, 1) := by decide +kernel
theorem dX8_leads_20 : decode cX8_leads 20 = .ok (.imul, 1) := by decide +kernel
theorem dX8_leads_21 : decode cX8_leads 21 = .ok (.iadd, 1) := by decide +kernel
theorem dX8_leads_22 : decode cX8_leads 22 = .ok (.iconst 2, 1) := by decide +kernel
theorem dX8_leads_23 : decode cX8_leads 23 = .ok (.iadd, 1) := by decide +kernel
theorem dX8_leads_24 : decode cX8_leads 24 = .ok (.iload_n 2, 1) := by decide +kernel
theorem dX8_leads_25 : decode cX8_leads 25 = .ok (.invokevirtual 88, 3) := by decide +kernel
theorem dX8_leads_28 : decode cX8_leads 28 = .ok (.goto 9, 3) := by decide +kernel
theorem dX8_leads_31 : decode cX8_leads 31 = .ok (.aload_n 0, 1) := by decide +kernel
theorem dX8_leads_32 : decode cX8_leads 32 = .ok (.ldc 77, 2) := by decide +kernel
theorem dX8_leads_34 : decode cX8_leads 34 = .ok (.invokevirtual 78, 3) := by decide +kernel
theorem dX8_leads_37 : decode cX8_leads 37 = .ok (.ireturn, 1) := by decide +kernel
theorem dX8_set_0 : decode cX8_set 0 = .ok (.iload_n 1, 1) := by decide +kernel
theorem dX8_set_1 : decode cX8_set 1 = .ok (.iconst 0, 1) := by decide +kernel
theorem dX8_set_2 : decode cX8_set 2 = .ok (.iconst 3, 1) := by decide +kernel
theorem dX8_set_3 : decode cX8_set 3 = .ok (.invokestatic 44, 3) := by decide +kernel
theorem dX8_set_6 : decode cX8_set 6 = .ok (.ifCond .eq 37, 3) := by decide +kernel
theorem dX8_set_9 : decode cX8_set 9 = .ok (.iload_n 2, 1) := by decide +kernel
theorem dX8_set_10 : decode cX8_set 10 = .ok (.iconst 0, 1) := by decide +kernel
theorem dX8_set_11 : decode cX8_set 11 = .ok (.iload_n 1, 1) := by decide +kernel
theorem dX8_set_12 : decode cX8_set 12 = .ok (.iconst 2, 1) := by decide +kernel
theorem dX8_set_13 : decode cX8_set 13 = .ok (.if_icmp .ge 9, 3) := by decide +kernel
theorem dX8_set_16 : decode cX8_set 16 = .ok (.sipush 200, 3) := by decide +kernel
theorem dX8_set_19 : decode cX8_set 19 = .ok (.goto 14, 3) := by decide +kernel
theorem dX8_set_22 : decode cX8_set 22 = .ok (.iload_n 1, 1) := by decide +kernel
theorem dX8_set_23 : decode cX8_set 23 = .ok (.iconst 2, 1) := by decide +kernel
theorem dX8_set_24 : decode cX8_set 24 = .ok (.if_icmp .ne 8, 3) := by decide +kernel
theorem dX8_set_27 : decode cX8_set 27 = .ok (.bipush 9, 2) := by decide +kernel
theorem dX8_set_29 : decode cX8_set 29 = .ok (.goto 4, 3) := by decide +kernel
theorem dX8_set_32 : decode cX8_set 32 = .ok (.iconst 2, 1) := by decide +kernel
theorem dX8_set_33 : decode cX8_set 33 = .ok (.invokestatic 44, 3) := by decide +kernel
theorem dX8_set_36 : decode cX8_set 36 = .ok (.ifCond .eq 7, 3) := by decide +kernel
theorem dX8_set_39 : decode cX8_set 39 = .ok (.iconst 1, 1) := by decide +kernel
theorem dX8_set_40 : decode cX8_set 40 = .ok (.goto 4, 3) := by decide +kernel
theorem dX8_set_43 : decode cX8_set 43 = .ok (.iconst 0, 1) := by decide +kernel
theorem dX8_set_44 : decode cX8_set 44 = .ok (.istore_n 3, 1) := by decide +kernel
theorem dX8_set_45 : decode cX8_set 45 = .ok (.iload_n 3, 1) := by decide +kernel
theorem dX8_set_46 : decode cX8_set 46 = .ok (.ifCond .eq 14, 3) := by decide +kernel
theorem dX8_set_49 : decode cX8_set 49 = .ok (.aload_n 0, 1) := by decide +kernel
theorem dX8_set_50 : decode cX8_set 50 = .ok (.iconst 0, 1) := by decide +kernel
theorem dX8_set_51 : decode cX8_set 51 = .ok (.iload_n 1, 1) := by decide +kernel
theorem dX8_set_52 : decode cX8_set 52 = .ok (.iadd, 1) := by decide +kernel
theorem dX8_set_53 : decode cX8_set 53 = .ok (.iload_n 2, 1) := by decide +kernel
theorem dX8_set_54 : decode cX8_set 54 = .ok (.invokevirtual 88, 3) := by decide +kernel
theorem dX8_set_57 : decode cX8_set 57 = .ok (.goto 9, 3) := by decide +kernel
theorem dX8_set_60 : decode cX8_set 60 = .ok (.aload_n 0, 1) := by decide +kernel
theorem dX8_set_61 : decode cX8_set 61 = .ok (.ldc 77, 2) := by decide +kernel
theorem dX8_set_63 : decode cX8_set 63 = .ok (.invokevirtual 78, 3) := by decide +kernel
theorem dX8_set_66 : decode cX8_set 66 = .ok (.ireturn, 1) := by decide +kernel
theorem dX8_more_0 : decode cX8_more 0 = .ok (.aload_n 0, 1) := by decide +kernel
theorem dX8_more_1 : decode cX8_more 1 = .ok (.getfield 9, 3) := by decide +kernel
theorem dX8_more_4 : decode cX8_more 4 = .ok (.iload_n 1, 1) := by decide +kernel
theorem dX8_more_5 : decode cX8_more 5 = .ok (.aload_n 0, 1) := by decide +kernel
theorem dX8_more_6 : decode cX8_more 6 = .ok (.getfield 9, 3) := by decide +kernel
theorem dX8_more_9 : decode cX8_more 9 = .ok (.iload_n 1, 1) := by decide +kernel
theorem dX8_more_10 : decode cX8_more 10 = .ok (.iaload, 1) := by decide +kernel
theorem dX8_more_11 : decode cX8_more 11 = .ok (.iconst 1, 1) := by decide +kernel
theorem dX8_more_12 : decode cX8_more 12 = .ok (.iadd, 1) := by decide +kernel
theorem dX8_more_13 : decode cX8_more 13 = .ok (.iconst 0, 1) := by decide +kernel
theorem dX8_more_14 : decode cX8_more 14 = .ok (.sipush 9999, 3) := by decide +kernel
theorem dX8_more_17 : decode cX8_more 17 = .ok (.invokestatic 106, 3) := by decide +kernel
theorem dX8_more_20 : decode cX8_more 20 = .ok (.iastore, 1) := by decide +kernel
theorem dX8_more_21 : decode cX8_more 21 = .ok (.return_, 1) := by decide +kernel
theorem dX8_isOut_0 : decode cX8_isOut 0 = .ok (.aload_n 0, 1) := by decide +kernel
theorem dX8_isOut_1 : decode cX8_isOut 1 = .ok (.bipush 35, 2) := by decide +kernel
theorem dX8_isOut_3 : decode cX8_isOut 3 = .ok (.iconst 5, 1) := by decide +kernel
theorem dX8_isOut_4 : decode cX8_isOut 4 = .ok (.iload_n 1, 1) := by decide +kernel
theorem dX8_isOut_5 : decode cX8_isOut 5 = .ok (.imul, 1) := by decide +kernel
theorem dX8_isOut_6 : decode cX8_isOut 6 = .ok (.iadd, 1) := by decide +kernel
theorem dX8_isOut_7 : decode cX8_isOut 7 = .ok (.iconst 4, 1) := by decide +kernel
theorem dX8_isOut_8 : decode cX8_isOut 8 = .ok (.iadd, 1) := by decide +kernel
theorem dX8_isOut_9 : decode cX8_isOut 9 = .ok (.invokevirtual 109, 3) := by decide +kernel
theorem dX8_isOut_12 : decode cX8_isOut 12 = .ok (.aload_n 0, 1) := by decide +kernel
theorem dX8_isOut_13 : decode cX8_isOut 13 = .ok (.iload_n 1, 1) := by decide +kernel
theorem dX8_isOut_14 : decode cX8_isOut 14 = .ok (.iconst 2, 1) := by decide +kernel
theorem dX8_isOut_15 : decode cX8_isOut 15 = .ok (.iconst 0, 1) := by decide +kernel
theorem dX8_isOut_16 : decode cX8_isOut 16 = .ok (.invokevirtual 92, 3) := by decide +kernel
theorem dX8_isOut_19 : decode cX8_isOut 19 = .ok (.aload_n 0, 1) := by decide +kernel
theorem dX8_isOut_20 : decode cX8_isOut 20 = .ok (.getfield 9, 3) := by decide +kernel
theorem dX8_isOut_23 : decode cX8_isOut 23 = .ok (.iconst 3, 1) := by decide +kernel
theorem dX8_isOut_24 : decode cX8_isOut 24 = .ok (.dup2, 1) := by decide +kernel
theorem dX8_isOut_25 : decode cX8_isOut 25 = .ok (.iaload, 1) := by decide +kernel
theorem dX8_isOut_26 : decode cX8_isOut 26 = .ok (.iconst 1, 1) := by decide +kernel
theorem dX8_isOut_27 : decode cX8_isOut 27 = .ok (.iadd, 1) := by decide +kernel
theorem dX8_isOut_28 : decode cX8_isOut 28 = .ok (.iastore, 1) := by decide +kernel
theorem dX8_isOut_29 : decode cX8_isOut 29 = .ok (.aload_n 0, 1) := by decide +kernel
theorem dX8_isOut_30 : decode cX8_isOut 30 = .ok (.getfield 9, 3) := by decide +kernel
theorem dX8_isOut_33 : decode cX8_isOut 33 = .ok (.iconst 3, 1) := by decide +kernel
theorem dX8_isOut_34 : decode cX8_isOut 34 = .ok (.iaload, 1) := by decide +kernel
theorem dX8_isOut_35 : decode cX8_isOut 35 = .ok (.iconst 3, 1) := by decide +kernel
theorem dX8_isOut_36 : decode cX8_isOut 36 = .ok (.if_icmp .ne 15, 3) := by decide +kernel
theorem dX8_isOut_39 : decode cX8_isOut 39 = .ok (.aload_n 0, 1) := by decide +kernel
theorem dX8_isOut_40 : decode cX8_isOut 40 = .ok (.getfield 9, 3) := by decide +kernel
theorem dX8_isOut_43 : decode cX8_isOut 43 = .ok (.iconst 3, 1) := by decide +kernel
theorem dX8_isOut_44 : decode cX8_isOut 44 = .ok (.iconst 0, 1) := by decide +kernel
theorem dX8_isOut_45 : decode cX8_isOut 45 = .ok (.iastore, 1) := by decide +kernel
theorem dX8_isOut_46 : decode cX8_isOut 46 = .ok (.aload_n 0, 1) := by decide +kernel
theorem dX8_isOut_47 : decode cX8_isOut 47 = .ok (.iconst 4, 1) := by decide +kernel
theorem dX8_isOut_48 : decode cX8_isOut 48 = .ok (.invokevirtual 109, 3) := by decide +kernel
theorem dX8_isOut_51 : decode cX8_isOut 51 = .ok (.return_, 1) := by decide +kernel
theorem dX8_goes_0 : decode cX8_goes 0 = .ok (.aload_n 0, 1) := by decide +kernel
theorem dX8_goes_1 : decode cX8_goes 1 = .ok (.iload_n 1, 1) := by decide +kernel
theorem dX8_goes_2 : decode cX8_goes 2 = .ok (.iconst 2, 1) := by decide +kernel
theorem dX8_goes_3 : decode cX8_goes 3 = .ok (.invokevirtual 60, 3) := by decide +kernel
theorem dX8_goes_6 : decode cX8_goes 6 = .ok (.istore_n 3, 1) := by decide +kernel
theorem dX8_goes_7 : decode cX8_goes 7 = .ok (.aload_n 0, 1) := by decide +kernel
theorem dX8_goes_8 : decode cX8_goes 8 = .ok (.iload_n 1, 1) := by decide +kernel
theorem dX8_goes_9 : decode cX8_goes 9 = .ok (.iload_n 2, 1) := by decide +kernel
theorem dX8_goes_10 : decode cX8_goes 10 = .ok (.iload_n 3, 1) := by decide +kernel
theorem dX8_goes_11 : decode cX8_goes 11 = .ok (.invokevirtual 113, 3) := by decide +kernel
theorem dX8_goes_14 : decode cX8_goes 14 = .ok (.istore 4, 2) := by decide +kernel
theorem dX8_goes_16 : decode cX8_goes 16 = .ok (.aload_n 0, 1) := by decide +kernel
theorem dX8_goes_17 : decode cX8_goes 17 = .ok (.getfield 9, 3) := by decide +kernel
theorem dX8_goes_20 : decode cX8_goes 20 = .ok (.iconst 5, 1) := by decide +kernel
theorem dX8_goes_21 : decode cX8_goes 21 = .ok (.aload_n 0, 1) := by decide +kernel
theorem dX8_goes_22 : decode cX8_goes 22 = .ok (.getfield 9, 3) := by decide +kernel
theorem dX8_goes_25 : decode cX8_goes 25 = .ok (.iconst 5, 1) := by decide +kernel
theorem dX8_goes_26 : decode cX8_goes 26 = .ok (.iaload, 1) := by decide +kernel
theorem dX8_goes_27 : decode cX8_goes 27 = .ok (.aload_n 0, 1) := by decide +kernel
theorem dX8_goes_28 : decode cX8_goes 28 = .ok (.iload_n 1, 1) := by decide +kernel
theorem dX8_goes_29 : decode cX8_goes 29 = .ok (.iload_n 2, 1) := by decide +kernel
theorem dX8_goes_30 : decode cX8_goes 30 = .ok (.iload_n 3, 1) := by decide +kernel
theorem dX8_goes_31 : decode cX8_goes 31 = .ok (.invokevirtual 116, 3) := by decide +kernel
theorem dX8_goes_34 : decode cX8_goes 34 = .ok (.iadd, 1) := by decide +kernel
theorem dX8_goes_35 : decode cX8_goes 35 = .ok (.sipush (-9999), 3) := by decide +kernel
theorem dX8_goes_38 : decode cX8_goes 38 = .ok (.sipush 9999, 3) := by decide +kernel
theorem dX8_goes_41 : decode cX8_goes 41 = .ok (.invokestatic 106, 3) := by decide +kernel
theorem dX8_goes_44 : decode cX8_goes 44 = .ok (.iastore, 1) := by decide +kernel
theorem dX8_goes_45 : decode cX8_goes 45 = .ok (.aload_n 0, 1) := by decide +kernel
theorem dX8_goes_46 : decode cX8_goes 46 = .ok (.bipush 11, 2) := by decide +kernel
theorem dX8_goes_48 : decode cX8_goes 48 = .ok (.iconst 4, 1) := by decide +kernel
theorem dX8_goes_49 : decode cX8_goes 49 = .ok (.iload_n 2, 1) := by decide +kernel
theorem dX8_goes_50 : decode cX8_goes 50 = .ok (.imul, 1) := by decide +kernel
theorem dX8_goes_51 : decode cX8_goes 51 = .ok (.iadd, 1) := by decide +kernel
theorem dX8_goes_52 : decode cX8_goes 52 = .ok (.iconst 3, 1) := by decide +kernel
theorem dX8_goes_53 : decode cX8_goes 53 = .ok (.iadd, 1) := by decide +kernel
theorem dX8_goes_54 : decode cX8_goes 54 = .ok (.invokevirtual 109, 3) := by decide +kernel
theorem dX8_goes_57 : decode cX8_goes 57 = .ok (.iload 4, 2) := by decide +kernel
theorem dX8_goes_59 : decode cX8_goes 59 = .ok (.ifCond .eq 25, 3) := by decide +kernel
theorem dX8_goes_62 : decode cX8_goes 62 = .ok (.aload_n 0, 1) := by decide +kernel
theorem dX8_goes_63 : decode cX8_goes 63 = .ok (.bipush 35, 2) := by decide +kernel
theorem dX8_goes_65 : decode cX8_goes 65 = .ok (.iconst 5, 1) := by decide +kernel
theorem dX8_goes_66 : decode cX8_goes 66 = .ok (.iload_n 1, 1) := by decide +kernel
theorem dX8_goes_67 : decode cX8_goes 67 = .ok (.imul, 1) := by decide +kernel
theorem dX8_goes_68 : decode cX8_goes 68 = .ok (.iadd, 1) := by decide +kernel
theorem dX8_goes_69 : decode cX8_goes 69 = .ok (.iconst 3, 1) := by decide +kernel
theorem dX8_goes_70 : decode cX8_goes 70 = .ok (.iadd, 1) := by decide +kernel
theorem dX8_goes_71 : decode cX8_goes 71 = .ok (.invokevirtual 109, 3) := by decide +kernel
theorem dX8_goes_74 : decode cX8_goes 74 = .ok (.aload_n 0, 1) := by decide +kernel
theorem dX8_goes_75 : decode cX8_goes 75 = .ok (.iload_n 1, 1) := by decide +kernel
theorem dX8_goes_76 : decode cX8_goes 76 = .ok (.iconst 2, 1) := by decide +kernel
theorem dX8_goes_77 : decode cX8_goes 77 = .ok (.iconst 0, 1) := by decide +kernel
theorem dX8_goes_78 : decode cX8_goes 78 = .ok (.invokevirtual 92, 3) := by decide +kernel
theorem dX8_goes_81 : decode cX8_goes 81 = .ok (.goto 8, 3) := by decide +kernel
theorem dX8_goes_84 : decode cX8_goes 84 = .ok (.aload_n 0, 1) := by decide +kernel
theorem dX8_goes_85 : decode cX8_goes 85 = .ok (.iload_n 1, 1) := by decide +kernel
theorem dX8_goes_86 : decode cX8_goes 86 = .ok (.invokevirtual 119, 3) := by decide +kernel
theorem dX8_goes_89 : decode cX8_goes 89 = .ok (.iload 4, 2) := by decide +kernel
theorem dX8_goes_91 : decode cX8_goes 91 = .ok (.ireturn, 1) := by decide +kernel
theorem dX8_steal_0 : decode cX8_steal 0 = .ok (.aload_n 0, 1) := by decide +kernel
theorem dX8_steal_1 : decode cX8_steal 1 = .ok (.iload_n 1, 1) := by decide +kernel
theorem dX8_steal_2 : decode cX8_steal 2 = .ok (.invokevirtual 96, 3) := by decide +kernel
theorem dX8_steal_5 : decode cX8_steal 5 = .ok (.ifCond .eq 11, 3) := by decide +kernel
theorem dX8_steal_8 : decode cX8_steal 8 = .ok (.aload_n 0, 1) := by decide +kernel
theorem dX8_steal_9 : decode cX8_steal 9 = .ok (.iload_n 2, 1) := by decide +kernel
theorem dX8_steal_10 : decode cX8_steal 10 = .ok (.invokevirtual 82, 3) := by decide +kernel
theorem dX8_steal_13 : decode cX8_steal 13 = .ok (.ifCond .ne 10, 3) := by decide +kernel
theorem dX8_steal_16 : decode cX8_steal 16 = .ok (.aload_n 0, 1) := by decide +kernel
theorem dX8_steal_17 : decode cX8_steal 17 = .ok (.ldc 77, 2) := by decide +kernel
theorem dX8_steal_19 : decode cX8_steal 19 = .ok (.invokevirtual 78, 3) := by decide +kernel
theorem dX8_steal_22 : decode cX8_steal 22 = .ok (.ireturn, 1) := by decide +kernel
theorem dX8_steal_23 : decode cX8_steal 23 = .ok (.aload_n 0, 1) := by decide +kernel
theorem dX8_steal_24 : decode cX8_steal 24 = .ok (.iload_n 1, 1) := by decide +kernel
theorem dX8_steal_25 : decode cX8_steal 25 = .ok (.iload_n 2, 1) := by decide +kernel
theorem dX8_steal_26 : decode cX8_steal 26 = .ok (.invokevirtual 122, 3) := by decide +kernel
theorem dX8_steal_29 : decode cX8_steal 29 = .ok (.ifCond .eq 7, 3) := by decide +kernel
theorem dX8_steal_32 : decode cX8_steal 32 = .ok (.iconst 1, 1) := by decide +kernel
theorem dX8_steal_33 : decode cX8_steal 33 = .ok (.goto 4, 3) := by decide +kernel
theorem dX8_steal_36 : decode cX8_steal 36 = .ok (.iconst 0, 1) := by decide +kernel
theorem dX8_steal_37 : decode cX8_steal 37 = .ok (.ireturn, 1) := by decide +kernel
theorem dX8_over_0 : decode cX8_over 0 = .ok (.aload_n 0, 1) := by decide +kernel
theorem dX8_over_1 : decode cX8_over 1 = .ok (.iload_n 1, 1) := by decide +kernel
theorem dX8_over_2 : decode cX8_over 2 = .ok (.invokevirtual 96, 3) := by decide +kernel
theorem dX8_over_5 : decode cX8_over 5 = .ok (.ifCond .ne 10, 3) := by decide +kernel
theorem dX8_over_8 : decode cX8_over 8 = .ok (.aload_n 0, 1) := by decide +kernel
theorem dX8_over_9 : decode cX8_over 9 = .ok (.ldc 77, 2) := by decide +kernel
theorem dX8_over_11 : decode cX8_over 11 = .ok (.invokevirtual 78, 3) := by decide +kernel
theorem dX8_over_14 : decode cX8_over 14 = .ok (.ireturn, 1) := by decide +kernel
theorem dX8_over_15 : decode cX8_over 15 = .ok (.aload_n 0, 1) := by decide +kernel
theorem dX8_over_16 : decode cX8_over 16 = .ok (.iload_n 1, 1) := by decide +kernel
theorem dX8_over_17 : decode cX8_over 17 = .ok (.aload_n 0, 1) := by decide +kernel
theorem dX8_over_18 : decode cX8_over 18 = .ok (.iload_n 1, 1) := by decide +kernel
theorem dX8_over_19 : decode cX8_over 19 = .ok (.iconst 2, 1) := by decide +kernel
theorem dX8_over_20 : decode cX8_over 20 = .ok (.invokevirtual 60, 3) := by decide +kernel
theorem dX8_over_23 : decode cX8_over 23 = .ok (.invokevirtual 99, 3) := by decide +kernel
theorem dX8_over_26 : decode cX8_over 26 = .ok (.istore_n 2, 1) := by decide +kernel
theorem dX8_over_27 : decode cX8_over 27 = .ok (.iload_n 2, 1) := by decide +kernel
theorem dX8_over_28 : decode cX8_over 28 = .ok (.ifCond .eq 8, 3) := by decide +kernel
theorem dX8_over_31 : decode cX8_over 31 = .ok (.aload_n 0, 1) := by decide +kernel
theorem dX8_over_32 : decode cX8_over 32 = .ok (.iload_n 1, 1) := by decide +kernel
theorem dX8_over_33 : decode cX8_over 33 = .ok (.invokevirtual 119, 3) := by decide +kernel
theorem dX8_over_36 : decode cX8_over 36 = .ok (.iload_n 2, 1) := by decide +kernel
theorem dX8_over_37 : decode cX8_over 37 = .ok (.ifCond .eq 7, 3) := by decide +kernel
theorem dX8_over_40 : decode cX8_over 40 = .ok (.iconst 1, 1) := by decide +kernel
theorem dX8_over_41 : decode cX8_over 41 = .ok (.goto 4, 3) := by decide +kernel
theorem dX8_over_44 : decode cX8_over 44 = .ok (.iconst 0, 1) := by decide +kernel
theorem dX8_over_45 : decode cX8_over 45 = .ok (.ireturn, 1) := by decide +kernel
theorem dX8_feed_0 : decode cX8_feed 0 = .ok (.iload_n 3, 1) := by decide +kernel
theorem dX8_feed_1 : decode cX8_feed 1 = .ok (.iconst 1, 1) := by decide +kernel
theorem dX8_feed_2 : decode cX8_feed 2 = .ok (.bipush 8, 2) := by decide +kernel
theorem dX8_feed_4 : decode cX8_feed 4 = .ok (.invokestatic 44, 3) := by decide +kernel
theorem dX8_feed_7 : decode cX8_feed 7 = .ok (.ifCond .ne 10, 3) := by decide +kernel
theorem dX8_feed_10 : decode cX8_feed 10 = .ok (.aload_n 0, 1) := by decide +kernel
theorem dX8_feed_11 : decode cX8_feed 11 = .ok (.ldc 77, 2) := by decide +kernel
theorem dX8_feed_13 : decode cX8_feed 13 = .ok (.invokevirtual 78, 3) := by decide +kernel
theorem dX8_feed_16 : decode cX8_feed 16 = .ok (.ireturn, 1) := by decide +kernel
theorem dX8_feed_17 : decode cX8_feed 17 = .ok (.aload_n 0, 1) := by decide +kernel
theorem dX8_feed_18 : decode cX8_feed 18 = .ok (.getfield 9, 3) := by decide +kernel
theorem dX8_feed_21 : decode cX8_feed 21 = .ok (.bipush 9, 2) := by decide +kernel
theorem dX8_feed_23 : decode cX8_feed 23 = .ok (.iaload, 1) := by decide +kernel
theorem dX8_feed_24 : decode cX8_feed 24 = .ok (.iload_n 3, 1) := by decide +kernel
theorem dX8_feed_25 : decode cX8_feed 25 = .ok (.iadd, 1) := by decide +kernel
theorem dX8_feed_26 : decode cX8_feed 26 = .ok (.bipush 60, 2) := by decide +kernel
theorem dX8_feed_28 : decode cX8_feed 28 = .ok (.if_icmp .le 10, 3) := by decide +kernel
theorem dX8_feed_31 : decode cX8_feed 31 = .ok (.aload_n 0, 1) := by decide +kernel
theorem dX8_feed_32 : decode cX8_feed 32 = .ok (.ldc 81, 2) := by decide +kernel
theorem dX8_feed_34 : decode cX8_feed 34 = .ok (.invokevirtual 78, 3) := by decide +kernel
theorem dX8_feed_37 : decode cX8_feed 37 = .ok (.ireturn, 1) := by decide +kernel
theorem dX8_feed_38 : decode cX8_feed 38 = .ok (.iconst 0, 1) := by decide +kernel
theorem dX8_feed_39 : decode cX8_feed 39 = .ok (.istore 4, 2) := by decide +kernel
theorem dX8_feed_41 : decode cX8_feed 41 = .ok (.iload 4, 2) := by decide +kernel
theorem dX8_feed_43 : decode cX8_feed 43 = .ok (.iload_n 3, 1) := by decide +kernel
theorem dX8_feed_44 : decode cX8_feed 44 = .ok (.if_icmp .ge 47, 3) := by decide +kernel
theorem dX8_feed_47 : decode cX8_feed 47 = .ok (.aload_n 0, 1) := by decide +kernel
theorem dX8_feed_48 : decode cX8_feed 48 = .ok (.getfield 9, 3) := by decide +kernel
theorem dX8_feed_51 : decode cX8_feed 51 = .ok (.bipush 60, 2) := by decide +kernel
theorem dX8_feed_53 : decode cX8_feed 53 = .ok (.aload_n 0, 1) := by decide +kernel
theorem dX8_feed_54 : decode cX8_feed 54 = .ok (.getfield 9, 3) := by decide +kernel
theorem dX8_feed_57 : decode cX8_feed 57 = .ok (.bipush 9, 2) := by decide +kernel
theorem dX8_feed_59 : decode cX8_feed 59 = .ok (.iaload, 1) := by decide +kernel
theorem dX8_feed_60 : decode cX8_feed 60 = .ok (.iadd, 1) := by decide +kernel
theorem dX8_feed_61 : decode cX8_feed 61 = .ok (.lload_n 1, 1) := by decide +kernel
theorem dX8_feed_62 : decode cX8_feed 62 = .ok (.bipush 8, 2) := by decide +kernel
theorem dX8_feed_64 : decode cX8_feed 64 = .ok (.iload 4, 2) := by decide +kernel
theorem dX8_feed_66 : decode cX8_feed 66 = .ok (.imul, 1) := by decide +kernel
theorem dX8_feed_67 : decode cX8_feed 67 = .ok (.lshr, 1) := by decide +kernel
theorem dX8_feed_68 : decode cX8_feed 68 = .ok (.ldc2_w 125, 3) := by decide +kernel
theorem dX8_feed_71 : decode cX8_feed 71 = .ok (.land, 1) := by decide +kernel
theorem dX8_feed_72 : decode cX8_feed 72 = .ok (.l2i, 1) := by decide +kernel
theorem dX8_feed_73 : decode cX8_feed 73 = .ok (.iastore, 1) := by decide +kernel
theorem dX8_feed_74 : decode cX8_feed 74 = .ok (.aload_n 0, 1) := by decide +kernel
theorem dX8_feed_75 : decode cX8_feed 75 = .ok (.getfield 9, 3) := by decide +kernel
theorem dX8_feed_78 : decode cX8_feed 78 = .ok (.bipush 9, 2) := by decide +kernel
theorem dX8_feed_80 : decode cX8_feed 80 = .ok (.dup2, 1) := by decide +kernel
theorem dX8_feed_81 : decode cX8_feed 81 = .ok (.iaload, 1) := by decide +kernel
theorem dX8_feed_82 : decode cX8_feed 82 = .ok (.iconst 1, 1) := by decide +kernel
theorem dX8_feed_83 : decode cX8_feed 83 = .ok (.iadd, 1) := by decide +kernel
theorem dX8_feed_84 : decode cX8_feed 84 = .ok (.iastore, 1) := by decide +kernel
theorem dX8_feed_85 : decode cX8_feed 85 = .ok (.iinc 4 1, 3) := by decide +kernel
theorem dX8_feed_88 : decode cX8_feed 88 = .ok (.goto (-47), 3) := by decide +kernel
theorem dX8_feed_91 : decode cX8_feed 91 = .ok (.aload_n 0, 1) := by decide +kernel
theorem dX8_feed_92 : decode cX8_feed 92 = .ok (.getfield 9, 3) := by decide +kernel
theorem dX8_feed_95 : decode cX8_feed 95 = .ok (.bipush 9, 2) := by decide +kernel
theorem dX8_feed_97 : decode cX8_feed 97 = .ok (.iaload, 1) := by decide +kernel
theorem dX8_feed_98 : decode cX8_feed 98 = .ok (.ireturn, 1) := by decide +kernel
theorem dX8_look_0 : decode cX8_look 0 = .ok (.aload_n 0, 1) := by decide +kernel
theorem dX8_look_1 : decode cX8_look 1 = .ok (.getfield 127, 3) := by decide +kernel
theorem dX8_look_4 : decode cX8_look 4 = .ok (.aload_n 0, 1) := by decide +kernel
theorem dX8_look_5 : decode cX8_look 5 = .ok (.getfield 9, 3) := by decide +kernel
theorem dX8_look_8 : decode cX8_look 8 = .ok (.bipush 9, 2) := by decide +kernel
theorem dX8_look_10 : decode cX8_look 10 = .ok (.iaload, 1) := by decide +kernel
theorem dX8_look_11 : decode cX8_look 11 = .ok (.if_icmp .ge 18, 3) := by decide +kernel
theorem dX8_look_14 : decode cX8_look 14 = .ok (.aload_n 0, 1) := by decide +kernel
theorem dX8_look_15 : decode cX8_look 15 = .ok (.getfield 9, 3) := by decide +kernel
theorem dX8_look_18 : decode cX8_look 18 = .ok (.bipush 60, 2) := by decide +kernel
theorem dX8_look_20 : decode cX8_look 20 = .ok (.aload_n 0, 1) := by decide +kernel
theorem dX8_look_21 : decode cX8_look 21 = .ok (.getfield 127, 3) := by decide +kernel
theorem dX8_look_24 : decode cX8_look 24 = .ok (.iadd, 1) := by decide +kernel
theorem dX8_look_25 : decode cX8_look 25 = .ok (.iaload, 1) := by decide +kernel
theorem dX8_look_26 : decode cX8_look 26 = .ok (.goto 4, 3) := by decide +kernel
theorem dX8_look_29 : decode cX8_look 29 = .ok (.iconst (-1), 1) := by decide +kernel
theorem dX8_look_30 : decode cX8_look 30 = .ok (.ireturn, 1) := by decide +kernel
theorem dX8_lays_0 : decode cX8_lays 0 = .ok (.aload_n 0, 1) := by decide +kernel
theorem dX8_lays_1 : decode cX8_lays 1 = .ok (.getfield 131, 3) := by decide +kernel
theorem dX8_lays_4 : decode cX8_lays 4 = .ok (.aload_n 0, 1) := by decide +kernel
theorem dX8_lays_5 : decode cX8_lays 5 = .ok (.getfield 28, 3) := by decide +kernel
theorem dX8_lays_8 : decode cX8_lays 8 = .ok (.arraylength, 1) := by decide +kernel
theorem dX8_lays_9 : decode cX8_lays 9 = .ok (.if_icmp .ge 33, 3) := by decide +kernel
theorem dX8_lays_12 : decode cX8_lays 12 = .ok (.aload_n 0, 1) := by decide +kernel
theorem dX8_lays_13 : decode cX8_lays 13 = .ok (.getfield 28, 3) := by decide +kernel
theorem dX8_lays_16 : decode cX8_lays 16 = .ok (.aload_n 0, 1) := by decide +kernel
theorem dX8_lays_17 : decode cX8_lays 17 = .ok (.getfield 131, 3) := by decide +kernel
theorem dX8_lays_20 : decode cX8_lays 20 = .ok (.iload_n 1, 1) := by decide +kernel
theorem dX8_lays_21 : decode cX8_lays 21 = .ok (.iastore, 1) := by decide +kernel
theorem dX8_lays_22 : decode cX8_lays 22 = .ok (.aload_n 0, 1) := by decide +kernel
theorem dX8_lays_23 : decode cX8_lays 23 = .ok (.getfield 31, 3) := by decide +kernel
theorem dX8_lays_26 : decode cX8_lays 26 = .ok (.aload_n 0, 1) := by decide +kernel
theorem dX8_lays_27 : decode cX8_lays 27 = .ok (.getfield 131, 3) := by decide +kernel
theorem dX8_lays_30 : decode cX8_lays 30 = .ok (.iload_n 2, 1) := by decide +kernel
theorem dX8_lays_31 : decode cX8_lays 31 = .ok (.iastore, 1) := by decide +kernel
theorem dX8_lays_32 : decode cX8_lays 32 = .ok (.aload_n 0, 1) := by decide +kernel
theorem dX8_lays_33 : decode cX8_lays 33 = .ok (.dup, 1) := by decide +kernel
theorem dX8_lays_34 : decode cX8_lays 34 = .ok (.getfield 131, 3) := by decide +kernel
theorem dX8_lays_37 : decode cX8_lays 37 = .ok (.iconst 1, 1) := by decide +kernel
theorem dX8_lays_38 : decode cX8_lays 38 = .ok (.iadd, 1) := by decide +kernel
theorem dX8_lays_39 : decode cX8_lays 39 = .ok (.putfield 131, 3) := by decide +kernel
theorem dX8_lays_42 : decode cX8_lays 42 = .ok (.return_, 1) := by decide +kernel
theorem dX8_nameOf_0 : decode cX8_nameOf 0 = .ok (.iload_n 1, 1) := by decide +kernel
theorem dX8_nameOf_1 : decode cX8_nameOf 1 = .ok (.lookupswitch 100 #[(97, 53), (109, 76), (111, 51), (115, 76), (119, 53)], 51) := by decide +kernel
theorem dX8_nameOf_52 : decode cX8_nameOf 52 = .ok (.iconst 2, 1) := by decide +kernel
theorem dX8_nameOf_53 : decode cX8_nameOf 53 = .ok (.ireturn, 1) := by decide +kernel
theorem dX8_nameOf_54 : decode cX8_nameOf 54 = .ok (.aload_n 0, 1) := by decide +kernel
theorem dX8_nameOf_55 : decode cX8_nameOf 55 = .ok (.getfield 134, 3) := by decide +kernel
theorem dX8_nameOf_58 : decode cX8_nameOf 58 = .ok (.ifCond .eq 7, 3) := by decide +kernel
theorem dX8_nameOf_61 : decode cX8_nameOf 61 = .ok (.iconst (-1), 1) := by decide +kernel
theorem dX8_nameOf_62 : decode cX8_nameOf 62 = .ok (.goto 14, 3) := by decide +kernel
theorem dX8_nameOf_65 : decode cX8_nameOf 65 = .ok (.iload_n 1, 1) := by decide +kernel
theorem dX8_nameOf_66 : decode cX8_nameOf 66 = .ok (.bipush 97, 2) := by decide +kernel
theorem dX8_nameOf_68 : decode cX8_nameOf 68 = .ok (.if_icmp .ne 7, 3) := by decide +kernel
theorem dX8_nameOf_71 : decode cX8_nameOf 71 = .ok (.iconst 0, 1) := by decide +kernel
theorem dX8_nameOf_72 : decode cX8_nameOf 72 = .ok (.goto 4, 3) := by decide +kernel
theorem dX8_nameOf_75 : decode cX8_nameOf 75 = .ok (.iconst 1, 1) := by decide +kernel
theorem dX8_nameOf_76 : decode cX8_nameOf 76 = .ok (.ireturn, 1) := by decide +kernel
theorem dX8_nameOf_77 : decode cX8_nameOf 77 = .ok (.aload_n 0, 1) := by decide +kernel
theorem dX8_nameOf_78 : decode cX8_nameOf 78 = .ok (.getfield 134, 3) := by decide +kernel
theorem dX8_nameOf_81 : decode cX8_nameOf 81 = .ok (.iconst 1, 1) := by decide +kernel
theorem dX8_nameOf_82 : decode cX8_nameOf 82 = .ok (.if_icmp .eq 7, 3) := by decide +kernel
theorem dX8_nameOf_85 : decode cX8_nameOf 85 = .ok (.iconst (-1), 1) := by decide +kernel
theorem dX8_nameOf_86 : decode cX8_nameOf 86 = .ok (.goto 14, 3) := by decide +kernel
theorem dX8_nameOf_89 : decode cX8_nameOf 89 = .ok (.iload_n 1, 1) := by decide +kernel
theorem dX8_nameOf_90 : decode cX8_nameOf 90 = .ok (.bipush 115, 2) := by decide +kernel
theorem dX8_nameOf_92 : decode cX8_nameOf 92 = .ok (.if_icmp .ne 7, 3) := by decide +kernel
theorem dX8_nameOf_95 : decode cX8_nameOf 95 = .ok (.iconst 0, 1) := by decide +kernel
theorem dX8_nameOf_96 : decode cX8_nameOf 96 = .ok (.goto 4, 3) := by decide +kernel
theorem dX8_nameOf_99 : decode cX8_nameOf 99 = .ok (.iconst 1, 1) := by decide +kernel
theorem dX8_nameOf_100 : decode cX8_nameOf 100 = .ok (.ireturn, 1) := by decide +kernel
theorem dX8_nameOf_101 : decode cX8_nameOf 101 = .ok (.iconst (-1), 1) := by decide +kernel
theorem dX8_nameOf_102 : decode cX8_nameOf 102 = .ok (.ireturn, 1) := by decide +kernel
theorem dX8_number_0 : decode cX8_number 0 = .ok (.iconst 0, 1) := by decide +kernel
theorem dX8_number_1 : decode cX8_number 1 = .ok (.istore_n 1, 1) := by decide +kernel
theorem dX8_number_2 : decode cX8_number 2 = .ok (.iconst 0, 1) := by decide +kernel
theorem dX8_number_3 : decode cX8_number 3 = .ok (.istore_n 2, 1) := by decide +kernel
theorem dX8_number_4 : decode cX8_number 4 = .ok (.iload_n 2, 1) := by decide +kernel
theorem dX8_number_5 : decode cX8_number 5 = .ok (.iconst 4, 1) := by decide +kernel
theorem dX8_number_6 : decode cX8_number 6 = .ok (.if_icmp .ge 46, 3) := by decide +kernel
theorem dX8_number_9 : decode cX8_number 9 = .ok (.aload_n 0, 1) := by decide +kernel
theorem dX8_number_10 : decode cX8_number 10 = .ok (.invokevirtual 137, 3) := by decide +kernel
theorem dX8_number_13 : decode cX8_number 13 = .ok (.bipush 48, 2) := by decide +kernel
theorem dX8_number_15 : decode cX8_number 15 = .ok (.bipush 57, 2) := by decide +kernel
theorem dX8_number_17 : decode cX8_number 17 = .ok (.invokestatic 44, 3) := by decide +kernel
theorem dX8_number_20 : decode cX8_number 20 = .ok (.ifCond .eq 32, 3) := by decide +kernel
theorem dX8_number_23 : decode cX8_number 23 = .ok (.bipush 10, 2) := by decide +kernel
theorem dX8_number_25 : decode cX8_number 25 = .ok (.iload_n 1, 1) := by decide +kernel
theorem dX8_number_26 : decode cX8_number 26 = .ok (.imul, 1) := by decide +kernel
theorem dX8_number_27 : decode cX8_number 27 = .ok (.aload_n 0, 1) := by decide +kernel
theorem dX8_number_28 : decode cX8_number 28 = .ok (.invokevirtual 137, 3) := by decide +kernel
theorem dX8_number_31 : decode cX8_number 31 = .ok (.iadd, 1) := by decide +kernel
theorem dX8_number_32 : decode cX8_number 32 = .ok (.bipush 48, 2) := by decide +kernel
theorem dX8_number_34 : decode cX8_number 34 = .ok (.isub, 1) := by decide +kernel
theorem dX8_number_35 : decode cX8_number 35 = .ok (.istore_n 1, 1) := by decide +kernel
theorem dX8_number_36 : decode cX8_number 36 = .ok (.aload_n 0, 1) := by decide +kernel
theorem dX8_number_37 : decode cX8_number 37 = .ok (.dup, 1) := by decide +kernel
theorem dX8_number_38 : decode cX8_number 38 = .ok (.getfield 127, 3) := by decide +kernel
theorem dX8_number_41 : decode cX8_number 41 = .ok (.iconst 1, 1) := by decide +kernel
theorem dX8_number_42 : decode cX8_number 42 = .ok (.iadd, 1) := by decide +kernel
theorem dX8_number_43 : decode cX8_number 43 = .ok (.putfield 127, 3) := by decide +kernel
theorem dX8_number_46 : decode cX8_number 46 = .ok (.iinc 2 1, 3) := by decide +kernel
theorem dX8_number_49 : decode cX8_number 49 = .ok (.goto (-45), 3) := by decide +kernel
theorem dX8_number_52 : decode cX8_number 52 = .ok (.aload_n 0, 1) := by decide +kernel
theorem dX8_number_53 : decode cX8_number 53 = .ok (.iload_n 2, 1) := by decide +kernel
theorem dX8_number_54 : decode cX8_number 54 = .ok (.ifCond .ne 7, 3) := by decide +kernel
theorem dX8_number_57 : decode cX8_number 57 = .ok (.iconst 1, 1) := by decide +kernel
theorem dX8_number_58 : decode cX8_number 58 = .ok (.goto 4, 3) := by decide +kernel
theorem dX8_number_61 : decode cX8_number 61 = .ok (.iconst 0, 1) := by decide +kernel
theorem dX8_number_62 : decode cX8_number 62 = .ok (.putfield 141, 3) := by decide +kernel
theorem dX8_number_65 : decode cX8_number 65 = .ok (.aload_n 0, 1) := by decide +kernel
theorem dX8_number_66 : decode cX8_number 66 = .ok (.iconst 1, 1) := by decide +kernel
theorem dX8_number_67 : decode cX8_number 67 = .ok (.iload_n 1, 1) := by decide +kernel
theorem dX8_number_68 : decode cX8_number 68 = .ok (.invokevirtual 145, 3) := by decide +kernel
theorem dX8_number_71 : decode cX8_number 71 = .ok (.return_, 1) := by decide +kernel
theorem dX8_opens_0 : decode cX8_opens 0 = .ok (.aload_n 0, 1) := by decide +kernel
theorem dX8_opens_1 : decode cX8_opens 1 = .ok (.getfield 149, 3) := by decide +kernel
theorem dX8_opens_4 : decode cX8_opens 4 = .ok (.iconst 5, 1) := by decide +kernel
theorem dX8_opens_5 : decode cX8_opens 5 = .ok (.if_icmp .ne 9, 3) := by decide +kernel
theorem dX8_opens_8 : decode cX8_opens 8 = .ok (.aload_n 0, 1) := by decide +kernel
theorem dX8_opens_9 : decode cX8_opens 9 = .ok (.iconst 1, 1) := by decide +kernel
theorem dX8_opens_10 : decode cX8_opens 10 = .ok (.putfield 141, 3) := by decide +kernel
theorem dX8_opens_13 : decode cX8_opens 13 = .ok (.return_, 1) := by decide +kernel
theorem dX8_opens_14 : decode cX8_opens 14 = .ok (.aload_n 0, 1) := by decide +kernel
theorem dX8_opens_15 : decode cX8_opens 15 = .ok (.dup, 1) := by decide +kernel
theorem dX8_opens_16 : decode cX8_opens 16 = .ok (.getfield 149, 3) := by decide +kernel
theorem dX8_opens_19 : decode cX8_opens 19 = .ok (.iconst 1, 1) := by decide +kernel
theorem dX8_opens_20 : decode cX8_opens 20 = .ok (.iadd, 1) := by decide +kernel
theorem dX8_opens_21 : decode cX8_opens 21 = .ok (.putfield 149, 3) := by decide +kernel
theorem dX8_opens_24 : decode cX8_opens 24 = .ok (.aload_n 0, 1) := by decide +kernel
theorem dX8_opens_25 : decode cX8_opens 25 = .ok (.dup, 1) := by decide +kernel
theorem dX8_opens_26 : decode cX8_opens 26 = .ok (.getfield 127, 3) := by decide +kernel
theorem dX8_opens_29 : decode cX8_opens 29 = .ok (.iconst 1, 1) := by decide +kernel
theorem dX8_opens_30 : decode cX8_opens 30 = .ok (.iadd, 1) := by decide +kernel
theorem dX8_opens_31 : decode cX8_opens 31 = .ok (.putfield 127, 3) := by decide +kernel
theorem dX8_opens_34 : decode cX8_opens 34 = .ok (.iload_n 1, 1) := by decide +kernel
theorem dX8_opens_35 : decode cX8_opens 35 = .ok (.bipush 33, 2) := by decide +kernel
theorem dX8_opens_37 : decode cX8_opens 37 = .ok (.if_icmp .ne 16, 3) := by decide +kernel
theorem dX8_opens_40 : decode cX8_opens 40 = .ok (.aload_n 0, 1) := by decide +kernel
theorem dX8_opens_41 : decode cX8_opens 41 = .ok (.invokevirtual 152, 3) := by decide +kernel
theorem dX8_opens_44 : decode cX8_opens 44 = .ok (.aload_n 0, 1) := by decide +kernel
theorem dX8_opens_45 : decode cX8_opens 45 = .ok (.iconst 3, 1) := by decide +kernel
theorem dX8_opens_46 : decode cX8_opens 46 = .ok (.iconst 0, 1) := by decide +kernel
theorem dX8_opens_47 : decode cX8_opens 47 = .ok (.invokevirtual 145, 3) := by decide +kernel
theorem dX8_opens_50 : decode cX8_opens 50 = .ok (.goto 53, 3) := by decide +kernel
theorem dX8_opens_53 : decode cX8_opens 53 = .ok (.aload_n 0, 1) := by decide +kernel
theorem dX8_opens_54 : decode cX8_opens 54 = .ok (.invokevirtual 155, 3) := by decide +kernel
theorem dX8_opens_57 : decode cX8_opens 57 = .ok (.aload_n 0, 1) := by decide +kernel
theorem dX8_opens_58 : decode cX8_opens 58 = .ok (.aload_n 0, 1) := by decide +kernel
theorem dX8_opens_59 : decode cX8_opens 59 = .ok (.getfield 141, 3) := by decide +kernel
theorem dX8_opens_62 : decode cX8_opens 62 = .ok (.ifCond .ne 12, 3) := by decide +kernel
theorem dX8_opens_65 : decode cX8_opens 65 = .ok (.aload_n 0, 1) := by decide +kernel
theorem dX8_opens_66 : decode cX8_opens 66 = .ok (.invokevirtual 137, 3) := by decide +kernel
theorem dX8_opens_69 : decode cX8_opens 69 = .ok (.bipush 41, 2) := by decide +kernel
theorem dX8_opens_71 : decode cX8_opens 71 = .ok (.if_icmp .eq 7, 3) := by decide +kernel
theorem dX8_opens_74 : decode cX8_opens 74 = .ok (.iconst 1, 1) := by decide +kernel
theorem dX8_opens_75 : decode cX8_opens 75 = .ok (.goto 4, 3) := by decide +kernel
theorem dX8_opens_78 : decode cX8_opens 78 = .ok (.iconst 0, 1) := by decide +kernel
theorem dX8_opens_79 : decode cX8_opens 79 = .ok (.putfield 141, 3) := by decide +kernel
theorem dX8_opens_82 : decode cX8_opens 82 = .ok (.aload_n 0, 1) := by decide +kernel
theorem dX8_opens_83 : decode cX8_opens 83 = .ok (.dup, 1) := by decide +kernel
theorem dX8_opens_84 : decode cX8_opens 84 = .ok (.getfield 127, 3) := by decide +kernel
theorem dX8_opens_87 : decode cX8_opens 87 = .ok (.aload_n 0, 1) := by decide +kernel
theorem dX8_opens_88 : decode cX8_opens 88 = .ok (.getfield 141, 3) := by decide +kernel
theorem dX8_opens_91 : decode cX8_opens 91 = .ok (.ifCond .eq 7, 3) := by decide +kernel
theorem dX8_opens_94 : decode cX8_opens 94 = .ok (.iconst 0, 1) := by decide +kernel
theorem dX8_opens_95 : decode cX8_opens 95 = .ok (.goto 4, 3) := by decide +kernel
theorem dX8_opens_98 : decode cX8_opens 98 = .ok (.iconst 1, 1) := by decide +kernel
theorem dX8_opens_99 : decode cX8_opens 99 = .ok (.iadd, 1) := by decide +kernel
theorem dX8_opens_100 : decode cX8_opens 100 = .ok (.putfield 127, 3) := by decide +kernel
theorem dX8_opens_103 : decode cX8_opens 103 = .ok (.aload_n 0, 1) := by decide +kernel
theorem dX8_opens_104 : decode cX8_opens 104 = .ok (.dup, 1) := by decide +kernel
theorem dX8_opens_105 : decode cX8_opens 105 = .ok (.getfield 149, 3) := by decide +kernel
theorem dX8_opens_108 : decode cX8_opens 108 = .ok (.iconst 1, 1) := by decide +kernel
theorem dX8_opens_109 : decode cX8_opens 109 = .ok (.isub, 1) := by decide +kernel
theorem dX8_opens_110 : decode cX8_opens 110 = .ok (.putfield 149, 3) := by decide +kernel
theorem dX8_opens_113 : decode cX8_opens 113 = .ok (.return_, 1) := by decide +kernel
theorem dX8_one_0 : decode cX8_one 0 = .ok (.aload_n 0, 1) := by decide +kernel
theorem dX8_one_1 : decode cX8_one 1 = .ok (.invokevirtual 137, 3) := by decide +kernel
theorem dX8_one_4 : decode cX8_one 4 = .ok (.istore_n 1, 1) := by decide +kernel
theorem dX8_one_5 : decode cX8_one 5 = .ok (.aload_n 0, 1) := by decide +kernel
theorem dX8_one_6 : decode cX8_one 6 = .ok (.iload_n 1, 1) := by decide +kernel
theorem dX8_one_7 : decode cX8_one 7 = .ok (.invokevirtual 158, 3) := by decide +kernel
theorem dX8_one_10 : decode cX8_one 10 = .ok (.istore_n 2, 1) := by decide +kernel
theorem dX8_one_11 : decode cX8_one 11 = .ok (.iload_n 2, 1) := by decide +kernel
theorem dX8_one_12 : decode cX8_one 12 = .ok (.ifCond .lt 22, 3) := by decide +kernel
theorem dX8_one_15 : decode cX8_one 15 = .ok (.aload_n 0, 1) := by decide +kernel
theorem dX8_one_16 : decode cX8_one 16 = .ok (.dup, 1) := by decide +kernel
theorem dX8_one_17 : decode cX8_one 17 = .ok (.getfield 127, 3) := by decide +kernel
theorem dX8_one_20 : decode cX8_one 20 = .ok (.iconst 1, 1) := by decide +kernel
theorem dX8_one_21 : decode cX8_one 21 = .ok (.iadd, 1) := by decide +kernel
theorem dX8_one_22 : decode cX8_one 22 = .ok (.putfield 127, 3) := by decide +kernel
theorem dX8_one_25 : decode cX8_one 25 = .ok (.aload_n 0, 1) := by decide +kernel
theorem dX8_one_26 : decode cX8_one 26 = .ok (.iconst 2, 1) := by decide +kernel
theorem dX8_one_27 : decode cX8_one 27 = .ok (.iload_n 2, 1) := by decide +kernel
theorem dX8_one_28 : decode cX8_one 28 = .ok (.invokevirtual 145, 3) := by decide +kernel
theorem dX8_one_31 : decode cX8_one 31 = .ok (.goto 27, 3) := by decide +kernel
theorem dX8_one_34 : decode cX8_one 34 = .ok (.iload_n 1, 1) := by decide +kernel
theorem dX8_one_35 : decode cX8_one 35 = .ok (.bipush 33, 2) := by decide +kernel
theorem dX8_one_37 : decode cX8_one 37 = .ok (.if_icmp .eq 9, 3) := by decide +kernel
theorem dX8_one_40 : decode cX8_one 40 = .ok (.iload_n 1, 1) := by decide +kernel
theorem dX8_one_41 : decode cX8_one 41 = .ok (.bipush 40, 2) := by decide +kernel
theorem dX8_one_43 : decode cX8_one 43 = .ok (.if_icmp .ne 11, 3) := by decide +kernel
theorem dX8_one_46 : decode cX8_one 46 = .ok (.aload_n 0, 1) := by decide +kernel
theorem dX8_one_47 : decode cX8_one 47 = .ok (.iload_n 1, 1) := by decide +kernel
theorem dX8_one_48 : decode cX8_one 48 = .ok (.invokevirtual 161, 3) := by decide +kernel
theorem dX8_one_51 : decode cX8_one 51 = .ok (.goto 7, 3) := by decide +kernel
theorem dX8_one_54 : decode cX8_one 54 = .ok (.aload_n 0, 1) := by decide +kernel
theorem dX8_one_55 : decode cX8_one 55 = .ok (.invokevirtual 164, 3) := by decide +kernel
theorem dX8_one_58 : decode cX8_one 58 = .ok (.return_, 1) := by decide +kernel
theorem dX8_times_0 : decode cX8_times 0 = .ok (.aload_n 0, 1) := by decide +kernel
theorem dX8_times_1 : decode cX8_times 1 = .ok (.invokevirtual 152, 3) := by decide +kernel
theorem dX8_times_4 : decode cX8_times 4 = .ok (.aload_n 0, 1) := by decide +kernel
theorem dX8_times_5 : decode cX8_times 5 = .ok (.getfield 141, 3) := by decide +kernel
theorem dX8_times_8 : decode cX8_times 8 = .ok (.ifCond .ne 58, 3) := by decide +kernel
theorem dX8_times_11 : decode cX8_times 11 = .ok (.aload_n 0, 1) := by decide +kernel
theorem dX8_times_12 : decode cX8_times 12 = .ok (.invokevirtual 137, 3) := by decide +kernel
theorem dX8_times_15 : decode cX8_times 15 = .ok (.bipush 42, 2) := by decide +kernel
theorem dX8_times_17 : decode cX8_times 17 = .ok (.if_icmp .eq 21, 3) := by decide +kernel
theorem dX8_times_20 : decode cX8_times 20 = .ok (.aload_n 0, 1) := by decide +kernel
theorem dX8_times_21 : decode cX8_times 21 = .ok (.invokevirtual 137, 3) := by decide +kernel
theorem dX8_times_24 : decode cX8_times 24 = .ok (.bipush 47, 2) := by decide +kernel
theorem dX8_times_26 : decode cX8_times 26 = .ok (.if_icmp .eq 12, 3) := by decide +kernel
theorem dX8_times_29 : decode cX8_times 29 = .ok (.aload_n 0, 1) := by decide +kernel
theorem dX8_times_30 : decode cX8_times 30 = .ok (.invokevirtual 137, 3) := by decide +kernel
theorem dX8_times_33 : decode cX8_times 33 = .ok (.bipush 37, 2) := by decide +kernel
theorem dX8_times_35 : decode cX8_times 35 = .ok (.if_icmp .ne 31, 3) := by decide +kernel
theorem dX8_times_38 : decode cX8_times 38 = .ok (.aload_n 0, 1) := by decide +kernel
theorem dX8_times_39 : decode cX8_times 39 = .ok (.invokevirtual 137, 3) := by decide +kernel
theorem dX8_times_42 : decode cX8_times 42 = .ok (.istore_n 1, 1) := by decide +kernel
theorem dX8_times_43 : decode cX8_times 43 = .ok (.aload_n 0, 1) := by decide +kernel
theorem dX8_times_44 : decode cX8_times 44 = .ok (.dup, 1) := by decide +kernel
theorem dX8_times_45 : decode cX8_times 45 = .ok (.getfield 127, 3) := by decide +kernel
theorem dX8_times_48 : decode cX8_times 48 = .ok (.iconst 1, 1) := by decide +kernel
theorem dX8_times_49 : decode cX8_times 49 = .ok (.iadd, 1) := by decide +kernel
theorem dX8_times_50 : decode cX8_times 50 = .ok (.putfield 127, 3) := by decide +kernel
theorem dX8_times_53 : decode cX8_times 53 = .ok (.aload_n 0, 1) := by decide +kernel
theorem dX8_times_54 : decode cX8_times 54 = .ok (.invokevirtual 152, 3) := by decide +kernel
theorem dX8_times_57 : decode cX8_times 57 = .ok (.aload_n 0, 1) := by decide +kernel
theorem dX8_times_58 : decode cX8_times 58 = .ok (.iload_n 1, 1) := by decide +kernel
theorem dX8_times_59 : decode cX8_times 59 = .ok (.iconst 0, 1) := by decide +kernel
theorem dX8_times_60 : decode cX8_times 60 = .ok (.invokevirtual 145, 3) := by decide +kernel
theorem dX8_times_63 : decode cX8_times 63 = .ok (.goto (-59), 3) := by decide +kernel
theorem dX8_times_66 : decode cX8_times 66 = .ok (.return_, 1) := by decide +kernel
theorem dX8_sum_0 : decode cX8_sum 0 = .ok (.aload_n 0, 1) := by decide +kernel
theorem dX8_sum_1 : decode cX8_sum 1 = .ok (.invokevirtual 167, 3) := by decide +kernel
theorem dX8_sum_4 : decode cX8_sum 4 = .ok (.aload_n 0, 1) := by decide +kernel
theorem dX8_sum_5 : decode cX8_sum 5 = .ok (.getfield 141, 3) := by decide +kernel
theorem dX8_sum_8 : decode cX8_sum 8 = .ok (.ifCond .ne 49, 3) := by decide +kernel
theorem dX8_sum_11 : decode cX8_sum 11 = .ok (.aload_n 0, 1) := by decide +kernel
theorem dX8_sum_12 : decode cX8_sum 12 = .ok (.invokevirtual 137, 3) := by decide +kernel
theorem dX8_sum_15 : decode cX8_sum 15 = .ok (.bipush 43, 2) := by decide +kernel
theorem dX8_sum_17 : decode cX8_sum 17 = .ok (.if_icmp .eq 12, 3) := by decide +kernel
theorem dX8_sum_20 : decode cX8_sum 20 = .ok (.aload_n 0, 1) := by decide +kernel
theorem dX8_sum_21 : decode cX8_sum 21 = .ok (.invokevirtual 137, 3) := by decide +kernel
theorem dX8_sum_24 : decode cX8_sum 24 = .ok (.bipush 45, 2) := by decide +kernel
theorem dX8_sum_26 : decode cX8_sum 26 = .ok (.if_icmp .ne 31, 3) := by decide +kernel
theorem dX8_sum_29 : decode cX8_sum 29 = .ok (.aload_n 0, 1) := by decide +kernel
theorem dX8_sum_30 : decode cX8_sum 30 = .ok (.invokevirtual 137, 3) := by decide +kernel
theorem dX8_sum_33 : decode cX8_sum 33 = .ok (.istore_n 1, 1) := by decide +kernel
theorem dX8_sum_34 : decode cX8_sum 34 = .ok (.aload_n 0, 1) := by decide +kernel
theorem dX8_sum_35 : decode cX8_sum 35 = .ok (.dup, 1) := by decide +kernel
theorem dX8_sum_36 : decode cX8_sum 36 = .ok (.getfield 127, 3) := by decide +kernel
theorem dX8_sum_39 : decode cX8_sum 39 = .ok (.iconst 1, 1) := by decide +kernel
theorem dX8_sum_40 : decode cX8_sum 40 = .ok (.iadd, 1) := by decide +kernel
theorem dX8_sum_41 : decode cX8_sum 41 = .ok (.putfield 127, 3) := by decide +kernel
theorem dX8_sum_44 : decode cX8_sum 44 = .ok (.aload_n 0, 1) := by decide +kernel
theorem dX8_sum_45 : decode cX8_sum 45 = .ok (.invokevirtual 167, 3) := by decide +kernel
theorem dX8_sum_48 : decode cX8_sum 48 = .ok (.aload_n 0, 1) := by decide +kernel
theorem dX8_sum_49 : decode cX8_sum 49 = .ok (.iload_n 1, 1) := by decide +kernel
theorem dX8_sum_50 : decode cX8_sum 50 = .ok (.iconst 0, 1) := by decide +kernel
theorem dX8_sum_51 : decode cX8_sum 51 = .ok (.invokevirtual 145, 3) := by decide +kernel
theorem dX8_sum_54 : decode cX8_sum 54 = .ok (.goto (-50), 3) := by decide +kernel
theorem dX8_sum_57 : decode cX8_sum 57 = .ok (.return_, 1) := by decide +kernel
theorem dX8_compares_0 : decode cX8_compares 0 = .ok (.aload_n 0, 1) := by decide +kernel
theorem dX8_compares_1 : decode cX8_compares 1 = .ok (.invokevirtual 170, 3) := by decide +kernel
theorem dX8_compares_4 : decode cX8_compares 4 = .ok (.aload_n 0, 1) := by decide +kernel
theorem dX8_compares_5 : decode cX8_compares 5 = .ok (.invokevirtual 137, 3) := by decide +kernel
theorem dX8_compares_8 : decode cX8_compares 8 = .ok (.istore_n 1, 1) := by decide +kernel
theorem dX8_compares_9 : decode cX8_compares 9 = .ok (.aload_n 0, 1) := by decide +kernel
theorem dX8_compares_10 : decode cX8_compares 10 = .ok (.getfield 141, 3) := by decide +kernel
theorem dX8_compares_13 : decode cX8_compares 13 = .ok (.ifCond .ne 41, 3) := by decide +kernel
theorem dX8_compares_16 : decode cX8_compares 16 = .ok (.iload_n 1, 1) := by decide +kernel
theorem dX8_compares_17 : decode cX8_compares 17 = .ok (.bipush 60, 2) := by decide +kernel
theorem dX8_compares_19 : decode cX8_compares 19 = .ok (.if_icmp .eq 15, 3) := by decide +kernel
theorem dX8_compares_22 : decode cX8_compares 22 = .ok (.iload_n 1, 1) := by decide +kernel
theorem dX8_compares_23 : decode cX8_compares 23 = .ok (.bipush 61, 2) := by decide +kernel
theorem dX8_compares_25 : decode cX8_compares 25 = .ok (.if_icmp .eq 9, 3) := by decide +kernel
theorem dX8_compares_28 : decode cX8_compares 28 = .ok (.iload_n 1, 1) := by decide +kernel
theorem dX8_compares_29 : decode cX8_compares 29 = .ok (.bipush 62, 2) := by decide +kernel
theorem dX8_compares_31 : decode cX8_compares 31 = .ok (.if_icmp .ne 23, 3) := by decide +kernel
theorem dX8_compares_34 : decode cX8_compares 34 = .ok (.aload_n 0, 1) := by decide +kernel
theorem dX8_compares_35 : decode cX8_compares 35 = .ok (.dup, 1) := by decide +kernel
theorem dX8_compares_36 : decode cX8_compares 36 = .ok (.getfield 127, 3) := by decide +kernel
theorem dX8_compares_39 : decode cX8_compares 39 = .ok (.iconst 1, 1) := by decide +kernel
theorem dX8_compares_40 : decode cX8_compares 40 = .ok (.iadd, 1) := by decide +kernel
theorem dX8_compares_41 : decode cX8_compares 41 = .ok (.putfield 127, 3) := by decide +kernel
theorem dX8_compares_44 : decode cX8_compares 44 = .ok (.aload_n 0, 1) := by decide +kernel
theorem dX8_compares_45 : decode cX8_compares 45 = .ok (.invokevirtual 170, 3) := by decide +kernel
theorem dX8_compares_48 : decode cX8_compares 48 = .ok (.aload_n 0, 1) := by decide +kernel
theorem dX8_compares_49 : decode cX8_compares 49 = .ok (.iload_n 1, 1) := by decide +kernel
theorem dX8_compares_50 : decode cX8_compares 50 = .ok (.iconst 0, 1) := by decide +kernel
theorem dX8_compares_51 : decode cX8_compares 51 = .ok (.invokevirtual 145, 3) := by decide +kernel
theorem dX8_compares_54 : decode cX8_compares 54 = .ok (.return_, 1) := by decide +kernel
theorem dX8_all_0 : decode cX8_all 0 = .ok (.aload_n 0, 1) := by decide +kernel
theorem dX8_all_1 : decode cX8_all 1 = .ok (.invokevirtual 173, 3) := by decide +kernel
theorem dX8_all_4 : decode cX8_all 4 = .ok (.aload_n 0, 1) := by decide +kernel
theorem dX8_all_5 : decode cX8_all 5 = .ok (.getfield 141, 3) := by decide +kernel
theorem dX8_all_8 : decode cX8_all 8 = .ok (.ifCond .ne 36, 3) := by decide +kernel
theorem dX8_all_11 : decode cX8_all 11 = .ok (.aload_n 0, 1) := by decide +kernel
theorem dX8_all_12 : decode cX8_all 12 = .ok (.invokevirtual 137, 3) := by decide +kernel
theorem dX8_all_15 : decode cX8_all 15 = .ok (.bipush 38, 2) := by decide +kernel
theorem dX8_all_17 : decode cX8_all 17 = .ok (.if_icmp .ne 27, 3) := by decide +kernel
theorem dX8_all_20 : decode cX8_all 20 = .ok (.aload_n 0, 1) := by decide +kernel
theorem dX8_all_21 : decode cX8_all 21 = .ok (.dup, 1) := by decide +kernel
theorem dX8_all_22 : decode cX8_all 22 = .ok (.getfield 127, 3) := by decide +kernel
theorem dX8_all_25 : decode cX8_all 25 = .ok (.iconst 1, 1) := by decide +kernel
theorem dX8_all_26 : decode cX8_all 26 = .ok (.iadd, 1) := by decide +kernel
theorem dX8_all_27 : decode cX8_all 27 = .ok (.putfield 127, 3) := by decide +kernel
theorem dX8_all_30 : decode cX8_all 30 = .ok (.aload_n 0, 1) := by decide +kernel
theorem dX8_all_31 : decode cX8_all 31 = .ok (.invokevirtual 173, 3) := by decide +kernel
theorem dX8_all_34 : decode cX8_all 34 = .ok (.aload_n 0, 1) := by decide +kernel
theorem dX8_all_35 : decode cX8_all 35 = .ok (.bipush 38, 2) := by decide +kernel
theorem dX8_all_37 : decode cX8_all 37 = .ok (.iconst 0, 1) := by decide +kernel
theorem dX8_all_38 : decode cX8_all 38 = .ok (.invokevirtual 145, 3) := by decide +kernel
theorem dX8_all_41 : decode cX8_all 41 = .ok (.goto (-37), 3) := by decide +kernel
theorem dX8_all_44 : decode cX8_all 44 = .ok (.return_, 1) := by decide +kernel
theorem dX8_any_0 : decode cX8_any 0 = .ok (.aload_n 0, 1) := by decide +kernel
theorem dX8_any_1 : decode cX8_any 1 = .ok (.invokevirtual 176, 3) := by decide +kernel
theorem dX8_any_4 : decode cX8_any 4 = .ok (.aload_n 0, 1) := by decide +kernel
theorem dX8_any_5 : decode cX8_any 5 = .ok (.getfield 141, 3) := by decide +kernel
theorem dX8_any_8 : decode cX8_any 8 = .ok (.ifCond .ne 36, 3) := by decide +kernel
theorem dX8_any_11 : decode cX8_any 11 = .ok (.aload_n 0, 1) := by decide +kernel
theorem dX8_any_12 : decode cX8_any 12 = .ok (.invokevirtual 137, 3) := by decide +kernel
theorem dX8_any_15 : decode cX8_any 15 = .ok (.bipush 124, 2) := by decide +kernel
theorem dX8_any_17 : decode cX8_any 17 = .ok (.if_icmp .ne 27, 3) := by decide +kernel
theorem dX8_any_20 : decode cX8_any 20 = .ok (.aload_n 0, 1) := by decide +kernel
theorem dX8_any_21 : decode cX8_any 21 = .ok (.dup, 1) := by decide +kernel
theorem dX8_any_22 : decode cX8_any 22 = .ok (.getfield 127, 3) := by decide +kernel
theorem dX8_any_25 : decode cX8_any 25 = .ok (.iconst 1, 1) := by decide +kernel
theorem dX8_any_26 : decode cX8_any 26 = .ok (.iadd, 1) := by decide +kernel
theorem dX8_any_27 : decode cX8_any 27 = .ok (.putfield 127, 3) := by decide +kernel
theorem dX8_any_30 : decode cX8_any 30 = .ok (.aload_n 0, 1) := by decide +kernel
theorem dX8_any_31 : decode cX8_any 31 = .ok (.invokevirtual 176, 3) := by decide +kernel
theorem dX8_any_34 : decode cX8_any 34 = .ok (.aload_n 0, 1) := by decide +kernel
theorem dX8_any_35 : decode cX8_any 35 = .ok (.bipush 124, 2) := by decide +kernel
theorem dX8_any_37 : decode cX8_any 37 = .ok (.iconst 0, 1) := by decide +kernel
theorem dX8_any_38 : decode cX8_any 38 = .ok (.invokevirtual 145, 3) := by decide +kernel
theorem dX8_any_41 : decode cX8_any 41 = .ok (.goto (-37), 3) := by decide +kernel
theorem dX8_any_44 : decode cX8_any 44 = .ok (.return_, 1) := by decide +kernel
theorem dX8_text_0 : decode cX8_text 0 = .ok (.iload_n 1, 1) := by decide +kernel
theorem dX8_text_1 : decode cX8_text 1 = .ok (.iconst 0, 1) := by decide +kernel
theorem dX8_text_2 : decode cX8_text 2 = .ok (.iconst 1, 1) := by decide +kernel
theorem dX8_text_3 : decode cX8_text 3 = .ok (.invokestatic 44, 3) := by decide +kernel
theorem dX8_text_6 : decode cX8_text 6 = .ok (.ifCond .ne 10, 3) := by decide +kernel
theorem dX8_text_9 : decode cX8_text 9 = .ok (.aload_n 0, 1) := by decide +kernel
theorem dX8_text_10 : decode cX8_text 10 = .ok (.ldc 77, 2) := by decide +kernel
theorem dX8_text_12 : decode cX8_text 12 = .ok (.invokevirtual 78, 3) := by decide +kernel
theorem dX8_text_15 : decode cX8_text 15 = .ok (.ireturn, 1) := by decide +kernel
theorem dX8_text_16 : decode cX8_text 16 = .ok (.aload_n 0, 1) := by decide +kernel
theorem dX8_text_17 : decode cX8_text 17 = .ok (.iload_n 1, 1) := by decide +kernel
theorem dX8_text_18 : decode cX8_text 18 = .ok (.putfield 134, 3) := by decide +kernel
theorem dX8_text_21 : decode cX8_text 21 = .ok (.aload_n 0, 1) := by decide +kernel
theorem dX8_text_22 : decode cX8_text 22 = .ok (.iconst 0, 1) := by decide +kernel
theorem dX8_text_23 : decode cX8_text 23 = .ok (.putfield 131, 3) := by decide +kernel
theorem dX8_text_26 : decode cX8_text 26 = .ok (.aload_n 0, 1) := by decide +kernel
theorem dX8_text_27 : decode cX8_text 27 = .ok (.iconst 0, 1) := by decide +kernel
theorem dX8_text_28 : decode cX8_text 28 = .ok (.putfield 127, 3) := by decide +kernel
theorem dX8_text_31 : decode cX8_text 31 = .ok (.aload_n 0, 1) := by decide +kernel
theorem dX8_text_32 : decode cX8_text 32 = .ok (.iconst 0, 1) := by decide +kernel
theorem dX8_text_33 : decode cX8_text 33 = .ok (.putfield 149, 3) := by decide +kernel
theorem dX8_text_36 : decode cX8_text 36 = .ok (.aload_n 0, 1) := by decide +kernel
theorem dX8_text_37 : decode cX8_text 37 = .ok (.iconst 0, 1) := by decide +kernel
theorem dX8_text_38 : decode cX8_text 38 = .ok (.putfield 141, 3) := by decide +kernel
theorem dX8_text_41 : decode cX8_text 41 = .ok (.aload_n 0, 1) := by decide +kernel
theorem dX8_text_42 : decode cX8_text 42 = .ok (.invokevirtual 155, 3) := by decide +kernel
theorem dX8_text_45 : decode cX8_text 45 = .ok (.aload_n 0, 1) := by decide +kernel
theorem dX8_text_46 : decode cX8_text 46 = .ok (.aload_n 0, 1) := by decide +kernel
theorem dX8_text_47 : decode cX8_text 47 = .ok (.getfield 141, 3) := by decide +kernel
theorem dX8_text_50 : decode cX8_text 50 = .ok (.ifCond .ne 17, 3) := by decide +kernel
theorem dX8_text_53 : decode cX8_text 53 = .ok (.aload_n 0, 1) := by decide +kernel
theorem dX8_text_54 : decode cX8_text 54 = .ok (.getfield 127, 3) := by decide +kernel
theorem dX8_text_57 : decode cX8_text 57 = .ok (.aload_n 0, 1) := by decide +kernel
theorem dX8_text_58 : decode cX8_text 58 = .ok (.getfield 9, 3) := by decide +kernel
theorem dX8_text_61 : decode cX8_text 61 = .ok (.bipush 9, 2) := by decide +kernel
theorem dX8_text_63 : decode cX8_text 63 = .ok (.iaload, 1) := by decide +kernel
theorem dX8_text_64 : decode cX8_text 64 = .ok (.if_icmp .ge 7, 3) := by decide +kernel
theorem dX8_text_67 : decode cX8_text 67 = .ok (.iconst 1, 1) := by decide +kernel
theorem dX8_text_68 : decode cX8_text 68 = .ok (.goto 4, 3) := by decide +kernel
theorem dX8_text_71 : decode cX8_text 71 = .ok (.iconst 0, 1) := by decide +kernel
theorem dX8_text_72 : decode cX8_text 72 = .ok (.putfield 141, 3) := by decide +kernel
theorem dX8_text_75 : decode cX8_text 75 = .ok (.aload_n 0, 1) := by decide +kernel
theorem dX8_text_76 : decode cX8_text 76 = .ok (.getfield 9, 3) := by decide +kernel
theorem dX8_text_79 : decode cX8_text 79 = .ok (.bipush 9, 2) := by decide +kernel
theorem dX8_text_81 : decode cX8_text 81 = .ok (.iconst 0, 1) := by decide +kernel
theorem dX8_text_82 : decode cX8_text 82 = .ok (.iastore, 1) := by decide +kernel
theorem dX8_text_83 : decode cX8_text 83 = .ok (.aload_n 0, 1) := by decide +kernel
theorem dX8_text_84 : decode cX8_text 84 = .ok (.getfield 141, 3) := by decide +kernel
theorem dX8_text_87 : decode cX8_text 87 = .ok (.ifCond .eq 11, 3) := by decide +kernel
theorem dX8_text_90 : decode cX8_text 90 = .ok (.bipush (-10), 2) := by decide +kernel
theorem dX8_text_92 : decode cX8_text 92 = .ok (.aload_n 0, 1) := by decide +kernel
theorem dX8_text_93 : decode cX8_text 93 = .ok (.getfield 127, 3) := by decide +kernel
theorem dX8_text_96 : decode cX8_text 96 = .ok (.isub, 1) := by decide +kernel
theorem dX8_text_97 : decode cX8_text 97 = .ok (.ireturn, 1) := by decide +kernel
theorem dX8_text_98 : decode cX8_text 98 = .ok (.sipush 144, 3) := by decide +kernel
theorem dX8_text_101 : decode cX8_text 101 = .ok (.bipush 121, 2) := by decide +kernel
theorem dX8_text_103 : decode cX8_text 103 = .ok (.iload_n 1, 1) := by decide +kernel
theorem dX8_text_104 : decode cX8_text 104 = .ok (.imul, 1) := by decide +kernel
theorem dX8_text_105 : decode cX8_text 105 = .ok (.iadd, 1) := by decide +kernel
theorem dX8_text_106 : decode cX8_text 106 = .ok (.istore_n 2, 1) := by decide +kernel
theorem dX8_text_107 : decode cX8_text 107 = .ok (.aload_n 0, 1) := by decide +kernel
theorem dX8_text_108 : decode cX8_text 108 = .ok (.getfield 9, 3) := by decide +kernel
theorem dX8_text_111 : decode cX8_text 111 = .ok (.iload_n 2, 1) := by decide +kernel
theorem dX8_text_112 : decode cX8_text 112 = .ok (.aload_n 0, 1) := by decide +kernel
theorem dX8_text_113 : decode cX8_text 113 = .ok (.getfield 131, 3) := by decide +kernel
theorem dX8_text_116 : decode cX8_text 116 = .ok (.iastore, 1) := by decide +kernel
theorem dX8_text_117 : decode cX8_text 117 = .ok (.iconst 0, 1) := by decide +kernel
theorem dX8_text_118 : decode cX8_text 118 = .ok (.istore_n 3, 1) := by decide +kernel
theorem dX8_text_119 : decode cX8_text 119 = .ok (.iload_n 3, 1) := by decide +kernel
theorem dX8_text_120 : decode cX8_text 120 = .ok (.aload_n 0, 1) := by decide +kernel
theorem dX8_text_121 : decode cX8_text 121 = .ok (.getfield 131, 3) := by decide +kernel
theorem dX8_text_124 : decode cX8_text 124 = .ok (.if_icmp .ge 42, 3) := by decide +kernel
theorem dX8_text_127 : decode cX8_text 127 = .ok (.aload_n 0, 1) := by decide +kernel
theorem dX8_text_128 : decode cX8_text 128 = .ok (.getfield 9, 3) := by decide +kernel
theorem dX8_text_131 : decode cX8_text 131 = .ok (.iload_n 2, 1) := by decide +kernel
theorem dX8_text_132 : decode cX8_text 132 = .ok (.iconst 1, 1) := by decide +kernel
theorem dX8_text_133 : decode cX8_text 133 = .ok (.iadd, 1) := by decide +kernel
theorem dX8_text_134 : decode cX8_text 134 = .ok (.iload_n 3, 1) := by decide +kernel
theorem dX8_text_135 : decode cX8_text 135 = .ok (.iadd, 1) := by decide +kernel
theorem dX8_text_136 : decode cX8_text 136 = .ok (.aload_n 0, 1) := by decide +kernel
theorem dX8_text_137 : decode cX8_text 137 = .ok (.getfield 28, 3) := by decide +kernel
theorem dX8_text_140 : decode cX8_text 140 = .ok (.iload_n 3, 1) := by decide +kernel
theorem dX8_text_141 : decode cX8_text 141 = .ok (.iaload, 1) := by decide +kernel
theorem dX8_text_142 : decode cX8_text 142 = .ok (.iastore, 1) := by decide +kernel
theorem dX8_text_143 : decode cX8_text 143 = .ok (.aload_n 0, 1) := by decide +kernel
theorem dX8_text_144 : decode cX8_text 144 = .ok (.getfield 9, 3) := by decide +kernel
theorem dX8_text_147 : decode cX8_text 147 = .ok (.iload_n 2, 1) := by decide +kernel
theorem dX8_text_148 : decode cX8_text 148 = .ok (.bipush 61, 2) := by decide +kernel
theorem dX8_text_150 : decode cX8_text 150 = .ok (.iadd, 1) := by decide +kernel
theorem dX8_text_151 : decode cX8_text 151 = .ok (.iload_n 3, 1) := by decide +kernel
theorem dX8_text_152 : decode cX8_text 152 = .ok (.iadd, 1) := by decide +kernel
theorem dX8_text_153 : decode cX8_text 153 = .ok (.aload_n 0, 1) := by decide +kernel
theorem dX8_text_154 : decode cX8_text 154 = .ok (.getfield 31, 3) := by decide +kernel
theorem dX8_text_157 : decode cX8_text 157 = .ok (.iload_n 3, 1) := by decide +kernel
theorem dX8_text_158 : decode cX8_text 158 = .ok (.iaload, 1) := by decide +kernel
theorem dX8_text_159 : decode cX8_text 159 = .ok (.iastore, 1) := by decide +kernel
theorem dX8_text_160 : decode cX8_text 160 = .ok (.iinc 3 1, 3) := by decide +kernel
theorem dX8_text_163 : decode cX8_text 163 = .ok (.goto (-44), 3) := by decide +kernel
theorem dX8_text_166 : decode cX8_text 166 = .ok (.iconst 1, 1) := by decide +kernel
theorem dX8_text_167 : decode cX8_text 167 = .ok (.ireturn, 1) := by decide +kernel
theorem dX8_untell_0 : decode cX8_untell 0 = .ok (.iload_n 1, 1) := by decide +kernel
theorem dX8_untell_1 : decode cX8_untell 1 = .ok (.iconst 0, 1) := by decide +kernel
theorem dX8_untell_2 : decode cX8_untell 2 = .ok (.iconst 1, 1) := by decide +kernel
theorem dX8_untell_3 : decode cX8_untell 3 = .ok (.invokestatic 44, 3) := by decide +kernel
theorem dX8_untell_6 : decode cX8_untell 6 = .ok (.ifCond .ne 10, 3) := by decide +kernel
theorem dX8_untell_9 : decode cX8_untell 9 = .ok (.aload_n 0, 1) := by decide +kernel
theorem dX8_untell_10 : decode cX8_untell 10 = .ok (.ldc 77, 2) := by decide +kernel
theorem dX8_untell_12 : decode cX8_untell 12 = .ok (.invokevirtual 78, 3) := by decide +kernel
theorem dX8_untell_15 : decode cX8_untell 15 = .ok (.ireturn, 1) := by decide +kernel
theorem dX8_untell_16 : decode cX8_untell 16 = .ok (.aload_n 0, 1) := by decide +kernel
theorem dX8_untell_17 : decode cX8_untell 17 = .ok (.sipush 144, 3) := by decide +kernel
theorem dX8_untell_20 : decode cX8_untell 20 = .ok (.bipush 121, 2) := by decide +kernel
theorem dX8_untell_22 : decode cX8_untell 22 = .ok (.iload_n 1, 1) := by decide +kernel
theorem dX8_untell_23 : decode cX8_untell 23 = .ok (.imul, 1) := by decide +kernel
theorem dX8_untell_24 : decode cX8_untell 24 = .ok (.iadd, 1) := by decide +kernel
theorem dX8_untell_25 : decode cX8_untell 25 = .ok (.iconst 0, 1) := by decide +kernel
theorem dX8_untell_26 : decode cX8_untell 26 = .ok (.invokevirtual 88, 3) := by decide +kernel
theorem dX8_untell_29 : decode cX8_untell 29 = .ok (.ifCond .le 7, 3) := by decide +kernel
theorem dX8_untell_32 : decode cX8_untell 32 = .ok (.iconst 1, 1) := by decide +kernel
theorem dX8_untell_33 : decode cX8_untell 33 = .ok (.goto 4, 3) := by decide +kernel
theorem dX8_untell_36 : decode cX8_untell 36 = .ok (.iconst 0, 1) := by decide +kernel
theorem dX8_untell_37 : decode cX8_untell 37 = .ok (.ireturn, 1) := by decide +kernel
theorem dX8_twoOf_0 : decode cX8_twoOf 0 = .ok (.iload_n 0, 1) := by decide +kernel
theorem dX8_twoOf_1 : decode cX8_twoOf 1 = .ok (.tableswitch 202 37 62 #[143, 188, 202, 202, 202, 127, 119, 202, 123, 202, 131, 202, 202, 202, 202, 202, 202, 202, 202, 202, 202, 202, 202, 155, 166, 177], 119) := by decide +kernel
theorem dX8_twoOf_120 : decode cX8_twoOf 120 = .ok (.iload_n 1, 1) := by decide +kernel
theorem dX8_twoOf_121 : decode cX8_twoOf 121 = .ok (.iload_n 2, 1) := by decide +kernel
theorem dX8_twoOf_122 : decode cX8_twoOf 122 = .ok (.iadd, 1) := by decide +kernel
theorem dX8_twoOf_123 : decode cX8_twoOf 123 = .ok (.ireturn, 1) := by decide +kernel
theorem dX8_twoOf_124 : decode cX8_twoOf 124 = .ok (.iload_n 1, 1) := by decide +kernel
theorem dX8_twoOf_125 : decode cX8_twoOf 125 = .ok (.iload_n 2, 1) := by decide +kernel
theorem dX8_twoOf_126 : decode cX8_twoOf 126 = .ok (.isub, 1) := by decide +kernel
theorem dX8_twoOf_127 : decode cX8_twoOf 127 = .ok (.ireturn, 1) := by decide +kernel
theorem dX8_twoOf_128 : decode cX8_twoOf 128 = .ok (.iload_n 1, 1) := by decide +kernel
theorem dX8_twoOf_129 : decode cX8_twoOf 129 = .ok (.iload_n 2, 1) := by decide +kernel
theorem dX8_twoOf_130 : decode cX8_twoOf 130 = .ok (.imul, 1) := by decide +kernel
theorem dX8_twoOf_131 : decode cX8_twoOf 131 = .ok (.ireturn, 1) := by decide +kernel
theorem dX8_twoOf_132 : decode cX8_twoOf 132 = .ok (.iload_n 2, 1) := by decide +kernel
theorem dX8_twoOf_133 : decode cX8_twoOf 133 = .ok (.ifCond .ne 7, 3) := by decide +kernel
theorem dX8_twoOf_136 : decode cX8_twoOf 136 = .ok (.iconst 0, 1) := by decide +kernel
theorem dX8_twoOf_137 : decode cX8_twoOf 137 = .ok (.goto 6, 3) := by decide +kernel
theorem dX8_twoOf_140 : decode cX8_twoOf 140 = .ok (.iload_n 1, 1) := by decide +kernel
theorem dX8_twoOf_141 : decode cX8_twoOf 141 = .ok (.iload_n 2, 1) := by decide +kernel
theorem dX8_twoOf_142 : decode cX8_twoOf 142 = .ok (.idiv, 1) := by decide +kernel
theorem dX8_twoOf_143 : decode cX8_twoOf 143 = .ok (.ireturn, 1) := by decide +kernel
theorem dX8_twoOf_144 : decode cX8_twoOf 144 = .ok (.iload_n 2, 1) := by decide +kernel
theorem dX8_twoOf_145 : decode cX8_twoOf 145 = .ok (.ifCond .ne 7, 3) := by decide +kernel
theorem dX8_twoOf_148 : decode cX8_twoOf 148 = .ok (.iconst 0, 1) := by decide +kernel
theorem dX8_twoOf_149 : decode cX8_twoOf 149 = .ok (.goto 6, 3) := by decide +kernel
theorem dX8_twoOf_152 : decode cX8_twoOf 152 = .ok (.iload_n 1, 1) := by decide +kernel
theorem dX8_twoOf_153 : decode cX8_twoOf 153 = .ok (.iload_n 2, 1) := by decide +kernel
theorem dX8_twoOf_154 : decode cX8_twoOf 154 = .ok (.irem, 1) := by decide +kernel
theorem dX8_twoOf_155 : decode cX8_twoOf 155 = .ok (.ireturn, 1) := by decide +kernel
theorem dX8_twoOf_156 : decode cX8_twoOf 156 = .ok (.iload_n 1, 1) := by decide +kernel
theorem dX8_twoOf_157 : decode cX8_twoOf 157 = .ok (.iload_n 2, 1) := by decide +kernel
theorem dX8_twoOf_158 : decode cX8_twoOf 158 = .ok (.if_icmp .ge 7, 3) := by decide +kernel
theorem dX8_twoOf_161 : decode cX8_twoOf 161 = .ok (.iconst 1, 1) := by decide +kernel
theorem dX8_twoOf_162 : decode cX8_twoOf 162 = .ok (.goto 4, 3) := by decide +kernel
theorem dX8_twoOf_165 : decode cX8_twoOf 165 = .ok (.iconst 0, 1) := by decide +kernel
theorem dX8_twoOf_166 : decode cX8_twoOf 166 = .ok (.ireturn, 1) := by decide +kernel
theorem dX8_twoOf_167 : decode cX8_twoOf 167 = .ok (.iload_n 1, 1) := by decide +kernel
theorem dX8_twoOf_168 : decode cX8_twoOf 168 = .ok (.iload_n 2, 1) := by decide +kernel
theorem dX8_twoOf_169 : decode cX8_twoOf 169 = .ok (.if_icmp .ne 7, 3) := by decide +kernel
theorem dX8_twoOf_172 : decode cX8_twoOf 172 = .ok (.iconst 1, 1) := by decide +kernel
theorem dX8_twoOf_173 : decode cX8_twoOf 173 = .ok (.goto 4, 3) := by decide +kernel
theorem dX8_twoOf_176 : decode cX8_twoOf 176 = .ok (.iconst 0, 1) := by decide +kernel
theorem dX8_twoOf_177 : decode cX8_twoOf 177 = .ok (.ireturn, 1) := by decide +kernel
theorem dX8_twoOf_178 : decode cX8_twoOf 178 = .ok (.iload_n 1, 1) := by decide +kernel
theorem dX8_twoOf_179 : decode cX8_twoOf 179 = .ok (.iload_n 2, 1) := by decide +kernel
theorem dX8_twoOf_180 : decode cX8_twoOf 180 = .ok (.if_icmp .le 7, 3) := by decide +kernel
theorem dX8_twoOf_183 : decode cX8_twoOf 183 = .ok (.iconst 1, 1) := by decide +kernel
theorem dX8_twoOf_184 : decode cX8_twoOf 184 = .ok (.goto 4, 3) := by decide +kernel
theorem dX8_twoOf_187 : decode cX8_twoOf 187 = .ok (.iconst 0, 1) := by decide +kernel
theorem dX8_twoOf_188 : decode cX8_twoOf 188 = .ok (.ireturn, 1) := by decide +kernel
theorem dX8_twoOf_189 : decode cX8_twoOf 189 = .ok (.iload_n 1, 1) := by decide +kernel
theorem dX8_twoOf_190 : decode cX8_twoOf 190 = .ok (.ifCond .eq 11, 3) := by decide +kernel
theorem dX8_twoOf_193 : decode cX8_twoOf 193 = .ok (.iload_n 2, 1) := by decide +kernel
theorem dX8_twoOf_194 : decode cX8_twoOf 194 = .ok (.ifCond .eq 7, 3) := by decide +kernel
theorem dX8_twoOf_197 : decode cX8_twoOf 197 = .ok (.iconst 1, 1) := by decide +kernel
theorem dX8_twoOf_198 : decode cX8_twoOf 198 = .ok (.goto 4, 3) := by decide +kernel
theorem dX8_twoOf_201 : decode cX8_twoOf 201 = .ok (.iconst 0, 1) := by decide +kernel
theorem dX8_twoOf_202 : decode cX8_twoOf 202 = .ok (.ireturn, 1) := by decide +kernel
theorem dX8_twoOf_203 : decode cX8_twoOf 203 = .ok (.iload_n 1, 1) := by decide +kernel
theorem dX8_twoOf_204 : decode cX8_twoOf 204 = .ok (.ifCond .ne 7, 3) := by decide +kernel
theorem dX8_twoOf_207 : decode cX8_twoOf 207 = .ok (.iload_n 2, 1) := by decide +kernel
theorem dX8_twoOf_208 : decode cX8_twoOf 208 = .ok (.ifCond .eq 7, 3) := by decide +kernel
theorem dX8_twoOf_211 : decode cX8_twoOf 211 = .ok (.iconst 1, 1) := by decide +kernel
theorem dX8_twoOf_212 : decode cX8_twoOf 212 = .ok (.goto 4, 3) := by decide +kernel
theorem dX8_twoOf_215 : decode cX8_twoOf 215 = .ok (.iconst 0, 1) := by decide +kernel
theorem dX8_twoOf_216 : decode cX8_twoOf 216 = .ok (.ireturn, 1) := by decide +kernel
theorem dX8_works_0 : decode cX8_works 0 = .ok (.iconst 0, 1) := by decide +kernel
theorem dX8_works_1 : decode cX8_works 1 = .ok (.istore_n 2, 1) := by decide +kernel
theorem dX8_works_2 : decode cX8_works 2 = .ok (.iconst 0, 1) := by decide +kernel
theorem dX8_works_3 : decode cX8_works 3 = .ok (.istore_n 3, 1) := by decide +kernel
theorem dX8_works_4 : decode cX8_works 4 = .ok (.iload_n 3, 1) := by decide +kernel
theorem dX8_works_5 : decode cX8_works 5 = .ok (.aload_n 0, 1) := by decide +kernel
theorem dX8_works_6 : decode cX8_works 6 = .ok (.getfield 9, 3) := by decide +kernel
theorem dX8_works_9 : decode cX8_works 9 = .ok (.iload_n 1, 1) := by decide +kernel
theorem dX8_works_10 : decode cX8_works 10 = .ok (.iaload, 1) := by decide +kernel
theorem dX8_works_11 : decode cX8_works 11 = .ok (.if_icmp .ge 144, 3) := by decide +kernel
theorem dX8_works_14 : decode cX8_works 14 = .ok (.aload_n 0, 1) := by decide +kernel
theorem dX8_works_15 : decode cX8_works 15 = .ok (.getfield 9, 3) := by decide +kernel
theorem dX8_works_18 : decode cX8_works 18 = .ok (.iload_n 1, 1) := by decide +kernel
theorem dX8_works_19 : decode cX8_works 19 = .ok (.iconst 1, 1) := by decide +kernel
theorem dX8_works_20 : decode cX8_works 20 = .ok (.iadd, 1) := by decide +kernel
theorem dX8_works_21 : decode cX8_works 21 = .ok (.iload_n 3, 1) := by decide +kernel
theorem dX8_works_22 : decode cX8_works 22 = .ok (.iadd, 1) := by decide +kernel
theorem dX8_works_23 : decode cX8_works 23 = .ok (.iaload, 1) := by decide +kernel
theorem dX8_works_24 : decode cX8_works 24 = .ok (.istore 4, 2) := by decide +kernel
theorem dX8_works_26 : decode cX8_works 26 = .ok (.iload 4, 2) := by decide +kernel
theorem dX8_works_28 : decode cX8_works 28 = .ok (.iconst 1, 1) := by decide +kernel
theorem dX8_works_29 : decode cX8_works 29 = .ok (.if_icmp .eq 9, 3) := by decide +kernel
theorem dX8_works_32 : decode cX8_works 32 = .ok (.iload 4, 2) := by decide +kernel
theorem dX8_works_34 : decode cX8_works 34 = .ok (.iconst 2, 1) := by decide +kernel
theorem dX8_works_35 : decode cX8_works 35 = .ok (.if_icmp .ne 51, 3) := by decide +kernel
theorem dX8_works_38 : decode cX8_works 38 = .ok (.aload_n 0, 1) := by decide +kernel
theorem dX8_works_39 : decode cX8_works 39 = .ok (.getfield 37, 3) := by decide +kernel
theorem dX8_works_42 : decode cX8_works 42 = .ok (.iload_n 2, 1) := by decide +kernel
theorem dX8_works_43 : decode cX8_works 43 = .ok (.iload 4, 2) := by decide +kernel
theorem dX8_works_45 : decode cX8_works 45 = .ok (.iconst 1, 1) := by decide +kernel
theorem dX8_works_46 : decode cX8_works 46 = .ok (.if_icmp .ne 17, 3) := by decide +kernel
theorem dX8_works_49 : decode cX8_works 49 = .ok (.aload_n 0, 1) := by decide +kernel
theorem dX8_works_50 : decode cX8_works 50 = .ok (.getfield 9, 3) := by decide +kernel
theorem dX8_works_53 : decode cX8_works 53 = .ok (.iload_n 1, 1) := by decide +kernel
theorem dX8_works_54 : decode cX8_works 54 = .ok (.bipush 61, 2) := by decide +kernel
theorem dX8_works_56 : decode cX8_works 56 = .ok (.iadd, 1) := by decide +kernel
theorem dX8_works_57 : decode cX8_works 57 = .ok (.iload_n 3, 1) := by decide +kernel
theorem dX8_works_58 : decode cX8_works 58 = .ok (.iadd, 1) := by decide +kernel
theorem dX8_works_59 : decode cX8_works 59 = .ok (.iaload, 1) := by decide +kernel
theorem dX8_works_60 : decode cX8_works 60 = .ok (.goto 19, 3) := by decide +kernel
theorem dX8_works_63 : decode cX8_works 63 = .ok (.aload_n 0, 1) := by decide +kernel
theorem dX8_works_64 : decode cX8_works 64 = .ok (.getfield 34, 3) := by decide +kernel
theorem dX8_works_67 : decode cX8_works 67 = .ok (.aload_n 0, 1) := by decide +kernel
theorem dX8_works_68 : decode cX8_works 68 = .ok (.getfield 9, 3) := by decide +kernel
theorem dX8_works_71 : decode cX8_works 71 = .ok (.iload_n 1, 1) := by decide +kernel
theorem dX8_works_72 : decode cX8_works 72 = .ok (.bipush 61, 2) := by decide +kernel
theorem dX8_works_74 : decode cX8_works 74 = .ok (.iadd, 1) := by decide +kernel
theorem dX8_works_75 : decode cX8_works 75 = .ok (.iload_n 3, 1) := by decide +kernel
theorem dX8_works_76 : decode cX8_works 76 = .ok (.iadd, 1) := by decide +kernel
theorem dX8_works_77 : decode cX8_works 77 = .ok (.iaload, 1) := by decide +kernel
theorem dX8_works_78 : decode cX8_works 78 = .ok (.iaload, 1) := by decide +kernel
theorem dX8_works_79 : decode cX8_works 79 = .ok (.iastore, 1) := by decide +kernel
theorem dX8_works_80 : decode cX8_works 80 = .ok (.iinc 2 1, 3) := by decide +kernel
theorem dX8_works_83 : decode cX8_works 83 = .ok (.goto 66, 3) := by decide +kernel
theorem dX8_works_86 : decode cX8_works 86 = .ok (.iload 4, 2) := by decide +kernel
theorem dX8_works_88 : decode cX8_works 88 = .ok (.iconst 3, 1) := by decide +kernel
theorem dX8_works_89 : decode cX8_works 89 = .ok (.if_icmp .ne 30, 3) := by decide +kernel
theorem dX8_works_92 : decode cX8_works 92 = .ok (.aload_n 0, 1) := by decide +kernel
theorem dX8_works_93 : decode cX8_works 93 = .ok (.getfield 37, 3) := by decide +kernel
theorem dX8_works_96 : decode cX8_works 96 = .ok (.iload_n 2, 1) := by decide +kernel
theorem dX8_works_97 : decode cX8_works 97 = .ok (.iconst 1, 1) := by decide +kernel
theorem dX8_works_98 : decode cX8_works 98 = .ok (.isub, 1) := by decide +kernel
theorem dX8_works_99 : decode cX8_works 99 = .ok (.aload_n 0, 1) := by decide +kernel
theorem dX8_works_100 : decode cX8_works 100 = .ok (.getfield 37, 3) := by decide +kernel
theorem dX8_works_103 : decode cX8_works 103 = .ok (.iload_n 2, 1) := by decide +kernel
theorem dX8_works_104 : decode cX8_works 104 = .ok (.iconst 1, 1) := by decide +kernel
theorem dX8_works_105 : decode cX8_works 105 = .ok (.isub, 1) := by decide +kernel
theorem dX8_works_106 : decode cX8_works 106 = .ok (.iaload, 1) := by decide +kernel
theorem dX8_works_107 : decode cX8_works 107 = .ok (.ifCond .ne 7, 3) := by decide +kernel
theorem dX8_works_110 : decode cX8_works 110 = .ok (.iconst 1, 1) := by decide +kernel
theorem dX8_works_111 : decode cX8_works 111 = .ok (.goto 4, 3) := by decide +kernel
theorem dX8_works_114 : decode cX8_works 114 = .ok (.iconst 0, 1) := by decide +kernel
theorem dX8_works_115 : decode cX8_works 115 = .ok (.iastore, 1) := by decide +kernel
theorem dX8_works_116 : decode cX8_works 116 = .ok (.goto 33, 3) := by decide +kernel
theorem dX8_works_119 : decode cX8_works 119 = .ok (.iinc 2 (-1), 3) := by decide +kernel
theorem dX8_works_122 : decode cX8_works 122 = .ok (.aload_n 0, 1) := by decide +kernel
theorem dX8_works_123 : decode cX8_works 123 = .ok (.getfield 37, 3) := by decide +kernel
theorem dX8_works_126 : decode cX8_works 126 = .ok (.iload_n 2, 1) := by decide +kernel
theorem dX8_works_127 : decode cX8_works 127 = .ok (.iconst 1, 1) := by decide +kernel
theorem dX8_works_128 : decode cX8_works 128 = .ok (.isub, 1) := by decide +kernel
theorem dX8_works_129 : decode cX8_works 129 = .ok (.iload 4, 2) := by decide +kernel
theorem dX8_works_131 : decode cX8_works 131 = .ok (.aload_n 0, 1) := by decide +kernel
theorem dX8_works_132 : decode cX8_works 132 = .ok (.getfield 37, 3) := by decide +kernel
theorem dX8_works_135 : decode cX8_works 135 = .ok (.iload_n 2, 1) := by decide +kernel
theorem dX8_works_136 : decode cX8_works 136 = .ok (.iconst 1, 1) := by decide +kernel
theorem dX8_works_137 : decode cX8_works 137 = .ok (.isub, 1) := by decide +kernel
theorem dX8_works_138 : decode cX8_works 138 = .ok (.iaload, 1) := by decide +kernel
theorem dX8_works_139 : decode cX8_works 139 = .ok (.aload_n 0, 1) := by decide +kernel
theorem dX8_works_140 : decode cX8_works 140 = .ok (.getfield 37, 3) := by decide +kernel
theorem dX8_works_143 : decode cX8_works 143 = .ok (.iload_n 2, 1) := by decide +kernel
theorem dX8_works_144 : decode cX8_works 144 = .ok (.iaload, 1) := by decide +kernel
theorem dX8_works_145 : decode cX8_works 145 = .ok (.invokestatic 179, 3) := by decide +kernel
theorem dX8_works_148 : decode cX8_works 148 = .ok (.iastore, 1) := by decide +kernel
theorem dX8_works_149 : decode cX8_works 149 = .ok (.iinc 3 1, 3) := by decide +kernel
theorem dX8_works_152 : decode cX8_works 152 = .ok (.goto (-148), 3) := by decide +kernel
theorem dX8_works_155 : decode cX8_works 155 = .ok (.aload_n 0, 1) := by decide +kernel
theorem dX8_works_156 : decode cX8_works 156 = .ok (.getfield 37, 3) := by decide +kernel
theorem dX8_works_159 : decode cX8_works 159 = .ok (.iconst 0, 1) := by decide +kernel
theorem dX8_works_160 : decode cX8_works 160 = .ok (.iaload, 1) := by decide +kernel
theorem dX8_works_161 : decode cX8_works 161 = .ok (.ireturn, 1) := by decide +kernel
theorem dX8_gives_0 : decode cX8_gives 0 = .ok (.sipush 144, 3) := by decide +kernel
theorem dX8_gives_3 : decode cX8_gives 3 = .ok (.bipush 121, 2) := by decide +kernel
theorem dX8_gives_5 : decode cX8_gives 5 = .ok (.iload_n 1, 1) := by decide +kernel
theorem dX8_gives_6 : decode cX8_gives 6 = .ok (.imul, 1) := by decide +kernel
theorem dX8_gives_7 : decode cX8_gives 7 = .ok (.iadd, 1) := by decide +kernel
theorem dX8_gives_8 : decode cX8_gives 8 = .ok (.istore 5, 2) := by decide +kernel
theorem dX8_gives_10 : decode cX8_gives 10 = .ok (.aload_n 0, 1) := by decide +kernel
theorem dX8_gives_11 : decode cX8_gives 11 = .ok (.getfield 34, 3) := by decide +kernel
theorem dX8_gives_14 : decode cX8_gives 14 = .ok (.iconst 0, 1) := by decide +kernel
theorem dX8_gives_15 : decode cX8_gives 15 = .ok (.iload_n 2, 1) := by decide +kernel
theorem dX8_gives_16 : decode cX8_gives 16 = .ok (.iastore, 1) := by decide +kernel
theorem dX8_gives_17 : decode cX8_gives 17 = .ok (.aload_n 0, 1) := by decide +kernel
theorem dX8_gives_18 : decode cX8_gives 18 = .ok (.getfield 34, 3) := by decide +kernel
theorem dX8_gives_21 : decode cX8_gives 21 = .ok (.iconst 1, 1) := by decide +kernel
theorem dX8_gives_22 : decode cX8_gives 22 = .ok (.iload_n 3, 1) := by decide +kernel
theorem dX8_gives_23 : decode cX8_gives 23 = .ok (.iastore, 1) := by decide +kernel
theorem dX8_gives_24 : decode cX8_gives 24 = .ok (.aload_n 0, 1) := by decide +kernel
theorem dX8_gives_25 : decode cX8_gives 25 = .ok (.getfield 34, 3) := by decide +kernel
theorem dX8_gives_28 : decode cX8_gives 28 = .ok (.iconst 2, 1) := by decide +kernel
theorem dX8_gives_29 : decode cX8_gives 29 = .ok (.iload 4, 2) := by decide +kernel
theorem dX8_gives_31 : decode cX8_gives 31 = .ok (.iastore, 1) := by decide +kernel
theorem dX8_gives_32 : decode cX8_gives 32 = .ok (.aload_n 0, 1) := by decide +kernel
theorem dX8_gives_33 : decode cX8_gives 33 = .ok (.getfield 9, 3) := by decide +kernel
theorem dX8_gives_36 : decode cX8_gives 36 = .ok (.iload 5, 2) := by decide +kernel
theorem dX8_gives_38 : decode cX8_gives 38 = .ok (.iaload, 1) := by decide +kernel
theorem dX8_gives_39 : decode cX8_gives 39 = .ok (.ifCond .le 12, 3) := by decide +kernel
theorem dX8_gives_42 : decode cX8_gives 42 = .ok (.aload_n 0, 1) := by decide +kernel
theorem dX8_gives_43 : decode cX8_gives 43 = .ok (.iload 5, 2) := by decide +kernel
theorem dX8_gives_45 : decode cX8_gives 45 = .ok (.invokevirtual 182, 3) := by decide +kernel
theorem dX8_gives_48 : decode cX8_gives 48 = .ok (.goto 23, 3) := by decide +kernel
theorem dX8_gives_51 : decode cX8_gives 51 = .ok (.iload_n 1, 1) := by decide +kernel
theorem dX8_gives_52 : decode cX8_gives 52 = .ok (.ifCond .ne 7, 3) := by decide +kernel
theorem dX8_gives_55 : decode cX8_gives 55 = .ok (.iload_n 2, 1) := by decide +kernel
theorem dX8_gives_56 : decode cX8_gives 56 = .ok (.goto 15, 3) := by decide +kernel
theorem dX8_gives_59 : decode cX8_gives 59 = .ok (.iload_n 2, 1) := by decide +kernel
theorem dX8_gives_60 : decode cX8_gives 60 = .ok (.iconst 1, 1) := by decide +kernel
theorem dX8_gives_61 : decode cX8_gives 61 = .ok (.if_icmp .ne 8, 3) := by decide +kernel
theorem dX8_gives_64 : decode cX8_gives 64 = .ok (.bipush 25, 2) := by decide +kernel
theorem dX8_gives_66 : decode cX8_gives 66 = .ok (.goto 5, 3) := by decide +kernel
theorem dX8_gives_69 : decode cX8_gives 69 = .ok (.bipush (-50), 2) := by decide +kernel
theorem dX8_gives_71 : decode cX8_gives 71 = .ok (.istore 6, 2) := by decide +kernel
theorem dX8_gives_73 : decode cX8_gives 73 = .ok (.iload_n 1, 1) := by decide +kernel
theorem dX8_gives_74 : decode cX8_gives 74 = .ok (.ifCond .ne 15, 3) := by decide +kernel
theorem dX8_gives_77 : decode cX8_gives 77 = .ok (.iload 6, 2) := by decide +kernel
theorem dX8_gives_79 : decode cX8_gives 79 = .ok (.iconst 0, 1) := by decide +kernel
theorem dX8_gives_80 : decode cX8_gives 80 = .ok (.sipush 199, 3) := by decide +kernel
theorem dX8_gives_83 : decode cX8_gives 83 = .ok (.invokestatic 106, 3) := by decide +kernel
theorem dX8_gives_86 : decode cX8_gives 86 = .ok (.goto 12, 3) := by decide +kernel
theorem dX8_gives_89 : decode cX8_gives 89 = .ok (.iload 6, 2) := by decide +kernel
theorem dX8_gives_91 : decode cX8_gives 91 = .ok (.bipush (-99), 2) := by decide +kernel
theorem dX8_gives_93 : decode cX8_gives 93 = .ok (.bipush 99, 2) := by decide +kernel
theorem dX8_gives_95 : decode cX8_gives 95 = .ok (.invokestatic 106, 3) := by decide +kernel
theorem dX8_gives_98 : decode cX8_gives 98 = .ok (.ireturn, 1) := by decide +kernel
theorem dX8_law_0 : decode cX8_law 0 = .ok (.iload_n 1, 1) := by decide +kernel
theorem dX8_law_1 : decode cX8_law 1 = .ok (.iconst 0, 1) := by decide +kernel
theorem dX8_law_2 : decode cX8_law 2 = .ok (.iconst 1, 1) := by decide +kernel
theorem dX8_law_3 : decode cX8_law 3 = .ok (.invokestatic 44, 3) := by decide +kernel
theorem dX8_law_6 : decode cX8_law 6 = .ok (.ifCond .eq 15, 3) := by decide +kernel
theorem dX8_law_9 : decode cX8_law 9 = .ok (.aload_n 0, 1) := by decide +kernel
theorem dX8_law_10 : decode cX8_law 10 = .ok (.iload_n 1, 1) := by decide +kernel
theorem dX8_law_11 : decode cX8_law 11 = .ok (.iload_n 2, 1) := by decide +kernel
theorem dX8_law_12 : decode cX8_law 12 = .ok (.iload_n 3, 1) := by decide +kernel
theorem dX8_law_13 : decode cX8_law 13 = .ok (.iload 4, 2) := by decide +kernel
theorem dX8_law_15 : decode cX8_law 15 = .ok (.invokevirtual 56, 3) := by decide +kernel
theorem dX8_law_18 : decode cX8_law 18 = .ok (.goto 9, 3) := by decide +kernel
theorem dX8_law_21 : decode cX8_law 21 = .ok (.aload_n 0, 1) := by decide +kernel
theorem dX8_law_22 : decode cX8_law 22 = .ok (.ldc 77, 2) := by decide +kernel
theorem dX8_law_24 : decode cX8_law 24 = .ok (.invokevirtual 78, 3) := by decide +kernel
theorem dX8_law_27 : decode cX8_law 27 = .ok (.ireturn, 1) := by decide +kernel
theorem dX8_margin_0 : decode cX8_margin 0 = .ok (.aload_n 0, 1) := by decide +kernel
theorem dX8_margin_1 : decode cX8_margin 1 = .ok (.iload_n 1, 1) := by decide +kernel
theorem dX8_margin_2 : decode cX8_margin 2 = .ok (.invokevirtual 96, 3) := by decide +kernel
theorem dX8_margin_5 : decode cX8_margin 5 = .ok (.ifCond .eq 28, 3) := by decide +kernel
theorem dX8_margin_8 : decode cX8_margin 8 = .ok (.aload_n 0, 1) := by decide +kernel
theorem dX8_margin_9 : decode cX8_margin 9 = .ok (.iload_n 2, 1) := by decide +kernel
theorem dX8_margin_10 : decode cX8_margin 10 = .ok (.invokevirtual 82, 3) := by decide +kernel
theorem dX8_margin_13 : decode cX8_margin 13 = .ok (.ifCond .eq 20, 3) := by decide +kernel
theorem dX8_margin_16 : decode cX8_margin 16 = .ok (.iload_n 3, 1) := by decide +kernel
theorem dX8_margin_17 : decode cX8_margin 17 = .ok (.invokestatic 103, 3) := by decide +kernel
theorem dX8_margin_20 : decode cX8_margin 20 = .ok (.ifCond .eq 13, 3) := by decide +kernel
theorem dX8_margin_23 : decode cX8_margin 23 = .ok (.aload_n 0, 1) := by decide +kernel
theorem dX8_margin_24 : decode cX8_margin 24 = .ok (.iload_n 1, 1) := by decide +kernel
theorem dX8_margin_25 : decode cX8_margin 25 = .ok (.iload_n 2, 1) := by decide +kernel
theorem dX8_margin_26 : decode cX8_margin 26 = .ok (.iload_n 3, 1) := by decide +kernel
theorem dX8_margin_27 : decode cX8_margin 27 = .ok (.invokevirtual 69, 3) := by decide +kernel
theorem dX8_margin_30 : decode cX8_margin 30 = .ok (.goto 9, 3) := by decide +kernel
theorem dX8_margin_33 : decode cX8_margin 33 = .ok (.aload_n 0, 1) := by decide +kernel
theorem dX8_margin_34 : decode cX8_margin 34 = .ok (.ldc 77, 2) := by decide +kernel
theorem dX8_margin_36 : decode cX8_margin 36 = .ok (.invokevirtual 78, 3) := by decide +kernel
theorem dX8_margin_39 : decode cX8_margin 39 = .ok (.ireturn, 1) := by decide +kernel
theorem dX8_leadFor_0 : decode cX8_leadFor 0 = .ok (.aload_n 0, 1) := by decide +kernel
theorem dX8_leadFor_1 : decode cX8_leadFor 1 = .ok (.iload_n 1, 1) := by decide +kernel
theorem dX8_leadFor_2 : decode cX8_leadFor 2 = .ok (.invokevirtual 96, 3) := by decide +kernel
theorem dX8_leadFor_5 : decode cX8_leadFor 5 = .ok (.ifCond .eq 11, 3) := by decide +kernel
theorem dX8_leadFor_8 : decode cX8_leadFor 8 = .ok (.aload_n 0, 1) := by decide +kernel
theorem dX8_leadFor_9 : decode cX8_leadFor 9 = .ok (.iload_n 2, 1) := by decide +kernel
theorem dX8_leadFor_10 : decode cX8_leadFor 10 = .ok (.invokevirtual 82, 3) := by decide +kernel
theorem dX8_leadFor_13 : decode cX8_leadFor 13 = .ok (.ifCond .ne 10, 3) := by decide +kernel
theorem dX8_leadFor_16 : decode cX8_leadFor 16 = .ok (.aload_n 0, 1) := by decide +kernel
theorem dX8_leadFor_17 : decode cX8_leadFor 17 = .ok (.ldc 77, 2) := by decide +kernel
theorem dX8_leadFor_19 : decode cX8_leadFor 19 = .ok (.invokevirtual 78, 3) := by decide +kernel
theorem dX8_leadFor_22 : decode cX8_leadFor 22 = .ok (.ireturn, 1) := by decide +kernel
theorem dX8_leadFor_23 : decode cX8_leadFor 23 = .ok (.iconst 0, 1) := by decide +kernel
theorem dX8_leadFor_24 : decode cX8_leadFor 24 = .ok (.istore_n 3, 1) := by decide +kernel
theorem dX8_leadFor_25 : decode cX8_leadFor 25 = .ok (.iload_n 3, 1) := by decide +kernel
theorem dX8_leadFor_26 : decode cX8_leadFor 26 = .ok (.bipush 20, 2) := by decide +kernel
theorem dX8_leadFor_28 : decode cX8_leadFor 28 = .ok (.if_icmp .gt 21, 3) := by decide +kernel
theorem dX8_leadFor_31 : decode cX8_leadFor 31 = .ok (.aload_n 0, 1) := by decide +kernel
theorem dX8_leadFor_32 : decode cX8_leadFor 32 = .ok (.iload_n 1, 1) := by decide +kernel
theorem dX8_leadFor_33 : decode cX8_leadFor 33 = .ok (.iload_n 2, 1) := by decide +kernel
theorem dX8_leadFor_34 : decode cX8_leadFor 34 = .ok (.iload_n 3, 1) := by decide +kernel
theorem dX8_leadFor_35 : decode cX8_leadFor 35 = .ok (.invokevirtual 113, 3) := by decide +kernel
theorem dX8_leadFor_38 : decode cX8_leadFor 38 = .ok (.ifCond .eq 5, 3) := by decide +kernel
theorem dX8_leadFor_41 : decode cX8_leadFor 41 = .ok (.iload_n 3, 1) := by decide +kernel
theorem dX8_leadFor_42 : decode cX8_leadFor 42 = .ok (.ireturn, 1) := by decide +kernel
theorem dX8_leadFor_43 : decode cX8_leadFor 43 = .ok (.iinc 3 1, 3) := by decide +kernel
theorem dX8_leadFor_46 : decode cX8_leadFor 46 = .ok (.goto (-21), 3) := by decide +kernel
theorem dX8_leadFor_49 : decode cX8_leadFor 49 = .ok (.aload_n 0, 1) := by decide +kernel
theorem dX8_leadFor_50 : decode cX8_leadFor 50 = .ok (.ldc 185, 2) := by decide +kernel
theorem dX8_leadFor_52 : decode cX8_leadFor 52 = .ok (.invokevirtual 78, 3) := by decide +kernel
theorem dX8_leadFor_55 : decode cX8_leadFor 55 = .ok (.ireturn, 1) := by decide +kernel
theorem dX8_gainsFrom_0 : decode cX8_gainsFrom 0 = .ok (.iconst 0, 1) := by decide +kernel
theorem dX8_gainsFrom_1 : decode cX8_gainsFrom 1 = .ok (.istore_n 3, 1) := by decide +kernel
theorem dX8_gainsFrom_2 : decode cX8_gainsFrom 2 = .ok (.iconst 0, 1) := by decide +kernel
theorem dX8_gainsFrom_3 : decode cX8_gainsFrom 3 = .ok (.istore 4, 2) := by decide +kernel
theorem dX8_gainsFrom_5 : decode cX8_gainsFrom 5 = .ok (.iload 4, 2) := by decide +kernel
theorem dX8_gainsFrom_7 : decode cX8_gainsFrom 7 = .ok (.aload_n 0, 1) := by decide +kernel
theorem dX8_gainsFrom_8 : decode cX8_gainsFrom 8 = .ok (.getfield 9, 3) := by decide +kernel
theorem dX8_gainsFrom_11 : decode cX8_gainsFrom 11 = .ok (.bipush 7, 2) := by decide +kernel
theorem dX8_gainsFrom_13 : decode cX8_gainsFrom 13 = .ok (.iaload, 1) := by decide +kernel
theorem dX8_gainsFrom_14 : decode cX8_gainsFrom 14 = .ok (.if_icmp .ge 28, 3) := by decide +kernel
theorem dX8_gainsFrom_17 : decode cX8_gainsFrom 17 = .ok (.iload_n 3, 1) := by decide +kernel
theorem dX8_gainsFrom_18 : decode cX8_gainsFrom 18 = .ok (.aload_n 0, 1) := by decide +kernel
theorem dX8_gainsFrom_19 : decode cX8_gainsFrom 19 = .ok (.iload 4, 2) := by decide +kernel
theorem dX8_gainsFrom_21 : decode cX8_gainsFrom 21 = .ok (.iconst 2, 1) := by decide +kernel
theorem dX8_gainsFrom_22 : decode cX8_gainsFrom 22 = .ok (.invokevirtual 48, 3) := by decide +kernel
theorem dX8_gainsFrom_25 : decode cX8_gainsFrom 25 = .ok (.aload_n 0, 1) := by decide +kernel
theorem dX8_gainsFrom_26 : decode cX8_gainsFrom 26 = .ok (.iload_n 1, 1) := by decide +kernel
theorem dX8_gainsFrom_27 : decode cX8_gainsFrom 27 = .ok (.iload 4, 2) := by decide +kernel
theorem dX8_gainsFrom_29 : decode cX8_gainsFrom 29 = .ok (.iload_n 2, 1) := by decide +kernel
theorem dX8_gainsFrom_30 : decode cX8_gainsFrom 30 = .ok (.invokevirtual 116, 3) := by decide +kernel
theorem dX8_gainsFrom_33 : decode cX8_gainsFrom 33 = .ok (.imul, 1) := by decide +kernel
theorem dX8_gainsFrom_34 : decode cX8_gainsFrom 34 = .ok (.iadd, 1) := by decide +kernel
theorem dX8_gainsFrom_35 : decode cX8_gainsFrom 35 = .ok (.istore_n 3, 1) := by decide +kernel
theorem dX8_gainsFrom_36 : decode cX8_gainsFrom 36 = .ok (.iinc 4 1, 3) := by decide +kernel
theorem dX8_gainsFrom_39 : decode cX8_gainsFrom 39 = .ok (.goto (-34), 3) := by decide +kernel
theorem dX8_gainsFrom_42 : decode cX8_gainsFrom 42 = .ok (.iload_n 3, 1) := by decide +kernel
theorem dX8_gainsFrom_43 : decode cX8_gainsFrom 43 = .ok (.ireturn, 1) := by decide +kernel
theorem dX8_bestLead_0 : decode cX8_bestLead 0 = .ok (.aload_n 0, 1) := by decide +kernel
theorem dX8_bestLead_1 : decode cX8_bestLead 1 = .ok (.iload_n 1, 1) := by decide +kernel
theorem dX8_bestLead_2 : decode cX8_bestLead 2 = .ok (.invokevirtual 96, 3) := by decide +kernel
theorem dX8_bestLead_5 : decode cX8_bestLead 5 = .ok (.ifCond .eq 12, 3) := by decide +kernel
theorem dX8_bestLead_8 : decode cX8_bestLead 8 = .ok (.iload_n 2, 1) := by decide +kernel
theorem dX8_bestLead_9 : decode cX8_bestLead 9 = .ok (.iconst 0, 1) := by decide +kernel
theorem dX8_bestLead_10 : decode cX8_bestLead 10 = .ok (.iconst 1, 1) := by decide +kernel
theorem dX8_bestLead_11 : decode cX8_bestLead 11 = .ok (.invokestatic 44, 3) := by decide +kernel
theorem dX8_bestLead_14 : decode cX8_bestLead 14 = .ok (.ifCond .ne 10, 3) := by decide +kernel
theorem dX8_bestLead_17 : decode cX8_bestLead 17 = .ok (.aload_n 0, 1) := by decide +kernel
theorem dX8_bestLead_18 : decode cX8_bestLead 18 = .ok (.ldc 77, 2) := by decide +kernel
theorem dX8_bestLead_20 : decode cX8_bestLead 20 = .ok (.invokevirtual 78, 3) := by decide +kernel
theorem dX8_bestLead_23 : decode cX8_bestLead 23 = .ok (.ireturn, 1) := by decide +kernel
theorem dX8_bestLead_24 : decode cX8_bestLead 24 = .ok (.iconst (-1), 1) := by decide +kernel
theorem dX8_bestLead_25 : decode cX8_bestLead 25 = .ok (.istore_n 3, 1) := by decide +kernel
theorem dX8_bestLead_26 : decode cX8_bestLead 26 = .ok (.iconst 0, 1) := by decide +kernel
theorem dX8_bestLead_27 : decode cX8_bestLead 27 = .ok (.istore 4, 2) := by decide +kernel
theorem dX8_bestLead_29 : decode cX8_bestLead 29 = .ok (.iconst 0, 1) := by decide +kernel
theorem dX8_bestLead_30 : decode cX8_bestLead 30 = .ok (.istore 5, 2) := by decide +kernel
theorem dX8_bestLead_32 : decode cX8_bestLead 32 = .ok (.iload 5, 2) := by decide +kernel
theorem dX8_bestLead_34 : decode cX8_bestLead 34 = .ok (.bipush 20, 2) := by decide +kernel
theorem dX8_bestLead_36 : decode cX8_bestLead 36 = .ok (.if_icmp .gt 72, 3) := by decide +kernel
theorem dX8_bestLead_39 : decode cX8_bestLead 39 = .ok (.aload_n 0, 1) := by decide +kernel
theorem dX8_bestLead_40 : decode cX8_bestLead 40 = .ok (.iload_n 1, 1) := by decide +kernel
theorem dX8_bestLead_41 : decode cX8_bestLead 41 = .ok (.iload 5, 2) := by decide +kernel
theorem dX8_bestLead_43 : decode cX8_bestLead 43 = .ok (.invokevirtual 99, 3) := by decide +kernel
theorem dX8_bestLead_46 : decode cX8_bestLead 46 = .ok (.ifCond .ne 56, 3) := by decide +kernel
theorem dX8_bestLead_49 : decode cX8_bestLead 49 = .ok (.aload_n 0, 1) := by decide +kernel
theorem dX8_bestLead_50 : decode cX8_bestLead 50 = .ok (.iload_n 1, 1) := by decide +kernel
theorem dX8_bestLead_51 : decode cX8_bestLead 51 = .ok (.iload 5, 2) := by decide +kernel
theorem dX8_bestLead_53 : decode cX8_bestLead 53 = .ok (.invokevirtual 186, 3) := by decide +kernel
theorem dX8_bestLead_56 : decode cX8_bestLead 56 = .ok (.istore 6, 2) := by decide +kernel
theorem dX8_bestLead_58 : decode cX8_bestLead 58 = .ok (.iload_n 3, 1) := by decide +kernel
theorem dX8_bestLead_59 : decode cX8_bestLead 59 = .ok (.ifCond .lt 10, 3) := by decide +kernel
theorem dX8_bestLead_62 : decode cX8_bestLead 62 = .ok (.iload 6, 2) := by decide +kernel
theorem dX8_bestLead_64 : decode cX8_bestLead 64 = .ok (.iload 4, 2) := by decide +kernel
theorem dX8_bestLead_66 : decode cX8_bestLead 66 = .ok (.if_icmp .le 7, 3) := by decide +kernel
theorem dX8_bestLead_69 : decode cX8_bestLead 69 = .ok (.iconst 1, 1) := by decide +kernel
theorem dX8_bestLead_70 : decode cX8_bestLead 70 = .ok (.goto 4, 3) := by decide +kernel
theorem dX8_bestLead_73 : decode cX8_bestLead 73 = .ok (.iconst 0, 1) := by decide +kernel
theorem dX8_bestLead_74 : decode cX8_bestLead 74 = .ok (.istore 7, 2) := by decide +kernel
theorem dX8_bestLead_76 : decode cX8_bestLead 76 = .ok (.iload 7, 2) := by decide +kernel
theorem dX8_bestLead_78 : decode cX8_bestLead 78 = .ok (.ifCond .eq 8, 3) := by decide +kernel
theorem dX8_bestLead_81 : decode cX8_bestLead 81 = .ok (.iload 5, 2) := by decide +kernel
theorem dX8_bestLead_83 : decode cX8_bestLead 83 = .ok (.goto 4, 3) := by decide +kernel
theorem dX8_bestLead_86 : decode cX8_bestLead 86 = .ok (.iload_n 3, 1) := by decide +kernel
theorem dX8_bestLead_87 : decode cX8_bestLead 87 = .ok (.istore_n 3, 1) := by decide +kernel
theorem dX8_bestLead_88 : decode cX8_bestLead 88 = .ok (.iload 7, 2) := by decide +kernel
theorem dX8_bestLead_90 : decode cX8_bestLead 90 = .ok (.ifCond .eq 8, 3) := by decide +kernel
theorem dX8_bestLead_93 : decode cX8_bestLead 93 = .ok (.iload 6, 2) := by decide +kernel
theorem dX8_bestLead_95 : decode cX8_bestLead 95 = .ok (.goto 5, 3) := by decide +kernel
theorem dX8_bestLead_98 : decode cX8_bestLead 98 = .ok (.iload 4, 2) := by decide +kernel
theorem dX8_bestLead_100 : decode cX8_bestLead 100 = .ok (.istore 4, 2) := by decide +kernel
theorem dX8_bestLead_102 : decode cX8_bestLead 102 = .ok (.iinc 5 1, 3) := by decide +kernel
theorem dX8_bestLead_105 : decode cX8_bestLead 105 = .ok (.goto (-73), 3) := by decide +kernel
theorem dX8_bestLead_108 : decode cX8_bestLead 108 = .ok (.iload_n 3, 1) := by decide +kernel
theorem dX8_bestLead_109 : decode cX8_bestLead 109 = .ok (.ifCond .ge 12, 3) := by decide +kernel
theorem dX8_bestLead_112 : decode cX8_bestLead 112 = .ok (.aload_n 0, 1) := by decide +kernel
theorem dX8_bestLead_113 : decode cX8_bestLead 113 = .ok (.ldc 185, 2) := by decide +kernel
theorem dX8_bestLead_115 : decode cX8_bestLead 115 = .ok (.invokevirtual 78, 3) := by decide +kernel
theorem dX8_bestLead_118 : decode cX8_bestLead 118 = .ok (.goto 13, 3) := by decide +kernel
theorem dX8_bestLead_121 : decode cX8_bestLead 121 = .ok (.iload_n 2, 1) := by decide +kernel
theorem dX8_bestLead_122 : decode cX8_bestLead 122 = .ok (.ifCond .ne 7, 3) := by decide +kernel
theorem dX8_bestLead_125 : decode cX8_bestLead 125 = .ok (.iload_n 3, 1) := by decide +kernel
theorem dX8_bestLead_126 : decode cX8_bestLead 126 = .ok (.goto 5, 3) := by decide +kernel
theorem dX8_bestLead_129 : decode cX8_bestLead 129 = .ok (.iload 4, 2) := by decide +kernel
theorem dX8_bestLead_131 : decode cX8_bestLead 131 = .ok (.ireturn, 1) := by decide +kernel
theorem dX8_weights_0 : decode cX8_weights 0 = .ok (.iconst 0, 1) := by decide +kernel
theorem dX8_weights_1 : decode cX8_weights 1 = .ok (.istore_n 1, 1) := by decide +kernel
theorem dX8_weights_2 : decode cX8_weights 2 = .ok (.iconst 0, 1) := by decide +kernel
theorem dX8_weights_3 : decode cX8_weights 3 = .ok (.istore_n 2, 1) := by decide +kernel
theorem dX8_weights_4 : decode cX8_weights 4 = .ok (.iload_n 2, 1) := by decide +kernel
theorem dX8_weights_5 : decode cX8_weights 5 = .ok (.aload_n 0, 1) := by decide +kernel
theorem dX8_weights_6 : decode cX8_weights 6 = .ok (.getfield 9, 3) := by decide +kernel
theorem dX8_weights_9 : decode cX8_weights 9 = .ok (.bipush 7, 2) := by decide +kernel
theorem dX8_weights_11 : decode cX8_weights 11 = .ok (.iaload, 1) := by decide +kernel
theorem dX8_weights_12 : decode cX8_weights 12 = .ok (.if_icmp .ge 18, 3) := by decide +kernel
theorem dX8_weights_15 : decode cX8_weights 15 = .ok (.iload_n 1, 1) := by decide +kernel
theorem dX8_weights_16 : decode cX8_weights 16 = .ok (.aload_n 0, 1) := by decide +kernel
theorem dX8_weights_17 : decode cX8_weights 17 = .ok (.iload_n 2, 1) := by decide +kernel
theorem dX8_weights_18 : decode cX8_weights 18 = .ok (.iconst 2, 1) := by decide +kernel
theorem dX8_weights_19 : decode cX8_weights 19 = .ok (.invokevirtual 48, 3) := by decide +kernel
theorem dX8_weights_22 : decode cX8_weights 22 = .ok (.iadd, 1) := by decide +kernel
theorem dX8_weights_23 : decode cX8_weights 23 = .ok (.istore_n 1, 1) := by decide +kernel
theorem dX8_weights_24 : decode cX8_weights 24 = .ok (.iinc 2 1, 3) := by decide +kernel
theorem dX8_weights_27 : decode cX8_weights 27 = .ok (.goto (-23), 3) := by decide +kernel
theorem dX8_weights_30 : decode cX8_weights 30 = .ok (.iload_n 1, 1) := by decide +kernel
theorem dX8_weights_31 : decode cX8_weights 31 = .ok (.ireturn, 1) := by decide +kernel
theorem dX8_partOf_0 : decode cX8_partOf 0 = .ok (.iload_n 0, 1) := by decide +kernel
theorem dX8_partOf_1 : decode cX8_partOf 1 = .ok (.ifCond .ge 8, 3) := by decide +kernel
theorem dX8_partOf_4 : decode cX8_partOf 4 = .ok (.iload_n 0, 1) := by decide +kernel
theorem dX8_partOf_5 : decode cX8_partOf 5 = .ok (.ineg, 1) := by decide +kernel
theorem dX8_partOf_6 : decode cX8_partOf 6 = .ok (.goto 4, 3) := by decide +kernel
theorem dX8_partOf_9 : decode cX8_partOf 9 = .ok (.iload_n 0, 1) := by decide +kernel
theorem dX8_partOf_10 : decode cX8_partOf 10 = .ok (.istore_n 3, 1) := by decide +kernel
theorem dX8_partOf_11 : decode cX8_partOf 11 = .ok (.iload_n 1, 1) := by decide +kernel
theorem dX8_partOf_12 : decode cX8_partOf 12 = .ok (.ifCond .ge 8, 3) := by decide +kernel
theorem dX8_partOf_15 : decode cX8_partOf 15 = .ok (.iload_n 1, 1) := by decide +kernel
theorem dX8_partOf_16 : decode cX8_partOf 16 = .ok (.ineg, 1) := by decide +kernel
theorem dX8_partOf_17 : decode cX8_partOf 17 = .ok (.goto 4, 3) := by decide +kernel
theorem dX8_partOf_20 : decode cX8_partOf 20 = .ok (.iload_n 1, 1) := by decide +kernel
theorem dX8_partOf_21 : decode cX8_partOf 21 = .ok (.istore 4, 2) := by decide +kernel
theorem dX8_partOf_23 : decode cX8_partOf 23 = .ok (.iload_n 3, 1) := by decide +kernel
theorem dX8_partOf_24 : decode cX8_partOf 24 = .ok (.ifCond .eq 18, 3) := by decide +kernel
theorem dX8_partOf_27 : decode cX8_partOf 27 = .ok (.iload 4, 2) := by decide +kernel
theorem dX8_partOf_29 : decode cX8_partOf 29 = .ok (.iload_n 3, 1) := by decide +kernel
theorem dX8_partOf_30 : decode cX8_partOf 30 = .ok (.irem, 1) := by decide +kernel
theorem dX8_partOf_31 : decode cX8_partOf 31 = .ok (.istore 5, 2) := by decide +kernel
theorem dX8_partOf_33 : decode cX8_partOf 33 = .ok (.iload_n 3, 1) := by decide +kernel
theorem dX8_partOf_34 : decode cX8_partOf 34 = .ok (.istore 4, 2) := by decide +kernel
theorem dX8_partOf_36 : decode cX8_partOf 36 = .ok (.iload 5, 2) := by decide +kernel
theorem dX8_partOf_38 : decode cX8_partOf 38 = .ok (.istore_n 3, 1) := by decide +kernel
theorem dX8_partOf_39 : decode cX8_partOf 39 = .ok (.goto (-16), 3) := by decide +kernel
theorem dX8_partOf_42 : decode cX8_partOf 42 = .ok (.iload_n 1, 1) := by decide +kernel
theorem dX8_partOf_43 : decode cX8_partOf 43 = .ok (.ifCond .ge 9, 3) := by decide +kernel
theorem dX8_partOf_46 : decode cX8_partOf 46 = .ok (.iload 4, 2) := by decide +kernel
theorem dX8_partOf_48 : decode cX8_partOf 48 = .ok (.ineg, 1) := by decide +kernel
theorem dX8_partOf_49 : decode cX8_partOf 49 = .ok (.goto 5, 3) := by decide +kernel
theorem dX8_partOf_52 : decode cX8_partOf 52 = .ok (.iload 4, 2) := by decide +kernel
theorem dX8_partOf_54 : decode cX8_partOf 54 = .ok (.istore 5, 2) := by decide +kernel
theorem dX8_partOf_56 : decode cX8_partOf 56 = .ok (.iload_n 2, 1) := by decide +kernel
theorem dX8_partOf_57 : decode cX8_partOf 57 = .ok (.ifCond .ne 10, 3) := by decide +kernel
theorem dX8_partOf_60 : decode cX8_partOf 60 = .ok (.iload_n 0, 1) := by decide +kernel
theorem dX8_partOf_61 : decode cX8_partOf 61 = .ok (.iload 5, 2) := by decide +kernel
theorem dX8_partOf_63 : decode cX8_partOf 63 = .ok (.idiv, 1) := by decide +kernel
theorem dX8_partOf_64 : decode cX8_partOf 64 = .ok (.goto 7, 3) := by decide +kernel
theorem dX8_partOf_67 : decode cX8_partOf 67 = .ok (.iload_n 1, 1) := by decide +kernel
theorem dX8_partOf_68 : decode cX8_partOf 68 = .ok (.iload 5, 2) := by decide +kernel
theorem dX8_partOf_70 : decode cX8_partOf 70 = .ok (.idiv, 1) := by decide +kernel
theorem dX8_partOf_71 : decode cX8_partOf 71 = .ok (.ireturn, 1) := by decide +kernel
theorem dX8_odds_0 : decode cX8_odds 0 = .ok (.aload_n 0, 1) := by decide +kernel
theorem dX8_odds_1 : decode cX8_odds 1 = .ok (.iload_n 1, 1) := by decide +kernel
theorem dX8_odds_2 : decode cX8_odds 2 = .ok (.invokevirtual 96, 3) := by decide +kernel
theorem dX8_odds_5 : decode cX8_odds 5 = .ok (.ifCond .eq 12, 3) := by decide +kernel
theorem dX8_odds_8 : decode cX8_odds 8 = .ok (.iload_n 2, 1) := by decide +kernel
theorem dX8_odds_9 : decode cX8_odds 9 = .ok (.iconst 0, 1) := by decide +kernel
theorem dX8_odds_10 : decode cX8_odds 10 = .ok (.iconst 1, 1) := by decide +kernel
theorem dX8_odds_11 : decode cX8_odds 11 = .ok (.invokestatic 44, 3) := by decide +kernel
theorem dX8_odds_14 : decode cX8_odds 14 = .ok (.ifCond .ne 10, 3) := by decide +kernel
theorem dX8_odds_17 : decode cX8_odds 17 = .ok (.aload_n 0, 1) := by decide +kernel
theorem dX8_odds_18 : decode cX8_odds 18 = .ok (.ldc 77, 2) := by decide +kernel
theorem dX8_odds_20 : decode cX8_odds 20 = .ok (.invokevirtual 78, 3) := by decide +kernel
theorem dX8_odds_23 : decode cX8_odds 23 = .ok (.ireturn, 1) := by decide +kernel
theorem dX8_odds_24 : decode cX8_odds 24 = .ok (.aload_n 0, 1) := by decide +kernel
theorem dX8_odds_25 : decode cX8_odds 25 = .ok (.invokevirtual 189, 3) := by decide +kernel
theorem dX8_odds_28 : decode cX8_odds 28 = .ok (.istore_n 3, 1) := by decide +kernel
theorem dX8_odds_29 : decode cX8_odds 29 = .ok (.iload_n 3, 1) := by decide +kernel
theorem dX8_odds_30 : decode cX8_odds 30 = .ok (.ifCond .ne 10, 3) := by decide +kernel
theorem dX8_odds_33 : decode cX8_odds 33 = .ok (.aload_n 0, 1) := by decide +kernel
theorem dX8_odds_34 : decode cX8_odds 34 = .ok (.ldc 192, 2) := by decide +kernel
theorem dX8_odds_36 : decode cX8_odds 36 = .ok (.invokevirtual 78, 3) := by decide +kernel
theorem dX8_odds_39 : decode cX8_odds 39 = .ok (.ireturn, 1) := by decide +kernel
theorem dX8_odds_40 : decode cX8_odds 40 = .ok (.iconst 0, 1) := by decide +kernel
theorem dX8_odds_41 : decode cX8_odds 41 = .ok (.istore 4, 2) := by decide +kernel
theorem dX8_odds_43 : decode cX8_odds 43 = .ok (.iconst 0, 1) := by decide +kernel
theorem dX8_odds_44 : decode cX8_odds 44 = .ok (.istore 5, 2) := by decide +kernel
theorem dX8_odds_46 : decode cX8_odds 46 = .ok (.iload 5, 2) := by decide +kernel
theorem dX8_odds_48 : decode cX8_odds 48 = .ok (.aload_n 0, 1) := by decide +kernel
theorem dX8_odds_49 : decode cX8_odds 49 = .ok (.getfield 9, 3) := by decide +kernel
theorem dX8_odds_52 : decode cX8_odds 52 = .ok (.bipush 7, 2) := by decide +kernel
theorem dX8_odds_54 : decode cX8_odds 54 = .ok (.iaload, 1) := by decide +kernel
theorem dX8_odds_55 : decode cX8_odds 55 = .ok (.if_icmp .ge 41, 3) := by decide +kernel
theorem dX8_odds_58 : decode cX8_odds 58 = .ok (.iload 4, 2) := by decide +kernel
theorem dX8_odds_60 : decode cX8_odds 60 = .ok (.aload_n 0, 1) := by decide +kernel
theorem dX8_odds_61 : decode cX8_odds 61 = .ok (.iload_n 1, 1) := by decide +kernel
theorem dX8_odds_62 : decode cX8_odds 62 = .ok (.iload 5, 2) := by decide +kernel
theorem dX8_odds_64 : decode cX8_odds 64 = .ok (.aload_n 0, 1) := by decide +kernel
theorem dX8_odds_65 : decode cX8_odds 65 = .ok (.iload_n 1, 1) := by decide +kernel
theorem dX8_odds_66 : decode cX8_odds 66 = .ok (.iconst 2, 1) := by decide +kernel
theorem dX8_odds_67 : decode cX8_odds 67 = .ok (.invokevirtual 60, 3) := by decide +kernel
theorem dX8_odds_70 : decode cX8_odds 70 = .ok (.invokevirtual 113, 3) := by decide +kernel
theorem dX8_odds_73 : decode cX8_odds 73 = .ok (.ifCond .eq 13, 3) := by decide +kernel
theorem dX8_odds_76 : decode cX8_odds 76 = .ok (.aload_n 0, 1) := by decide +kernel
theorem dX8_odds_77 : decode cX8_odds 77 = .ok (.iload 5, 2) := by decide +kernel
theorem dX8_odds_79 : decode cX8_odds 79 = .ok (.iconst 2, 1) := by decide +kernel
theorem dX8_odds_80 : decode cX8_odds 80 = .ok (.invokevirtual 48, 3) := by decide +kernel
theorem dX8_odds_83 : decode cX8_odds 83 = .ok (.goto 4, 3) := by decide +kernel
theorem dX8_odds_86 : decode cX8_odds 86 = .ok (.iconst 0, 1) := by decide +kernel
theorem dX8_odds_87 : decode cX8_odds 87 = .ok (.iadd, 1) := by decide +kernel
theorem dX8_odds_88 : decode cX8_odds 88 = .ok (.istore 4, 2) := by decide +kernel
theorem dX8_odds_90 : decode cX8_odds 90 = .ok (.iinc 5 1, 3) := by decide +kernel
theorem dX8_odds_93 : decode cX8_odds 93 = .ok (.goto (-47), 3) := by decide +kernel
theorem dX8_odds_96 : decode cX8_odds 96 = .ok (.iload 4, 2) := by decide +kernel
theorem dX8_odds_98 : decode cX8_odds 98 = .ok (.iload_n 3, 1) := by decide +kernel
theorem dX8_odds_99 : decode cX8_odds 99 = .ok (.iload_n 2, 1) := by decide +kernel
theorem dX8_odds_100 : decode cX8_odds 100 = .ok (.invokestatic 193, 3) := by decide +kernel
theorem dX8_odds_103 : decode cX8_odds 103 = .ok (.ireturn, 1) := by decide +kernel
theorem dX8_go_0 : decode cX8_go 0 = .ok (.aload_n 0, 1) := by decide +kernel
theorem dX8_go_1 : decode cX8_go 1 = .ok (.iload_n 1, 1) := by decide +kernel
theorem dX8_go_2 : decode cX8_go 2 = .ok (.invokevirtual 96, 3) := by decide +kernel
theorem dX8_go_5 : decode cX8_go 5 = .ok (.ifCond .eq 12, 3) := by decide +kernel
theorem dX8_go_8 : decode cX8_go 8 = .ok (.iload_n 2, 1) := by decide +kernel
theorem dX8_go_9 : decode cX8_go 9 = .ok (.iconst 0, 1) := by decide +kernel
theorem dX8_go_10 : decode cX8_go 10 = .ok (.iconst 1, 1) := by decide +kernel
theorem dX8_go_11 : decode cX8_go 11 = .ok (.invokestatic 44, 3) := by decide +kernel
theorem dX8_go_14 : decode cX8_go 14 = .ok (.ifCond .ne 10, 3) := by decide +kernel
theorem dX8_go_17 : decode cX8_go 17 = .ok (.aload_n 0, 1) := by decide +kernel
theorem dX8_go_18 : decode cX8_go 18 = .ok (.ldc 77, 2) := by decide +kernel
theorem dX8_go_20 : decode cX8_go 20 = .ok (.invokevirtual 78, 3) := by decide +kernel
theorem dX8_go_23 : decode cX8_go 23 = .ok (.ireturn, 1) := by decide +kernel
theorem dX8_go_24 : decode cX8_go 24 = .ok (.aload_n 0, 1) := by decide +kernel
theorem dX8_go_25 : decode cX8_go 25 = .ok (.invokevirtual 189, 3) := by decide +kernel
theorem dX8_go_28 : decode cX8_go 28 = .ok (.istore_n 3, 1) := by decide +kernel
theorem dX8_go_29 : decode cX8_go 29 = .ok (.iload_n 3, 1) := by decide +kernel
theorem dX8_go_30 : decode cX8_go 30 = .ok (.ifCond .ne 12, 3) := by decide +kernel
theorem dX8_go_33 : decode cX8_go 33 = .ok (.aload_n 0, 1) := by decide +kernel
theorem dX8_go_34 : decode cX8_go 34 = .ok (.ldc 192, 2) := by decide +kernel
theorem dX8_go_36 : decode cX8_go 36 = .ok (.invokevirtual 78, 3) := by decide +kernel
theorem dX8_go_39 : decode cX8_go 39 = .ok (.goto 19, 3) := by decide +kernel
theorem dX8_go_42 : decode cX8_go 42 = .ok (.aload_n 0, 1) := by decide +kernel
theorem dX8_go_43 : decode cX8_go 43 = .ok (.iload_n 1, 1) := by decide +kernel
theorem dX8_go_44 : decode cX8_go 44 = .ok (.aload_n 0, 1) := by decide +kernel
theorem dX8_go_45 : decode cX8_go 45 = .ok (.iload_n 1, 1) := by decide +kernel
theorem dX8_go_46 : decode cX8_go 46 = .ok (.iconst 2, 1) := by decide +kernel
theorem dX8_go_47 : decode cX8_go 47 = .ok (.invokevirtual 60, 3) := by decide +kernel
theorem dX8_go_50 : decode cX8_go 50 = .ok (.invokevirtual 186, 3) := by decide +kernel
theorem dX8_go_53 : decode cX8_go 53 = .ok (.iload_n 3, 1) := by decide +kernel
theorem dX8_go_54 : decode cX8_go 54 = .ok (.iload_n 2, 1) := by decide +kernel
theorem dX8_go_55 : decode cX8_go 55 = .ok (.invokestatic 193, 3) := by decide +kernel
theorem dX8_go_58 : decode cX8_go 58 = .ok (.ireturn, 1) := by decide +kernel
theorem dX8_lesser_0 : decode cX8_lesser 0 = .ok (.iload_n 0, 1) := by decide +kernel
theorem dX8_lesser_1 : decode cX8_lesser 1 = .ok (.iload_n 1, 1) := by decide +kernel
theorem dX8_lesser_2 : decode cX8_lesser 2 = .ok (.if_icmp .ge 7, 3) := by decide +kernel
theorem dX8_lesser_5 : decode cX8_lesser 5 = .ok (.iload_n 0, 1) := by decide +kernel
theorem dX8_lesser_6 : decode cX8_lesser 6 = .ok (.goto 4, 3) := by decide +kernel
theorem dX8_lesser_9 : decode cX8_lesser 9 = .ok (.iload_n 1, 1) := by decide +kernel
theorem dX8_lesser_10 : decode cX8_lesser 10 = .ok (.ireturn, 1) := by decide +kernel
theorem dX8_greater_0 : decode cX8_greater 0 = .ok (.iload_n 0, 1) := by decide +kernel
theorem dX8_greater_1 : decode cX8_greater 1 = .ok (.iload_n 1, 1) := by decide +kernel
theorem dX8_greater_2 : decode cX8_greater 2 = .ok (.if_icmp .le 7, 3) := by decide +kernel
theorem dX8_greater_5 : decode cX8_greater 5 = .ok (.iload_n 0, 1) := by decide +kernel
theorem dX8_greater_6 : decode cX8_greater 6 = .ok (.goto 4, 3) := by decide +kernel
theorem dX8_greater_9 : decode cX8_greater 9 = .ok (.iload_n 1, 1) := by decide +kernel
theorem dX8_greater_10 : decode cX8_greater 10 = .ok (.ireturn, 1) := by decide +kernel
theorem dX8_duel_0 : decode cX8_duel 0 = .ok (.aload_n 0, 1) := by decide +kernel
theorem dX8_duel_1 : decode cX8_duel 1 = .ok (.iload_n 1, 1) := by decide +kernel
theorem dX8_duel_2 : decode cX8_duel 2 = .ok (.invokevirtual 96, 3) := by decide +kernel
theorem dX8_duel_5 : decode cX8_duel 5 = .ok (.ifCond .eq 29, 3) := by decide +kernel
theorem dX8_duel_8 : decode cX8_duel 8 = .ok (.aload_n 0, 1) := by decide +kernel
theorem dX8_duel_9 : decode cX8_duel 9 = .ok (.iload_n 2, 1) := by decide +kernel
theorem dX8_duel_10 : decode cX8_duel 10 = .ok (.invokevirtual 82, 3) := by decide +kernel
theorem dX8_duel_13 : decode cX8_duel 13 = .ok (.ifCond .eq 21, 3) := by decide +kernel
theorem dX8_duel_16 : decode cX8_duel 16 = .ok (.aload_n 0, 1) := by decide +kernel
theorem dX8_duel_17 : decode cX8_duel 17 = .ok (.iload_n 3, 1) := by decide +kernel
theorem dX8_duel_18 : decode cX8_duel 18 = .ok (.invokevirtual 82, 3) := by decide +kernel
theorem dX8_duel_21 : decode cX8_duel 21 = .ok (.ifCond .eq 13, 3) := by decide +kernel
theorem dX8_duel_24 : decode cX8_duel 24 = .ok (.iload 4, 2) := by decide +kernel
theorem dX8_duel_26 : decode cX8_duel 26 = .ok (.iconst 0, 1) := by decide +kernel
theorem dX8_duel_27 : decode cX8_duel 27 = .ok (.iconst 1, 1) := by decide +kernel
theorem dX8_duel_28 : decode cX8_duel 28 = .ok (.invokestatic 44, 3) := by decide +kernel
theorem dX8_duel_31 : decode cX8_duel 31 = .ok (.ifCond .ne 10, 3) := by decide +kernel
theorem dX8_duel_34 : decode cX8_duel 34 = .ok (.aload_n 0, 1) := by decide +kernel
theorem dX8_duel_35 : decode cX8_duel 35 = .ok (.ldc 77, 2) := by decide +kernel
theorem dX8_duel_37 : decode cX8_duel 37 = .ok (.invokevirtual 78, 3) := by decide +kernel
theorem dX8_duel_40 : decode cX8_duel 40 = .ok (.ireturn, 1) := by decide +kernel
theorem dX8_duel_41 : decode cX8_duel 41 = .ok (.aload_n 0, 1) := by decide +kernel
theorem dX8_duel_42 : decode cX8_duel 42 = .ok (.iload_n 1, 1) := by decide +kernel
theorem dX8_duel_43 : decode cX8_duel 43 = .ok (.iload_n 2, 1) := by decide +kernel
theorem dX8_duel_44 : decode cX8_duel 44 = .ok (.aload_n 0, 1) := by decide +kernel
theorem dX8_duel_45 : decode cX8_duel 45 = .ok (.iload_n 1, 1) := by decide +kernel
theorem dX8_duel_46 : decode cX8_duel 46 = .ok (.iconst 2, 1) := by decide +kernel
theorem dX8_duel_47 : decode cX8_duel 47 = .ok (.invokevirtual 60, 3) := by decide +kernel
theorem dX8_duel_50 : decode cX8_duel 50 = .ok (.invokevirtual 116, 3) := by decide +kernel
theorem dX8_duel_53 : decode cX8_duel 53 = .ok (.istore 5, 2) := by decide +kernel
theorem dX8_duel_55 : decode cX8_duel 55 = .ok (.aload_n 0, 1) := by decide +kernel
theorem dX8_duel_56 : decode cX8_duel 56 = .ok (.iload_n 1, 1) := by decide +kernel
theorem dX8_duel_57 : decode cX8_duel 57 = .ok (.iload_n 3, 1) := by decide +kernel
theorem dX8_duel_58 : decode cX8_duel 58 = .ok (.aload_n 0, 1) := by decide +kernel
theorem dX8_duel_59 : decode cX8_duel 59 = .ok (.iload_n 1, 1) := by decide +kernel
theorem dX8_duel_60 : decode cX8_duel 60 = .ok (.iconst 2, 1) := by decide +kernel
theorem dX8_duel_61 : decode cX8_duel 61 = .ok (.invokevirtual 60, 3) := by decide +kernel
theorem dX8_duel_64 : decode cX8_duel 64 = .ok (.invokevirtual 116, 3) := by decide +kernel
theorem dX8_duel_67 : decode cX8_duel 67 = .ok (.istore 6, 2) := by decide +kernel
theorem dX8_duel_69 : decode cX8_duel 69 = .ok (.aload_n 0, 1) := by decide +kernel
theorem dX8_duel_70 : decode cX8_duel 70 = .ok (.iload_n 2, 1) := by decide +kernel
theorem dX8_duel_71 : decode cX8_duel 71 = .ok (.invokevirtual 85, 3) := by decide +kernel
theorem dX8_duel_74 : decode cX8_duel 74 = .ok (.istore 7, 2) := by decide +kernel
theorem dX8_duel_76 : decode cX8_duel 76 = .ok (.aload_n 0, 1) := by decide +kernel
theorem dX8_duel_77 : decode cX8_duel 77 = .ok (.iload_n 3, 1) := by decide +kernel
theorem dX8_duel_78 : decode cX8_duel 78 = .ok (.invokevirtual 85, 3) := by decide +kernel
theorem dX8_duel_81 : decode cX8_duel 81 = .ok (.istore 8, 2) := by decide +kernel
theorem dX8_duel_83 : decode cX8_duel 83 = .ok (.iload 5, 2) := by decide +kernel
theorem dX8_duel_85 : decode cX8_duel 85 = .ok (.iload 6, 2) := by decide +kernel
theorem dX8_duel_87 : decode cX8_duel 87 = .ok (.invokestatic 196, 3) := by decide +kernel
theorem dX8_duel_90 : decode cX8_duel 90 = .ok (.iload 7, 2) := by decide +kernel
theorem dX8_duel_92 : decode cX8_duel 92 = .ok (.iload 8, 2) := by decide +kernel
theorem dX8_duel_94 : decode cX8_duel 94 = .ok (.invokestatic 196, 3) := by decide +kernel
theorem dX8_duel_97 : decode cX8_duel 97 = .ok (.invokestatic 199, 3) := by decide +kernel
theorem dX8_duel_100 : decode cX8_duel 100 = .ok (.istore 9, 2) := by decide +kernel
theorem dX8_duel_102 : decode cX8_duel 102 = .ok (.iload 5, 2) := by decide +kernel
theorem dX8_duel_104 : decode cX8_duel 104 = .ok (.iload 7, 2) := by decide +kernel
theorem dX8_duel_106 : decode cX8_duel 106 = .ok (.invokestatic 199, 3) := by decide +kernel
theorem dX8_duel_109 : decode cX8_duel 109 = .ok (.iload 6, 2) := by decide +kernel
theorem dX8_duel_111 : decode cX8_duel 111 = .ok (.iload 8, 2) := by decide +kernel
theorem dX8_duel_113 : decode cX8_duel 113 = .ok (.invokestatic 199, 3) := by decide +kernel
theorem dX8_duel_116 : decode cX8_duel 116 = .ok (.invokestatic 196, 3) := by decide +kernel
theorem dX8_duel_119 : decode cX8_duel 119 = .ok (.istore 10, 2) := by decide +kernel
theorem dX8_duel_121 : decode cX8_duel 121 = .ok (.iload 9, 2) := by decide +kernel
theorem dX8_duel_123 : decode cX8_duel 123 = .ok (.iload 10, 2) := by decide +kernel
theorem dX8_duel_125 : decode cX8_duel 125 = .ok (.if_icmp .ne 14, 3) := by decide +kernel
theorem dX8_duel_128 : decode cX8_duel 128 = .ok (.iload 9, 2) := by decide +kernel
theorem dX8_duel_130 : decode cX8_duel 130 = .ok (.iconst 1, 1) := by decide +kernel
theorem dX8_duel_131 : decode cX8_duel 131 = .ok (.iload 4, 2) := by decide +kernel
theorem dX8_duel_133 : decode cX8_duel 133 = .ok (.invokestatic 193, 3) := by decide +kernel
theorem dX8_duel_136 : decode cX8_duel 136 = .ok (.goto 30, 3) := by decide +kernel
theorem dX8_duel_139 : decode cX8_duel 139 = .ok (.iload 5, 2) := by decide +kernel
theorem dX8_duel_141 : decode cX8_duel 141 = .ok (.iload 8, 2) := by decide +kernel
theorem dX8_duel_143 : decode cX8_duel 143 = .ok (.imul, 1) := by decide +kernel
theorem dX8_duel_144 : decode cX8_duel 144 = .ok (.iload 6, 2) := by decide +kernel
theorem dX8_duel_146 : decode cX8_duel 146 = .ok (.iload 7, 2) := by decide +kernel
theorem dX8_duel_148 : decode cX8_duel 148 = .ok (.imul, 1) := by decide +kernel
theorem dX8_duel_149 : decode cX8_duel 149 = .ok (.isub, 1) := by decide +kernel
theorem dX8_duel_150 : decode cX8_duel 150 = .ok (.iload 5, 2) := by decide +kernel
theorem dX8_duel_152 : decode cX8_duel 152 = .ok (.iload 8, 2) := by decide +kernel
theorem dX8_duel_154 : decode cX8_duel 154 = .ok (.iadd, 1) := by decide +kernel
theorem dX8_duel_155 : decode cX8_duel 155 = .ok (.iload 6, 2) := by decide +kernel
theorem dX8_duel_157 : decode cX8_duel 157 = .ok (.isub, 1) := by decide +kernel
theorem dX8_duel_158 : decode cX8_duel 158 = .ok (.iload 7, 2) := by decide +kernel
theorem dX8_duel_160 : decode cX8_duel 160 = .ok (.isub, 1) := by decide +kernel
theorem dX8_duel_161 : decode cX8_duel 161 = .ok (.iload 4, 2) := by decide +kernel
theorem dX8_duel_163 : decode cX8_duel 163 = .ok (.invokestatic 193, 3) := by decide +kernel
theorem dX8_duel_166 : decode cX8_duel 166 = .ok (.ireturn, 1) := by decide +kernel
theorem dX8_surely_0 : decode cX8_surely 0 = .ok (.aload_n 0, 1) := by decide +kernel
theorem dX8_surely_1 : decode cX8_surely 1 = .ok (.iload_n 1, 1) := by decide +kernel
theorem dX8_surely_2 : decode cX8_surely 2 = .ok (.invokevirtual 96, 3) := by decide +kernel
theorem dX8_surely_5 : decode cX8_surely 5 = .ok (.ifCond .eq 12, 3) := by decide +kernel
theorem dX8_surely_8 : decode cX8_surely 8 = .ok (.iload_n 2, 1) := by decide +kernel
theorem dX8_surely_9 : decode cX8_surely 9 = .ok (.iconst 0, 1) := by decide +kernel
theorem dX8_surely_10 : decode cX8_surely 10 = .ok (.iconst 1, 1) := by decide +kernel
theorem dX8_surely_11 : decode cX8_surely 11 = .ok (.invokestatic 44, 3) := by decide +kernel
theorem dX8_surely_14 : decode cX8_surely 14 = .ok (.ifCond .ne 10, 3) := by decide +kernel
theorem dX8_surely_17 : decode cX8_surely 17 = .ok (.aload_n 0, 1) := by decide +kernel
theorem dX8_surely_18 : decode cX8_surely 18 = .ok (.ldc 77, 2) := by decide +kernel
theorem dX8_surely_20 : decode cX8_surely 20 = .ok (.invokevirtual 78, 3) := by decide +kernel
theorem dX8_surely_23 : decode cX8_surely 23 = .ok (.ireturn, 1) := by decide +kernel
theorem dX8_surely_24 : decode cX8_surely 24 = .ok (.iconst 0, 1) := by decide +kernel
theorem dX8_surely_25 : decode cX8_surely 25 = .ok (.istore_n 3, 1) := by decide +kernel
theorem dX8_surely_26 : decode cX8_surely 26 = .ok (.iconst 0, 1) := by decide +kernel
theorem dX8_surely_27 : decode cX8_surely 27 = .ok (.istore 4, 2) := by decide +kernel
theorem dX8_surely_29 : decode cX8_surely 29 = .ok (.iconst 0, 1) := by decide +kernel
theorem dX8_surely_30 : decode cX8_surely 30 = .ok (.istore 5, 2) := by decide +kernel
theorem dX8_surely_32 : decode cX8_surely 32 = .ok (.iload 5, 2) := by decide +kernel
theorem dX8_surely_34 : decode cX8_surely 34 = .ok (.aload_n 0, 1) := by decide +kernel
theorem dX8_surely_35 : decode cX8_surely 35 = .ok (.getfield 9, 3) := by decide +kernel
theorem dX8_surely_38 : decode cX8_surely 38 = .ok (.bipush 7, 2) := by decide +kernel
theorem dX8_surely_40 : decode cX8_surely 40 = .ok (.iaload, 1) := by decide +kernel
theorem dX8_surely_41 : decode cX8_surely 41 = .ok (.if_icmp .ge 55, 3) := by decide +kernel
theorem dX8_surely_44 : decode cX8_surely 44 = .ok (.aload_n 0, 1) := by decide +kernel
theorem dX8_surely_45 : decode cX8_surely 45 = .ok (.iload_n 1, 1) := by decide +kernel
theorem dX8_surely_46 : decode cX8_surely 46 = .ok (.iload 5, 2) := by decide +kernel
theorem dX8_surely_48 : decode cX8_surely 48 = .ok (.aload_n 0, 1) := by decide +kernel
theorem dX8_surely_49 : decode cX8_surely 49 = .ok (.iload_n 1, 1) := by decide +kernel
theorem dX8_surely_50 : decode cX8_surely 50 = .ok (.iconst 2, 1) := by decide +kernel
theorem dX8_surely_51 : decode cX8_surely 51 = .ok (.invokevirtual 60, 3) := by decide +kernel
theorem dX8_surely_54 : decode cX8_surely 54 = .ok (.invokevirtual 113, 3) := by decide +kernel
theorem dX8_surely_57 : decode cX8_surely 57 = .ok (.istore 6, 2) := by decide +kernel
theorem dX8_surely_59 : decode cX8_surely 59 = .ok (.iload_n 3, 1) := by decide +kernel
theorem dX8_surely_60 : decode cX8_surely 60 = .ok (.iload 6, 2) := by decide +kernel
theorem dX8_surely_62 : decode cX8_surely 62 = .ok (.ifCond .eq 10, 3) := by decide +kernel
theorem dX8_surely_65 : decode cX8_surely 65 = .ok (.iconst 1, 1) := by decide +kernel
theorem dX8_surely_66 : decode cX8_surely 66 = .ok (.iload 5, 2) := by decide +kernel
theorem dX8_surely_68 : decode cX8_surely 68 = .ok (.ishl, 1) := by decide +kernel
theorem dX8_surely_69 : decode cX8_surely 69 = .ok (.goto 4, 3) := by decide +kernel
theorem dX8_surely_72 : decode cX8_surely 72 = .ok (.iconst 0, 1) := by decide +kernel
theorem dX8_surely_73 : decode cX8_surely 73 = .ok (.ior, 1) := by decide +kernel
theorem dX8_surely_74 : decode cX8_surely 74 = .ok (.istore_n 3, 1) := by decide +kernel
theorem dX8_surely_75 : decode cX8_surely 75 = .ok (.iload 4, 2) := by decide +kernel
theorem dX8_surely_77 : decode cX8_surely 77 = .ok (.iload 6, 2) := by decide +kernel
theorem dX8_surely_79 : decode cX8_surely 79 = .ok (.ifCond .eq 7, 3) := by decide +kernel
theorem dX8_surely_82 : decode cX8_surely 82 = .ok (.iconst 1, 1) := by decide +kernel
theorem dX8_surely_83 : decode cX8_surely 83 = .ok (.goto 4, 3) := by decide +kernel
theorem dX8_surely_86 : decode cX8_surely 86 = .ok (.iconst 0, 1) := by decide +kernel
theorem dX8_surely_87 : decode cX8_surely 87 = .ok (.iadd, 1) := by decide +kernel
theorem dX8_surely_88 : decode cX8_surely 88 = .ok (.istore 4, 2) := by decide +kernel
theorem dX8_surely_90 : decode cX8_surely 90 = .ok (.iinc 5 1, 3) := by decide +kernel
theorem dX8_surely_93 : decode cX8_surely 93 = .ok (.goto (-61), 3) := by decide +kernel
theorem dX8_surely_96 : decode cX8_surely 96 = .ok (.iload_n 2, 1) := by decide +kernel
theorem dX8_surely_97 : decode cX8_surely 97 = .ok (.ifCond .ne 7, 3) := by decide +kernel
theorem dX8_surely_100 : decode cX8_surely 100 = .ok (.iload_n 3, 1) := by decide +kernel
theorem dX8_surely_101 : decode cX8_surely 101 = .ok (.goto 5, 3) := by decide +kernel
theorem dX8_surely_104 : decode cX8_surely 104 = .ok (.iload 4, 2) := by decide +kernel
theorem dX8_surely_106 : decode cX8_surely 106 = .ok (.ireturn, 1) := by decide +kernel
theorem dX8_isSo_0 : decode cX8_isSo 0 = .ok (.aload_n 0, 1) := by decide +kernel
theorem dX8_isSo_1 : decode cX8_isSo 1 = .ok (.getfield 22, 3) := by decide +kernel
theorem dX8_isSo_4 : decode cX8_isSo 4 = .ok (.iload_n 1, 1) := by decide +kernel
theorem dX8_isSo_5 : decode cX8_isSo 5 = .ok (.iaload, 1) := by decide +kernel
theorem dX8_isSo_6 : decode cX8_isSo 6 = .ok (.aload_n 0, 1) := by decide +kernel
theorem dX8_isSo_7 : decode cX8_isSo 7 = .ok (.getfield 9, 3) := by decide +kernel
theorem dX8_isSo_10 : decode cX8_isSo 10 = .ok (.bipush 7, 2) := by decide +kernel
theorem dX8_isSo_12 : decode cX8_isSo 12 = .ok (.iaload, 1) := by decide +kernel
theorem dX8_isSo_13 : decode cX8_isSo 13 = .ok (.if_icmp .gt 7, 3) := by decide +kernel
theorem dX8_isSo_16 : decode cX8_isSo 16 = .ok (.iconst 1, 1) := by decide +kernel
theorem dX8_isSo_17 : decode cX8_isSo 17 = .ok (.goto 4, 3) := by decide +kernel
theorem dX8_isSo_20 : decode cX8_isSo 20 = .ok (.iconst 0, 1) := by decide +kernel
theorem dX8_isSo_21 : decode cX8_isSo 21 = .ok (.istore 4, 2) := by decide +kernel
theorem dX8_isSo_23 : decode cX8_isSo 23 = .ok (.iconst 0, 1) := by decide +kernel
theorem dX8_isSo_24 : decode cX8_isSo 24 = .ok (.istore 5, 2) := by decide +kernel
theorem dX8_isSo_26 : decode cX8_isSo 26 = .ok (.iload 5, 2) := by decide +kernel
theorem dX8_isSo_28 : decode cX8_isSo 28 = .ok (.aload_n 0, 1) := by decide +kernel
theorem dX8_isSo_29 : decode cX8_isSo 29 = .ok (.getfield 22, 3) := by decide +kernel
theorem dX8_isSo_32 : decode cX8_isSo 32 = .ok (.iload_n 1, 1) := by decide +kernel
theorem dX8_isSo_33 : decode cX8_isSo 33 = .ok (.iaload, 1) := by decide +kernel
theorem dX8_isSo_34 : decode cX8_isSo 34 = .ok (.if_icmp .ge 52, 3) := by decide +kernel
theorem dX8_isSo_37 : decode cX8_isSo 37 = .ok (.iload 4, 2) := by decide +kernel
theorem dX8_isSo_39 : decode cX8_isSo 39 = .ok (.ifCond .eq 47, 3) := by decide +kernel
theorem dX8_isSo_42 : decode cX8_isSo 42 = .ok (.aload_n 0, 1) := by decide +kernel
theorem dX8_isSo_43 : decode cX8_isSo 43 = .ok (.getfield 25, 3) := by decide +kernel
theorem dX8_isSo_46 : decode cX8_isSo 46 = .ok (.bipush 24, 2) := by decide +kernel
theorem dX8_isSo_48 : decode cX8_isSo 48 = .ok (.iload_n 1, 1) := by decide +kernel
theorem dX8_isSo_49 : decode cX8_isSo 49 = .ok (.imul, 1) := by decide +kernel
theorem dX8_isSo_50 : decode cX8_isSo 50 = .ok (.iload 5, 2) := by decide +kernel
theorem dX8_isSo_52 : decode cX8_isSo 52 = .ok (.iadd, 1) := by decide +kernel
theorem dX8_isSo_53 : decode cX8_isSo 53 = .ok (.iaload, 1) := by decide +kernel
theorem dX8_isSo_54 : decode cX8_isSo 54 = .ok (.aload_n 0, 1) := by decide +kernel
theorem dX8_isSo_55 : decode cX8_isSo 55 = .ok (.iload_n 2, 1) := by decide +kernel
theorem dX8_isSo_56 : decode cX8_isSo 56 = .ok (.iload 5, 2) := by decide +kernel
theorem dX8_isSo_58 : decode cX8_isSo 58 = .ok (.iload_n 3, 1) := by decide +kernel
theorem dX8_isSo_59 : decode cX8_isSo 59 = .ok (.invokevirtual 113, 3) := by decide +kernel
theorem dX8_isSo_62 : decode cX8_isSo 62 = .ok (.ifCond .eq 7, 3) := by decide +kernel
theorem dX8_isSo_65 : decode cX8_isSo 65 = .ok (.iconst 1, 1) := by decide +kernel
theorem dX8_isSo_66 : decode cX8_isSo 66 = .ok (.goto 4, 3) := by decide +kernel
theorem dX8_isSo_69 : decode cX8_isSo 69 = .ok (.iconst 0, 1) := by decide +kernel
theorem dX8_isSo_70 : decode cX8_isSo 70 = .ok (.if_icmp .ne 7, 3) := by decide +kernel
theorem dX8_isSo_73 : decode cX8_isSo 73 = .ok (.iconst 1, 1) := by decide +kernel
theorem dX8_isSo_74 : decode cX8_isSo 74 = .ok (.goto 4, 3) := by decide +kernel
theorem dX8_isSo_77 : decode cX8_isSo 77 = .ok (.iconst 0, 1) := by decide +kernel
theorem dX8_isSo_78 : decode cX8_isSo 78 = .ok (.istore 4, 2) := by decide +kernel
theorem dX8_isSo_80 : decode cX8_isSo 80 = .ok (.iinc 5 1, 3) := by decide +kernel
theorem dX8_isSo_83 : decode cX8_isSo 83 = .ok (.goto (-57), 3) := by decide +kernel
theorem dX8_isSo_86 : decode cX8_isSo 86 = .ok (.iload 4, 2) := by decide +kernel
theorem dX8_isSo_88 : decode cX8_isSo 88 = .ok (.ireturn, 1) := by decide +kernel
theorem dX8_fits_0 : decode cX8_fits 0 = .ok (.iload_n 1, 1) := by decide +kernel
theorem dX8_fits_1 : decode cX8_fits 1 = .ok (.invokestatic 202, 3) := by decide +kernel
theorem dX8_fits_4 : decode cX8_fits 4 = .ok (.ifCond .eq 20, 3) := by decide +kernel
theorem dX8_fits_7 : decode cX8_fits 7 = .ok (.aload_n 0, 1) := by decide +kernel
theorem dX8_fits_8 : decode cX8_fits 8 = .ok (.iload_n 2, 1) := by decide +kernel
theorem dX8_fits_9 : decode cX8_fits 9 = .ok (.invokevirtual 96, 3) := by decide +kernel
theorem dX8_fits_12 : decode cX8_fits 12 = .ok (.ifCond .eq 12, 3) := by decide +kernel
theorem dX8_fits_15 : decode cX8_fits 15 = .ok (.iload_n 3, 1) := by decide +kernel
theorem dX8_fits_16 : decode cX8_fits 16 = .ok (.iconst 0, 1) := by decide +kernel
theorem dX8_fits_17 : decode cX8_fits 17 = .ok (.iconst 1, 1) := by decide +kernel
theorem dX8_fits_18 : decode cX8_fits 18 = .ok (.invokestatic 44, 3) := by decide +kernel
theorem dX8_fits_21 : decode cX8_fits 21 = .ok (.ifCond .ne 10, 3) := by decide +kernel
theorem dX8_fits_24 : decode cX8_fits 24 = .ok (.aload_n 0, 1) := by decide +kernel
theorem dX8_fits_25 : decode cX8_fits 25 = .ok (.ldc 77, 2) := by decide +kernel
theorem dX8_fits_27 : decode cX8_fits 27 = .ok (.invokevirtual 78, 3) := by decide +kernel
theorem dX8_fits_30 : decode cX8_fits 30 = .ok (.ireturn, 1) := by decide +kernel
theorem dX8_fits_31 : decode cX8_fits 31 = .ok (.aload_n 0, 1) := by decide +kernel
theorem dX8_fits_32 : decode cX8_fits 32 = .ok (.getfield 19, 3) := by decide +kernel
theorem dX8_fits_35 : decode cX8_fits 35 = .ok (.iload_n 1, 1) := by decide +kernel
theorem dX8_fits_36 : decode cX8_fits 36 = .ok (.iaload, 1) := by decide +kernel
theorem dX8_fits_37 : decode cX8_fits 37 = .ok (.ifCond .ne 10, 3) := by decide +kernel
theorem dX8_fits_40 : decode cX8_fits 40 = .ok (.aload_n 0, 1) := by decide +kernel
theorem dX8_fits_41 : decode cX8_fits 41 = .ok (.ldc 185, 2) := by decide +kernel
theorem dX8_fits_43 : decode cX8_fits 43 = .ok (.invokevirtual 78, 3) := by decide +kernel
theorem dX8_fits_46 : decode cX8_fits 46 = .ok (.ireturn, 1) := by decide +kernel
theorem dX8_fits_47 : decode cX8_fits 47 = .ok (.iconst 0, 1) := by decide +kernel
theorem dX8_fits_48 : decode cX8_fits 48 = .ok (.istore 4, 2) := by decide +kernel
theorem dX8_fits_50 : decode cX8_fits 50 = .ok (.iconst (-1), 1) := by decide +kernel
theorem dX8_fits_51 : decode cX8_fits 51 = .ok (.istore 5, 2) := by decide +kernel
theorem dX8_fits_53 : decode cX8_fits 53 = .ok (.bipush 20, 2) := by decide +kernel
theorem dX8_fits_55 : decode cX8_fits 55 = .ok (.istore 6, 2) := by decide +kernel
theorem dX8_fits_57 : decode cX8_fits 57 = .ok (.iload 6, 2) := by decide +kernel
theorem dX8_fits_59 : decode cX8_fits 59 = .ok (.ifCond .lt 48, 3) := by decide +kernel
theorem dX8_fits_62 : decode cX8_fits 62 = .ok (.aload_n 0, 1) := by decide +kernel
theorem dX8_fits_63 : decode cX8_fits 63 = .ok (.iload_n 1, 1) := by decide +kernel
theorem dX8_fits_64 : decode cX8_fits 64 = .ok (.iload_n 2, 1) := by decide +kernel
theorem dX8_fits_65 : decode cX8_fits 65 = .ok (.iload 6, 2) := by decide +kernel
theorem dX8_fits_67 : decode cX8_fits 67 = .ok (.invokevirtual 205, 3) := by decide +kernel
theorem dX8_fits_70 : decode cX8_fits 70 = .ok (.istore 7, 2) := by decide +kernel
theorem dX8_fits_72 : decode cX8_fits 72 = .ok (.iload 4, 2) := by decide +kernel
theorem dX8_fits_74 : decode cX8_fits 74 = .ok (.iload 7, 2) := by decide +kernel
theorem dX8_fits_76 : decode cX8_fits 76 = .ok (.ifCond .eq 7, 3) := by decide +kernel
theorem dX8_fits_79 : decode cX8_fits 79 = .ok (.iconst 1, 1) := by decide +kernel
theorem dX8_fits_80 : decode cX8_fits 80 = .ok (.goto 4, 3) := by decide +kernel
theorem dX8_fits_83 : decode cX8_fits 83 = .ok (.iconst 0, 1) := by decide +kernel
theorem dX8_fits_84 : decode cX8_fits 84 = .ok (.iadd, 1) := by decide +kernel
theorem dX8_fits_85 : decode cX8_fits 85 = .ok (.istore 4, 2) := by decide +kernel
theorem dX8_fits_87 : decode cX8_fits 87 = .ok (.iload 7, 2) := by decide +kernel
theorem dX8_fits_89 : decode cX8_fits 89 = .ok (.ifCond .eq 8, 3) := by decide +kernel
theorem dX8_fits_92 : decode cX8_fits 92 = .ok (.iload 6, 2) := by decide +kernel
theorem dX8_fits_94 : decode cX8_fits 94 = .ok (.goto 5, 3) := by decide +kernel
theorem dX8_fits_97 : decode cX8_fits 97 = .ok (.iload 5, 2) := by decide +kernel
theorem dX8_fits_99 : decode cX8_fits 99 = .ok (.istore 5, 2) := by decide +kernel
theorem dX8_fits_101 : decode cX8_fits 101 = .ok (.iinc 6 (-1), 3) := by decide +kernel
theorem dX8_fits_104 : decode cX8_fits 104 = .ok (.goto (-47), 3) := by decide +kernel
theorem dX8_fits_107 : decode cX8_fits 107 = .ok (.iload_n 3, 1) := by decide +kernel
theorem dX8_fits_108 : decode cX8_fits 108 = .ok (.ifCond .ne 8, 3) := by decide +kernel
theorem dX8_fits_111 : decode cX8_fits 111 = .ok (.iload 4, 2) := by decide +kernel
theorem dX8_fits_113 : decode cX8_fits 113 = .ok (.goto 19, 3) := by decide +kernel
theorem dX8_fits_116 : decode cX8_fits 116 = .ok (.iload 5, 2) := by decide +kernel
theorem dX8_fits_118 : decode cX8_fits 118 = .ok (.ifCond .ge 12, 3) := by decide +kernel
theorem dX8_fits_121 : decode cX8_fits 121 = .ok (.aload_n 0, 1) := by decide +kernel
theorem dX8_fits_122 : decode cX8_fits 122 = .ok (.ldc 185, 2) := by decide +kernel
theorem dX8_fits_124 : decode cX8_fits 124 = .ok (.invokevirtual 78, 3) := by decide +kernel
theorem dX8_fits_127 : decode cX8_fits 127 = .ok (.goto 5, 3) := by decide +kernel
theorem dX8_fits_130 : decode cX8_fits 130 = .ok (.iload 5, 2) := by decide +kernel
theorem dX8_fits_132 : decode cX8_fits 132 = .ok (.ireturn, 1) := by decide +kernel
theorem dX8_draw_0 : decode cX8_draw 0 = .ok (.aload_n 0, 1) := by decide +kernel
theorem dX8_draw_1 : decode cX8_draw 1 = .ok (.getfield 9, 3) := by decide +kernel
theorem dX8_draw_4 : decode cX8_draw 4 = .ok (.bipush 6, 2) := by decide +kernel
theorem dX8_draw_6 : decode cX8_draw 6 = .ok (.aload_n 0, 1) := by decide +kernel
theorem dX8_draw_7 : decode cX8_draw 7 = .ok (.getfield 9, 3) := by decide +kernel
theorem dX8_draw_10 : decode cX8_draw 10 = .ok (.bipush 6, 2) := by decide +kernel
theorem dX8_draw_12 : decode cX8_draw 12 = .ok (.iaload, 1) := by decide +kernel
theorem dX8_draw_13 : decode cX8_draw 13 = .ok (.ldc 208, 2) := by decide +kernel
theorem dX8_draw_15 : decode cX8_draw 15 = .ok (.imul, 1) := by decide +kernel
theorem dX8_draw_16 : decode cX8_draw 16 = .ok (.sipush 12345, 3) := by decide +kernel
theorem dX8_draw_19 : decode cX8_draw 19 = .ok (.iadd, 1) := by decide +kernel
theorem dX8_draw_20 : decode cX8_draw 20 = .ok (.iastore, 1) := by decide +kernel
theorem dX8_draw_21 : decode cX8_draw 21 = .ok (.aload_n 0, 1) := by decide +kernel
theorem dX8_draw_22 : decode cX8_draw 22 = .ok (.getfield 9, 3) := by decide +kernel
theorem dX8_draw_25 : decode cX8_draw 25 = .ok (.bipush 6, 2) := by decide +kernel
theorem dX8_draw_27 : decode cX8_draw 27 = .ok (.iaload, 1) := by decide +kernel
theorem dX8_draw_28 : decode cX8_draw 28 = .ok (.bipush 8, 2) := by decide +kernel
theorem dX8_draw_30 : decode cX8_draw 30 = .ok (.iushr, 1) := by decide +kernel
theorem dX8_draw_31 : decode cX8_draw 31 = .ok (.ireturn, 1) := by decide +kernel
theorem dX8_drawn_0 : decode cX8_drawn 0 = .ok (.aload_n 0, 1) := by decide +kernel
theorem dX8_drawn_1 : decode cX8_drawn 1 = .ok (.invokevirtual 189, 3) := by decide +kernel
theorem dX8_drawn_4 : decode cX8_drawn 4 = .ok (.istore_n 1, 1) := by decide +kernel
theorem dX8_drawn_5 : decode cX8_drawn 5 = .ok (.aload_n 0, 1) := by decide +kernel
theorem dX8_drawn_6 : decode cX8_drawn 6 = .ok (.getfield 9, 3) := by decide +kernel
theorem dX8_drawn_9 : decode cX8_drawn 9 = .ok (.bipush 8, 2) := by decide +kernel
theorem dX8_drawn_11 : decode cX8_drawn 11 = .ok (.iaload, 1) := by decide +kernel
theorem dX8_drawn_12 : decode cX8_drawn 12 = .ok (.ifCond .eq 7, 3) := by decide +kernel
theorem dX8_drawn_15 : decode cX8_drawn 15 = .ok (.iload_n 1, 1) := by decide +kernel
theorem dX8_drawn_16 : decode cX8_drawn 16 = .ok (.ifCond .ne 5, 3) := by decide +kernel
theorem dX8_drawn_19 : decode cX8_drawn 19 = .ok (.iconst 0, 1) := by decide +kernel
theorem dX8_drawn_20 : decode cX8_drawn 20 = .ok (.ireturn, 1) := by decide +kernel
theorem dX8_drawn_21 : decode cX8_drawn 21 = .ok (.aload_n 0, 1) := by decide +kernel
theorem dX8_drawn_22 : decode cX8_drawn 22 = .ok (.invokevirtual 209, 3) := by decide +kernel
theorem dX8_drawn_25 : decode cX8_drawn 25 = .ok (.aload_n 0, 1) := by decide +kernel
theorem dX8_drawn_26 : decode cX8_drawn 26 = .ok (.getfield 9, 3) := by decide +kernel
theorem dX8_drawn_29 : decode cX8_drawn 29 = .ok (.bipush 8, 2) := by decide +kernel
theorem dX8_drawn_31 : decode cX8_drawn 31 = .ok (.iaload, 1) := by decide +kernel
theorem dX8_drawn_32 : decode cX8_drawn 32 = .ok (.irem, 1) := by decide +kernel
theorem dX8_drawn_33 : decode cX8_drawn 33 = .ok (.istore_n 2, 1) := by decide +kernel
theorem dX8_drawn_34 : decode cX8_drawn 34 = .ok (.aload_n 0, 1) := by decide +kernel
theorem dX8_drawn_35 : decode cX8_drawn 35 = .ok (.iload_n 2, 1) := by decide +kernel
theorem dX8_drawn_36 : decode cX8_drawn 36 = .ok (.iconst 2, 1) := by decide +kernel
theorem dX8_drawn_37 : decode cX8_drawn 37 = .ok (.aload_n 0, 1) := by decide +kernel
theorem dX8_drawn_38 : decode cX8_drawn 38 = .ok (.invokevirtual 209, 3) := by decide +kernel
theorem dX8_drawn_41 : decode cX8_drawn 41 = .ok (.bipush 21, 2) := by decide +kernel
theorem dX8_drawn_43 : decode cX8_drawn 43 = .ok (.irem, 1) := by decide +kernel
theorem dX8_drawn_44 : decode cX8_drawn 44 = .ok (.invokevirtual 92, 3) := by decide +kernel
theorem dX8_drawn_47 : decode cX8_drawn 47 = .ok (.aload_n 0, 1) := by decide +kernel
theorem dX8_drawn_48 : decode cX8_drawn 48 = .ok (.invokevirtual 209, 3) := by decide +kernel
theorem dX8_drawn_51 : decode cX8_drawn 51 = .ok (.iload_n 1, 1) := by decide +kernel
theorem dX8_drawn_52 : decode cX8_drawn 52 = .ok (.irem, 1) := by decide +kernel
theorem dX8_drawn_53 : decode cX8_drawn 53 = .ok (.istore_n 3, 1) := by decide +kernel
theorem dX8_drawn_54 : decode cX8_drawn 54 = .ok (.iconst 0, 1) := by decide +kernel
theorem dX8_drawn_55 : decode cX8_drawn 55 = .ok (.istore 4, 2) := by decide +kernel
theorem dX8_drawn_57 : decode cX8_drawn 57 = .ok (.iload_n 3, 1) := by decide +kernel
theorem dX8_drawn_58 : decode cX8_drawn 58 = .ok (.aload_n 0, 1) := by decide +kernel
theorem dX8_drawn_59 : decode cX8_drawn 59 = .ok (.iload 4, 2) := by decide +kernel
theorem dX8_drawn_61 : decode cX8_drawn 61 = .ok (.iconst 2, 1) := by decide +kernel
theorem dX8_drawn_62 : decode cX8_drawn 62 = .ok (.invokevirtual 48, 3) := by decide +kernel
theorem dX8_drawn_65 : decode cX8_drawn 65 = .ok (.if_icmp .lt 19, 3) := by decide +kernel
theorem dX8_drawn_68 : decode cX8_drawn 68 = .ok (.iload_n 3, 1) := by decide +kernel
theorem dX8_drawn_69 : decode cX8_drawn 69 = .ok (.aload_n 0, 1) := by decide +kernel
theorem dX8_drawn_70 : decode cX8_drawn 70 = .ok (.iload 4, 2) := by decide +kernel
theorem dX8_drawn_72 : decode cX8_drawn 72 = .ok (.iconst 2, 1) := by decide +kernel
theorem dX8_drawn_73 : decode cX8_drawn 73 = .ok (.invokevirtual 48, 3) := by decide +kernel
theorem dX8_drawn_76 : decode cX8_drawn 76 = .ok (.isub, 1) := by decide +kernel
theorem dX8_drawn_77 : decode cX8_drawn 77 = .ok (.istore_n 3, 1) := by decide +kernel
theorem dX8_drawn_78 : decode cX8_drawn 78 = .ok (.iinc 4 1, 3) := by decide +kernel
theorem dX8_drawn_81 : decode cX8_drawn 81 = .ok (.goto (-24), 3) := by decide +kernel
theorem dX8_drawn_84 : decode cX8_drawn 84 = .ok (.aload_n 0, 1) := by decide +kernel
theorem dX8_drawn_85 : decode cX8_drawn 85 = .ok (.invokevirtual 209, 3) := by decide +kernel
theorem dX8_drawn_88 : decode cX8_drawn 88 = .ok (.iconst 4, 1) := by decide +kernel
theorem dX8_drawn_89 : decode cX8_drawn 89 = .ok (.irem, 1) := by decide +kernel
theorem dX8_drawn_90 : decode cX8_drawn 90 = .ok (.ifCond .ne 7, 3) := by decide +kernel
theorem dX8_drawn_93 : decode cX8_drawn 93 = .ok (.iconst 1, 1) := by decide +kernel
theorem dX8_drawn_94 : decode cX8_drawn 94 = .ok (.goto 4, 3) := by decide +kernel
theorem dX8_drawn_97 : decode cX8_drawn 97 = .ok (.iconst 0, 1) := by decide +kernel
theorem dX8_drawn_98 : decode cX8_drawn 98 = .ok (.istore 5, 2) := by decide +kernel
theorem dX8_drawn_100 : decode cX8_drawn 100 = .ok (.iload 5, 2) := by decide +kernel
theorem dX8_drawn_102 : decode cX8_drawn 102 = .ok (.ifCond .eq 24, 3) := by decide +kernel
theorem dX8_drawn_105 : decode cX8_drawn 105 = .ok (.aload_n 0, 1) := by decide +kernel
theorem dX8_drawn_106 : decode cX8_drawn 106 = .ok (.iload_n 2, 1) := by decide +kernel
theorem dX8_drawn_107 : decode cX8_drawn 107 = .ok (.aload_n 0, 1) := by decide +kernel
theorem dX8_drawn_108 : decode cX8_drawn 108 = .ok (.iload_n 2, 1) := by decide +kernel
theorem dX8_drawn_109 : decode cX8_drawn 109 = .ok (.iconst 2, 1) := by decide +kernel
theorem dX8_drawn_110 : decode cX8_drawn 110 = .ok (.invokevirtual 60, 3) := by decide +kernel
theorem dX8_drawn_113 : decode cX8_drawn 113 = .ok (.invokevirtual 99, 3) := by decide +kernel
theorem dX8_drawn_116 : decode cX8_drawn 116 = .ok (.ifCond .eq 10, 3) := by decide +kernel
theorem dX8_drawn_119 : decode cX8_drawn 119 = .ok (.aload_n 0, 1) := by decide +kernel
theorem dX8_drawn_120 : decode cX8_drawn 120 = .ok (.iload_n 2, 1) := by decide +kernel
theorem dX8_drawn_121 : decode cX8_drawn 121 = .ok (.invokevirtual 119, 3) := by decide +kernel
theorem dX8_drawn_124 : decode cX8_drawn 124 = .ok (.iconst 0, 1) := by decide +kernel
theorem dX8_drawn_125 : decode cX8_drawn 125 = .ok (.ireturn, 1) := by decide +kernel
theorem dX8_drawn_126 : decode cX8_drawn 126 = .ok (.aload_n 0, 1) := by decide +kernel
theorem dX8_drawn_127 : decode cX8_drawn 127 = .ok (.iload_n 2, 1) := by decide +kernel
theorem dX8_drawn_128 : decode cX8_drawn 128 = .ok (.iload 4, 2) := by decide +kernel
theorem dX8_drawn_130 : decode cX8_drawn 130 = .ok (.invokevirtual 122, 3) := by decide +kernel
theorem dX8_drawn_133 : decode cX8_drawn 133 = .ok (.ireturn, 1) := by decide +kernel
theorem dX8_loose_0 : decode cX8_loose 0 = .ok (.iload_n 1, 1) := by decide +kernel
theorem dX8_loose_1 : decode cX8_loose 1 = .ok (.iconst 1, 1) := by decide +kernel
theorem dX8_loose_2 : decode cX8_loose 2 = .ok (.bipush 30, 2) := by decide +kernel
theorem dX8_loose_4 : decode cX8_loose 4 = .ok (.invokestatic 44, 3) := by decide +kernel
theorem dX8_loose_7 : decode cX8_loose 7 = .ok (.ifCond .ne 10, 3) := by decide +kernel
theorem dX8_loose_10 : decode cX8_loose 10 = .ok (.aload_n 0, 1) := by decide +kernel
theorem dX8_loose_11 : decode cX8_loose 11 = .ok (.ldc 77, 2) := by decide +kernel
theorem dX8_loose_13 : decode cX8_loose 13 = .ok (.invokevirtual 78, 3) := by decide +kernel
theorem dX8_loose_16 : decode cX8_loose 16 = .ok (.ireturn, 1) := by decide +kernel
theorem dX8_loose_17 : decode cX8_loose 17 = .ok (.iconst 0, 1) := by decide +kernel
theorem dX8_loose_18 : decode cX8_loose 18 = .ok (.istore_n 2, 1) := by decide +kernel
theorem dX8_loose_19 : decode cX8_loose 19 = .ok (.iconst 0, 1) := by decide +kernel
theorem dX8_loose_20 : decode cX8_loose 20 = .ok (.istore_n 3, 1) := by decide +kernel
theorem dX8_loose_21 : decode cX8_loose 21 = .ok (.iload_n 3, 1) := by decide +kernel
theorem dX8_loose_22 : decode cX8_loose 22 = .ok (.iload_n 1, 1) := by decide +kernel
theorem dX8_loose_23 : decode cX8_loose 23 = .ok (.if_icmp .ge 24, 3) := by decide +kernel
theorem dX8_loose_26 : decode cX8_loose 26 = .ok (.iload_n 2, 1) := by decide +kernel
theorem dX8_loose_27 : decode cX8_loose 27 = .ok (.aload_n 0, 1) := by decide +kernel
theorem dX8_loose_28 : decode cX8_loose 28 = .ok (.invokevirtual 212, 3) := by decide +kernel
theorem dX8_loose_31 : decode cX8_loose 31 = .ok (.ifCond .eq 7, 3) := by decide +kernel
theorem dX8_loose_34 : decode cX8_loose 34 = .ok (.iconst 1, 1) := by decide +kernel
theorem dX8_loose_35 : decode cX8_loose 35 = .ok (.goto 4, 3) := by decide +kernel
theorem dX8_loose_38 : decode cX8_loose 38 = .ok (.iconst 0, 1) := by decide +kernel
theorem dX8_loose_39 : decode cX8_loose 39 = .ok (.iadd, 1) := by decide +kernel
theorem dX8_loose_40 : decode cX8_loose 40 = .ok (.istore_n 2, 1) := by decide +kernel
theorem dX8_loose_41 : decode cX8_loose 41 = .ok (.iinc 3 1, 3) := by decide +kernel
theorem dX8_loose_44 : decode cX8_loose 44 = .ok (.goto (-23), 3) := by decide +kernel
theorem dX8_loose_47 : decode cX8_loose 47 = .ok (.iload_n 2, 1) := by decide +kernel
theorem dX8_loose_48 : decode cX8_loose 48 = .ok (.ireturn, 1) := by decide +kernel
theorem dX8_seed_0 : decode cX8_seed 0 = .ok (.aload_n 0, 1) := by decide +kernel
theorem dX8_seed_1 : decode cX8_seed 1 = .ok (.bipush 6, 2) := by decide +kernel
theorem dX8_seed_3 : decode cX8_seed 3 = .ok (.iload_n 1, 1) := by decide +kernel
theorem dX8_seed_4 : decode cX8_seed 4 = .ok (.invokevirtual 88, 3) := by decide +kernel
theorem dX8_seed_7 : decode cX8_seed 7 = .ok (.ireturn, 1) := by decide +kernel
theorem dX8_begins_0 : decode cX8_begins 0 = .ok (.aload_n 0, 1) := by decide +kernel
theorem dX8_begins_1 : decode cX8_begins 1 = .ok (.getfield 216, 3) := by decide +kernel
theorem dX8_begins_4 : decode cX8_begins 4 = .ok (.bipush 30, 2) := by decide +kernel
theorem dX8_begins_6 : decode cX8_begins 6 = .ok (.if_icmp .ge 23, 3) := by decide +kernel
theorem dX8_begins_9 : decode cX8_begins 9 = .ok (.aload_n 0, 1) := by decide +kernel
theorem dX8_begins_10 : decode cX8_begins 10 = .ok (.getfield 40, 3) := by decide +kernel
theorem dX8_begins_13 : decode cX8_begins 13 = .ok (.aload_n 0, 1) := by decide +kernel
theorem dX8_begins_14 : decode cX8_begins 14 = .ok (.getfield 216, 3) := by decide +kernel
theorem dX8_begins_17 : decode cX8_begins 17 = .ok (.iload_n 1, 1) := by decide +kernel
theorem dX8_begins_18 : decode cX8_begins 18 = .ok (.iastore, 1) := by decide +kernel
theorem dX8_begins_19 : decode cX8_begins 19 = .ok (.aload_n 0, 1) := by decide +kernel
theorem dX8_begins_20 : decode cX8_begins 20 = .ok (.dup, 1) := by decide +kernel
theorem dX8_begins_21 : decode cX8_begins 21 = .ok (.getfield 216, 3) := by decide +kernel
theorem dX8_begins_24 : decode cX8_begins 24 = .ok (.iconst 1, 1) := by decide +kernel
theorem dX8_begins_25 : decode cX8_begins 25 = .ok (.iadd, 1) := by decide +kernel
theorem dX8_begins_26 : decode cX8_begins 26 = .ok (.putfield 216, 3) := by decide +kernel
theorem dX8_begins_29 : decode cX8_begins 29 = .ok (.return_, 1) := by decide +kernel
theorem dX8_plainHisses_0 : decode cX8_plainHisses 0 = .ok (.aload_n 0, 1) := by decide +kernel
theorem dX8_plainHisses_1 : decode cX8_plainHisses 1 = .ok (.bipush 10, 2) := by decide +kernel
theorem dX8_plainHisses_3 : decode cX8_plainHisses 3 = .ok (.invokevirtual 219, 3) := by decide +kernel
theorem dX8_plainHisses_6 : decode cX8_plainHisses 6 = .ok (.iload_n 2, 1) := by decide +kernel
theorem dX8_plainHisses_7 : decode cX8_plainHisses 7 = .ok (.iload_n 1, 1) := by decide +kernel
theorem dX8_plainHisses_8 : decode cX8_plainHisses 8 = .ok (.iadd, 1) := by decide +kernel
theorem dX8_plainHisses_9 : decode cX8_plainHisses 9 = .ok (.ireturn, 1) := by decide +kernel
theorem dX8_curveHisses_0 : decode cX8_curveHisses 0 = .ok (.aload_n 0, 1) := by decide +kernel
theorem dX8_curveHisses_1 : decode cX8_curveHisses 1 = .ok (.bipush 20, 2) := by decide +kernel
theorem dX8_curveHisses_3 : decode cX8_curveHisses 3 = .ok (.invokevirtual 219, 3) := by decide +kernel
theorem dX8_curveHisses_6 : decode cX8_curveHisses 6 = .ok (.aload_n 0, 1) := by decide +kernel
theorem dX8_curveHisses_7 : decode cX8_curveHisses 7 = .ok (.iload_n 1, 1) := by decide +kernel
theorem dX8_curveHisses_8 : decode cX8_curveHisses 8 = .ok (.iload_n 2, 1) := by decide +kernel
theorem dX8_curveHisses_9 : decode cX8_curveHisses 9 = .ok (.invokevirtual 222, 3) := by decide +kernel
theorem dX8_curveHisses_12 : decode cX8_curveHisses 12 = .ok (.iconst 4, 1) := by decide +kernel
theorem dX8_curveHisses_13 : decode cX8_curveHisses 13 = .ok (.isub, 1) := by decide +kernel
theorem dX8_curveHisses_14 : decode cX8_curveHisses 14 = .ok (.ireturn, 1) := by decide +kernel
theorem dX8_hisses_0 : decode cX8_hisses 0 = .ok (.aload_n 0, 1) := by decide +kernel
theorem dX8_hisses_1 : decode cX8_hisses 1 = .ok (.iload_n 1, 1) := by decide +kernel
theorem dX8_hisses_2 : decode cX8_hisses 2 = .ok (.iconst 0, 1) := by decide +kernel
theorem dX8_hisses_3 : decode cX8_hisses 3 = .ok (.invokevirtual 48, 3) := by decide +kernel
theorem dX8_hisses_6 : decode cX8_hisses 6 = .ok (.lookupswitch 65 #[(1, 34), (4, 41), (6, 56)], 34) := by decide +kernel
theorem dX8_hisses_40 : decode cX8_hisses 40 = .ok (.aload_n 0, 1) := by decide +kernel
theorem dX8_hisses_41 : decode cX8_hisses 41 = .ok (.iload_n 1, 1) := by decide +kernel
theorem dX8_hisses_42 : decode cX8_hisses 42 = .ok (.iload_n 2, 1) := by decide +kernel
theorem dX8_hisses_43 : decode cX8_hisses 43 = .ok (.invokevirtual 225, 3) := by decide +kernel
theorem dX8_hisses_46 : decode cX8_hisses 46 = .ok (.ireturn, 1) := by decide +kernel
theorem dX8_hisses_47 : decode cX8_hisses 47 = .ok (.aload_n 0, 1) := by decide +kernel
theorem dX8_hisses_48 : decode cX8_hisses 48 = .ok (.bipush 50, 2) := by decide +kernel
theorem dX8_hisses_50 : decode cX8_hisses 50 = .ok (.invokevirtual 219, 3) := by decide +kernel
theorem dX8_hisses_53 : decode cX8_hisses 53 = .ok (.aload_n 0, 1) := by decide +kernel
theorem dX8_hisses_54 : decode cX8_hisses 54 = .ok (.iload_n 1, 1) := by decide +kernel
theorem dX8_hisses_55 : decode cX8_hisses 55 = .ok (.iload_n 2, 1) := by decide +kernel
theorem dX8_hisses_56 : decode cX8_hisses 56 = .ok (.invokevirtual 225, 3) := by decide +kernel
theorem dX8_hisses_59 : decode cX8_hisses 59 = .ok (.iconst 3, 1) := by decide +kernel
theorem dX8_hisses_60 : decode cX8_hisses 60 = .ok (.imul, 1) := by decide +kernel
theorem dX8_hisses_61 : decode cX8_hisses 61 = .ok (.ireturn, 1) := by decide +kernel
theorem dX8_hisses_62 : decode cX8_hisses 62 = .ok (.aload_n 0, 1) := by decide +kernel
theorem dX8_hisses_63 : decode cX8_hisses 63 = .ok (.bipush 70, 2) := by decide +kernel
theorem dX8_hisses_65 : decode cX8_hisses 65 = .ok (.invokevirtual 219, 3) := by decide +kernel
theorem dX8_hisses_68 : decode cX8_hisses 68 = .ok (.bipush 9, 2) := by decide +kernel
theorem dX8_hisses_70 : decode cX8_hisses 70 = .ok (.ireturn, 1) := by decide +kernel
theorem dX8_hisses_71 : decode cX8_hisses 71 = .ok (.aload_n 0, 1) := by decide +kernel
theorem dX8_hisses_72 : decode cX8_hisses 72 = .ok (.iload_n 1, 1) := by decide +kernel
theorem dX8_hisses_73 : decode cX8_hisses 73 = .ok (.iload_n 2, 1) := by decide +kernel
theorem dX8_hisses_74 : decode cX8_hisses 74 = .ok (.invokevirtual 222, 3) := by decide +kernel
theorem dX8_hisses_77 : decode cX8_hisses 77 = .ok (.ireturn, 1) := by decide +kernel
theorem dX8_plainDrops_0 : decode cX8_plainDrops 0 = .ok (.aload_n 0, 1) := by decide +kernel
theorem dX8_plainDrops_1 : decode cX8_plainDrops 1 = .ok (.bipush 11, 2) := by decide +kernel
theorem dX8_plainDrops_3 : decode cX8_plainDrops 3 = .ok (.invokevirtual 219, 3) := by decide +kernel
theorem dX8_plainDrops_6 : decode cX8_plainDrops 6 = .ok (.aload_n 0, 1) := by decide +kernel
theorem dX8_plainDrops_7 : decode cX8_plainDrops 7 = .ok (.iload_n 1, 1) := by decide +kernel
theorem dX8_plainDrops_8 : decode cX8_plainDrops 8 = .ok (.iload_n 2, 1) := by decide +kernel
theorem dX8_plainDrops_9 : decode cX8_plainDrops 9 = .ok (.invokevirtual 228, 3) := by decide +kernel
theorem dX8_plainDrops_12 : decode cX8_plainDrops 12 = .ok (.iconst 2, 1) := by decide +kernel
theorem dX8_plainDrops_13 : decode cX8_plainDrops 13 = .ok (.imul, 1) := by decide +kernel
theorem dX8_plainDrops_14 : decode cX8_plainDrops 14 = .ok (.ireturn, 1) := by decide +kernel
theorem dX8_hardDrops_0 : decode cX8_hardDrops 0 = .ok (.aload_n 0, 1) := by decide +kernel
theorem dX8_hardDrops_1 : decode cX8_hardDrops 1 = .ok (.bipush 30, 2) := by decide +kernel
theorem dX8_hardDrops_3 : decode cX8_hardDrops 3 = .ok (.invokevirtual 219, 3) := by decide +kernel
theorem dX8_hardDrops_6 : decode cX8_hardDrops 6 = .ok (.aload_n 0, 1) := by decide +kernel
theorem dX8_hardDrops_7 : decode cX8_hardDrops 7 = .ok (.iload_n 1, 1) := by decide +kernel
theorem dX8_hardDrops_8 : decode cX8_hardDrops 8 = .ok (.iload_n 2, 1) := by decide +kernel
theorem dX8_hardDrops_9 : decode cX8_hardDrops 9 = .ok (.invokevirtual 231, 3) := by decide +kernel
theorem dX8_hardDrops_12 : decode cX8_hardDrops 12 = .ok (.ineg, 1) := by decide +kernel
theorem dX8_hardDrops_13 : decode cX8_hardDrops 13 = .ok (.ireturn, 1) := by decide +kernel
theorem dX8_drops_0 : decode cX8_drops 0 = .ok (.aload_n 0, 1) := by decide +kernel
theorem dX8_drops_1 : decode cX8_drops 1 = .ok (.iload_n 1, 1) := by decide +kernel
theorem dX8_drops_2 : decode cX8_drops 2 = .ok (.iconst 0, 1) := by decide +kernel
theorem dX8_drops_3 : decode cX8_drops 3 = .ok (.invokevirtual 48, 3) := by decide +kernel
theorem dX8_drops_6 : decode cX8_drops 6 = .ok (.tableswitch 76 2 6 #[34, 76, 76, 41, 56], 34) := by decide +kernel
theorem dX8_drops_40 : decode cX8_drops 40 = .ok (.aload_n 0, 1) := by decide +kernel
theorem dX8_drops_41 : decode cX8_drops 41 = .ok (.iload_n 1, 1) := by decide +kernel
theorem dX8_drops_42 : decode cX8_drops 42 = .ok (.iload_n 2, 1) := by decide +kernel
theorem dX8_drops_43 : decode cX8_drops 43 = .ok (.invokevirtual 234, 3) := by decide +kernel
theorem dX8_drops_46 : decode cX8_drops 46 = .ok (.ireturn, 1) := by decide +kernel
theorem dX8_drops_47 : decode cX8_drops 47 = .ok (.aload_n 0, 1) := by decide +kernel
theorem dX8_drops_48 : decode cX8_drops 48 = .ok (.bipush 60, 2) := by decide +kernel
theorem dX8_drops_50 : decode cX8_drops 50 = .ok (.invokevirtual 219, 3) := by decide +kernel
theorem dX8_drops_53 : decode cX8_drops 53 = .ok (.aload_n 0, 1) := by decide +kernel
theorem dX8_drops_54 : decode cX8_drops 54 = .ok (.iload_n 1, 1) := by decide +kernel
theorem dX8_drops_55 : decode cX8_drops 55 = .ok (.iload_n 2, 1) := by decide +kernel
theorem dX8_drops_56 : decode cX8_drops 56 = .ok (.iconst 1, 1) := by decide +kernel
theorem dX8_drops_57 : decode cX8_drops 57 = .ok (.iadd, 1) := by decide +kernel
theorem dX8_drops_58 : decode cX8_drops 58 = .ok (.invokevirtual 234, 3) := by decide +kernel
theorem dX8_drops_61 : decode cX8_drops 61 = .ok (.ireturn, 1) := by decide +kernel
theorem dX8_drops_62 : decode cX8_drops 62 = .ok (.aload_n 0, 1) := by decide +kernel
theorem dX8_drops_63 : decode cX8_drops 63 = .ok (.bipush 71, 2) := by decide +kernel
theorem dX8_drops_65 : decode cX8_drops 65 = .ok (.invokevirtual 219, 3) := by decide +kernel
theorem dX8_drops_68 : decode cX8_drops 68 = .ok (.aload_n 0, 1) := by decide +kernel
theorem dX8_drops_69 : decode cX8_drops 69 = .ok (.iload_n 1, 1) := by decide +kernel
theorem dX8_drops_70 : decode cX8_drops 70 = .ok (.iload_n 2, 1) := by decide +kernel
theorem dX8_drops_71 : decode cX8_drops 71 = .ok (.invokevirtual 231, 3) := by decide +kernel
theorem dX8_drops_74 : decode cX8_drops 74 = .ok (.aload_n 0, 1) := by decide +kernel
theorem dX8_drops_75 : decode cX8_drops 75 = .ok (.iload_n 1, 1) := by decide +kernel
theorem dX8_drops_76 : decode cX8_drops 76 = .ok (.iconst 1, 1) := by decide +kernel
theorem dX8_drops_77 : decode cX8_drops 77 = .ok (.invokevirtual 48, 3) := by decide +kernel
theorem dX8_drops_80 : decode cX8_drops 80 = .ok (.iadd, 1) := by decide +kernel
theorem dX8_drops_81 : decode cX8_drops 81 = .ok (.ireturn, 1) := by decide +kernel
theorem dX8_drops_82 : decode cX8_drops 82 = .ok (.aload_n 0, 1) := by decide +kernel
theorem dX8_drops_83 : decode cX8_drops 83 = .ok (.iload_n 1, 1) := by decide +kernel
theorem dX8_drops_84 : decode cX8_drops 84 = .ok (.iload_n 2, 1) := by decide +kernel
theorem dX8_drops_85 : decode cX8_drops 85 = .ok (.invokevirtual 231, 3) := by decide +kernel
theorem dX8_drops_88 : decode cX8_drops 88 = .ok (.ireturn, 1) := by decide +kernel
theorem dX8_plainThuds_0 : decode cX8_plainThuds 0 = .ok (.aload_n 0, 1) := by decide +kernel
theorem dX8_plainThuds_1 : decode cX8_plainThuds 1 = .ok (.bipush 12, 2) := by decide +kernel
theorem dX8_plainThuds_3 : decode cX8_plainThuds 3 = .ok (.invokevirtual 219, 3) := by decide +kernel
theorem dX8_plainThuds_6 : decode cX8_plainThuds 6 = .ok (.aload_n 0, 1) := by decide +kernel
theorem dX8_plainThuds_7 : decode cX8_plainThuds 7 = .ok (.iload_n 1, 1) := by decide +kernel
theorem dX8_plainThuds_8 : decode cX8_plainThuds 8 = .ok (.iload_n 2, 1) := by decide +kernel
theorem dX8_plainThuds_9 : decode cX8_plainThuds 9 = .ok (.invokevirtual 237, 3) := by decide +kernel
theorem dX8_plainThuds_12 : decode cX8_plainThuds 12 = .ok (.aload_n 0, 1) := by decide +kernel
theorem dX8_plainThuds_13 : decode cX8_plainThuds 13 = .ok (.iload_n 1, 1) := by decide +kernel
theorem dX8_plainThuds_14 : decode cX8_plainThuds 14 = .ok (.iconst 1, 1) := by decide +kernel
theorem dX8_plainThuds_15 : decode cX8_plainThuds 15 = .ok (.invokevirtual 48, 3) := by decide +kernel
theorem dX8_plainThuds_18 : decode cX8_plainThuds 18 = .ok (.isub, 1) := by decide +kernel
theorem dX8_plainThuds_19 : decode cX8_plainThuds 19 = .ok (.ireturn, 1) := by decide +kernel
theorem dX8_thuds_0 : decode cX8_thuds 0 = .ok (.aload_n 0, 1) := by decide +kernel
theorem dX8_thuds_1 : decode cX8_thuds 1 = .ok (.iload_n 1, 1) := by decide +kernel
theorem dX8_thuds_2 : decode cX8_thuds 2 = .ok (.iconst 0, 1) := by decide +kernel
theorem dX8_thuds_3 : decode cX8_thuds 3 = .ok (.invokevirtual 48, 3) := by decide +kernel
theorem dX8_thuds_6 : decode cX8_thuds 6 = .ok (.lookupswitch 56 #[(3, 26), (4, 41)], 26) := by decide +kernel
theorem dX8_thuds_32 : decode cX8_thuds 32 = .ok (.aload_n 0, 1) := by decide +kernel
theorem dX8_thuds_33 : decode cX8_thuds 33 = .ok (.bipush 40, 2) := by decide +kernel
theorem dX8_thuds_35 : decode cX8_thuds 35 = .ok (.invokevirtual 219, 3) := by decide +kernel
theorem dX8_thuds_38 : decode cX8_thuds 38 = .ok (.aload_n 0, 1) := by decide +kernel
theorem dX8_thuds_39 : decode cX8_thuds 39 = .ok (.iload_n 1, 1) := by decide +kernel
theorem dX8_thuds_40 : decode cX8_thuds 40 = .ok (.iload_n 2, 1) := by decide +kernel
theorem dX8_thuds_41 : decode cX8_thuds 41 = .ok (.iconst 2, 1) := by decide +kernel
theorem dX8_thuds_42 : decode cX8_thuds 42 = .ok (.idiv, 1) := by decide +kernel
theorem dX8_thuds_43 : decode cX8_thuds 43 = .ok (.invokevirtual 240, 3) := by decide +kernel
theorem dX8_thuds_46 : decode cX8_thuds 46 = .ok (.ireturn, 1) := by decide +kernel
theorem dX8_thuds_47 : decode cX8_thuds 47 = .ok (.aload_n 0, 1) := by decide +kernel
theorem dX8_thuds_48 : decode cX8_thuds 48 = .ok (.bipush 51, 2) := by decide +kernel
theorem dX8_thuds_50 : decode cX8_thuds 50 = .ok (.invokevirtual 219, 3) := by decide +kernel
theorem dX8_thuds_53 : decode cX8_thuds 53 = .ok (.aload_n 0, 1) := by decide +kernel
theorem dX8_thuds_54 : decode cX8_thuds 54 = .ok (.iload_n 1, 1) := by decide +kernel
theorem dX8_thuds_55 : decode cX8_thuds 55 = .ok (.iload_n 2, 1) := by decide +kernel
theorem dX8_thuds_56 : decode cX8_thuds 56 = .ok (.invokevirtual 240, 3) := by decide +kernel
theorem dX8_thuds_59 : decode cX8_thuds 59 = .ok (.iload_n 1, 1) := by decide +kernel
theorem dX8_thuds_60 : decode cX8_thuds 60 = .ok (.ixor, 1) := by decide +kernel
theorem dX8_thuds_61 : decode cX8_thuds 61 = .ok (.ireturn, 1) := by decide +kernel
theorem dX8_thuds_62 : decode cX8_thuds 62 = .ok (.aload_n 0, 1) := by decide +kernel
theorem dX8_thuds_63 : decode cX8_thuds 63 = .ok (.iload_n 1, 1) := by decide +kernel
theorem dX8_thuds_64 : decode cX8_thuds 64 = .ok (.iload_n 2, 1) := by decide +kernel
theorem dX8_thuds_65 : decode cX8_thuds 65 = .ok (.invokevirtual 240, 3) := by decide +kernel
theorem dX8_thuds_68 : decode cX8_thuds 68 = .ok (.ireturn, 1) := by decide +kernel
theorem dX8_plainParts_0 : decode cX8_plainParts 0 = .ok (.aload_n 0, 1) := by decide +kernel
theorem dX8_plainParts_1 : decode cX8_plainParts 1 = .ok (.bipush 13, 2) := by decide +kernel
theorem dX8_plainParts_3 : decode cX8_plainParts 3 = .ok (.invokevirtual 219, 3) := by decide +kernel
theorem dX8_plainParts_6 : decode cX8_plainParts 6 = .ok (.aload_n 0, 1) := by decide +kernel
theorem dX8_plainParts_7 : decode cX8_plainParts 7 = .ok (.iload_n 1, 1) := by decide +kernel
theorem dX8_plainParts_8 : decode cX8_plainParts 8 = .ok (.iconst 1, 1) := by decide +kernel
theorem dX8_plainParts_9 : decode cX8_plainParts 9 = .ok (.invokevirtual 48, 3) := by decide +kernel
theorem dX8_plainParts_12 : decode cX8_plainParts 12 = .ok (.iload_n 1, 1) := by decide +kernel
theorem dX8_plainParts_13 : decode cX8_plainParts 13 = .ok (.isub, 1) := by decide +kernel
theorem dX8_plainParts_14 : decode cX8_plainParts 14 = .ok (.istore_n 3, 1) := by decide +kernel
theorem dX8_plainParts_15 : decode cX8_plainParts 15 = .ok (.aload_n 0, 1) := by decide +kernel
theorem dX8_plainParts_16 : decode cX8_plainParts 16 = .ok (.iload_n 3, 1) := by decide +kernel
theorem dX8_plainParts_17 : decode cX8_plainParts 17 = .ok (.ifCond .ne 7, 3) := by decide +kernel
theorem dX8_plainParts_20 : decode cX8_plainParts 20 = .ok (.iconst 1, 1) := by decide +kernel
theorem dX8_plainParts_21 : decode cX8_plainParts 21 = .ok (.goto 4, 3) := by decide +kernel
theorem dX8_plainParts_24 : decode cX8_plainParts 24 = .ok (.iconst 0, 1) := by decide +kernel
theorem dX8_plainParts_25 : decode cX8_plainParts 25 = .ok (.putfield 243, 3) := by decide +kernel
theorem dX8_plainParts_28 : decode cX8_plainParts 28 = .ok (.aload_n 0, 1) := by decide +kernel
theorem dX8_plainParts_29 : decode cX8_plainParts 29 = .ok (.getfield 243, 3) := by decide +kernel
theorem dX8_plainParts_32 : decode cX8_plainParts 32 = .ok (.ifCond .eq 7, 3) := by decide +kernel
theorem dX8_plainParts_35 : decode cX8_plainParts 35 = .ok (.iconst 0, 1) := by decide +kernel
theorem dX8_plainParts_36 : decode cX8_plainParts 36 = .ok (.goto 6, 3) := by decide +kernel
theorem dX8_plainParts_39 : decode cX8_plainParts 39 = .ok (.iload_n 2, 1) := by decide +kernel
theorem dX8_plainParts_40 : decode cX8_plainParts 40 = .ok (.iload_n 3, 1) := by decide +kernel
theorem dX8_plainParts_41 : decode cX8_plainParts 41 = .ok (.idiv, 1) := by decide +kernel
theorem dX8_plainParts_42 : decode cX8_plainParts 42 = .ok (.ireturn, 1) := by decide +kernel
theorem dX8_partsBy_0 : decode cX8_partsBy 0 = .ok (.aload_n 0, 1) := by decide +kernel
theorem dX8_partsBy_1 : decode cX8_partsBy 1 = .ok (.iload_n 1, 1) := by decide +kernel
theorem dX8_partsBy_2 : decode cX8_partsBy 2 = .ok (.iconst 0, 1) := by decide +kernel
theorem dX8_partsBy_3 : decode cX8_partsBy 3 = .ok (.invokevirtual 48, 3) := by decide +kernel
theorem dX8_partsBy_6 : decode cX8_partsBy 6 = .ok (.iconst 1, 1) := by decide +kernel
theorem dX8_partsBy_7 : decode cX8_partsBy 7 = .ok (.if_icmp .eq 13, 3) := by decide +kernel
theorem dX8_partsBy_10 : decode cX8_partsBy 10 = .ok (.aload_n 0, 1) := by decide +kernel
theorem dX8_partsBy_11 : decode cX8_partsBy 11 = .ok (.iload_n 1, 1) := by decide +kernel
theorem dX8_partsBy_12 : decode cX8_partsBy 12 = .ok (.iconst 0, 1) := by decide +kernel
theorem dX8_partsBy_13 : decode cX8_partsBy 13 = .ok (.invokevirtual 48, 3) := by decide +kernel
theorem dX8_partsBy_16 : decode cX8_partsBy 16 = .ok (.iconst 4, 1) := by decide +kernel
theorem dX8_partsBy_17 : decode cX8_partsBy 17 = .ok (.if_icmp .ne 36, 3) := by decide +kernel
theorem dX8_partsBy_20 : decode cX8_partsBy 20 = .ok (.aload_n 0, 1) := by decide +kernel
theorem dX8_partsBy_21 : decode cX8_partsBy 21 = .ok (.bipush 21, 2) := by decide +kernel
theorem dX8_partsBy_23 : decode cX8_partsBy 23 = .ok (.invokevirtual 219, 3) := by decide +kernel
theorem dX8_partsBy_26 : decode cX8_partsBy 26 = .ok (.aload_n 0, 1) := by decide +kernel
theorem dX8_partsBy_27 : decode cX8_partsBy 27 = .ok (.iload_n 1, 1) := by decide +kernel
theorem dX8_partsBy_28 : decode cX8_partsBy 28 = .ok (.iload_n 2, 1) := by decide +kernel
theorem dX8_partsBy_29 : decode cX8_partsBy 29 = .ok (.invokevirtual 246, 3) := by decide +kernel
theorem dX8_partsBy_32 : decode cX8_partsBy 32 = .ok (.istore_n 3, 1) := by decide +kernel
theorem dX8_partsBy_33 : decode cX8_partsBy 33 = .ok (.aload_n 0, 1) := by decide +kernel
theorem dX8_partsBy_34 : decode cX8_partsBy 34 = .ok (.getfield 243, 3) := by decide +kernel
theorem dX8_partsBy_37 : decode cX8_partsBy 37 = .ok (.ifCond .eq 7, 3) := by decide +kernel
theorem dX8_partsBy_40 : decode cX8_partsBy 40 = .ok (.iconst 0, 1) := by decide +kernel
theorem dX8_partsBy_41 : decode cX8_partsBy 41 = .ok (.goto 11, 3) := by decide +kernel
theorem dX8_partsBy_44 : decode cX8_partsBy 44 = .ok (.iload_n 3, 1) := by decide +kernel
theorem dX8_partsBy_45 : decode cX8_partsBy 45 = .ok (.aload_n 0, 1) := by decide +kernel
theorem dX8_partsBy_46 : decode cX8_partsBy 46 = .ok (.iload_n 1, 1) := by decide +kernel
theorem dX8_partsBy_47 : decode cX8_partsBy 47 = .ok (.iconst 1, 1) := by decide +kernel
theorem dX8_partsBy_48 : decode cX8_partsBy 48 = .ok (.invokevirtual 237, 3) := by decide +kernel
theorem dX8_partsBy_51 : decode cX8_partsBy 51 = .ok (.iadd, 1) := by decide +kernel
theorem dX8_partsBy_52 : decode cX8_partsBy 52 = .ok (.ireturn, 1) := by decide +kernel
theorem dX8_partsBy_53 : decode cX8_partsBy 53 = .ok (.aload_n 0, 1) := by decide +kernel
theorem dX8_partsBy_54 : decode cX8_partsBy 54 = .ok (.iload_n 1, 1) := by decide +kernel
theorem dX8_partsBy_55 : decode cX8_partsBy 55 = .ok (.iload_n 2, 1) := by decide +kernel
theorem dX8_partsBy_56 : decode cX8_partsBy 56 = .ok (.invokevirtual 246, 3) := by decide +kernel
theorem dX8_partsBy_59 : decode cX8_partsBy 59 = .ok (.ireturn, 1) := by decide +kernel
theorem dX8_voice_0 : decode cX8_voice 0 = .ok (.aload_n 0, 1) := by decide +kernel
theorem dX8_voice_1 : decode cX8_voice 1 = .ok (.iload_n 1, 1) := by decide +kernel
theorem dX8_voice_2 : decode cX8_voice 2 = .ok (.invokevirtual 82, 3) := by decide +kernel
theorem dX8_voice_5 : decode cX8_voice 5 = .ok (.ifCond .eq 12, 3) := by decide +kernel
theorem dX8_voice_8 : decode cX8_voice 8 = .ok (.iload_n 2, 1) := by decide +kernel
theorem dX8_voice_9 : decode cX8_voice 9 = .ok (.iconst 0, 1) := by decide +kernel
theorem dX8_voice_10 : decode cX8_voice 10 = .ok (.iconst 3, 1) := by decide +kernel
theorem dX8_voice_11 : decode cX8_voice 11 = .ok (.invokestatic 44, 3) := by decide +kernel
theorem dX8_voice_14 : decode cX8_voice 14 = .ok (.ifCond .ne 10, 3) := by decide +kernel
theorem dX8_voice_17 : decode cX8_voice 17 = .ok (.aload_n 0, 1) := by decide +kernel
theorem dX8_voice_18 : decode cX8_voice 18 = .ok (.ldc 77, 2) := by decide +kernel
theorem dX8_voice_20 : decode cX8_voice 20 = .ok (.invokevirtual 78, 3) := by decide +kernel
theorem dX8_voice_23 : decode cX8_voice 23 = .ok (.ireturn, 1) := by decide +kernel
theorem dX8_voice_24 : decode cX8_voice 24 = .ok (.aload_n 0, 1) := by decide +kernel
theorem dX8_voice_25 : decode cX8_voice 25 = .ok (.iconst 0, 1) := by decide +kernel
theorem dX8_voice_26 : decode cX8_voice 26 = .ok (.putfield 216, 3) := by decide +kernel
theorem dX8_voice_29 : decode cX8_voice 29 = .ok (.aload_n 0, 1) := by decide +kernel
theorem dX8_voice_30 : decode cX8_voice 30 = .ok (.iconst 0, 1) := by decide +kernel
theorem dX8_voice_31 : decode cX8_voice 31 = .ok (.putfield 243, 3) := by decide +kernel
theorem dX8_voice_34 : decode cX8_voice 34 = .ok (.iload_n 2, 1) := by decide +kernel
theorem dX8_voice_35 : decode cX8_voice 35 = .ok (.ifCond .ne 12, 3) := by decide +kernel
theorem dX8_voice_38 : decode cX8_voice 38 = .ok (.aload_n 0, 1) := by decide +kernel
theorem dX8_voice_39 : decode cX8_voice 39 = .ok (.iload_n 1, 1) := by decide +kernel
theorem dX8_voice_40 : decode cX8_voice 40 = .ok (.iload_n 3, 1) := by decide +kernel
theorem dX8_voice_41 : decode cX8_voice 41 = .ok (.invokevirtual 228, 3) := by decide +kernel
theorem dX8_voice_44 : decode cX8_voice 44 = .ok (.goto 37, 3) := by decide +kernel
theorem dX8_voice_47 : decode cX8_voice 47 = .ok (.iload_n 2, 1) := by decide +kernel
theorem dX8_voice_48 : decode cX8_voice 48 = .ok (.iconst 1, 1) := by decide +kernel
theorem dX8_voice_49 : decode cX8_voice 49 = .ok (.if_icmp .ne 12, 3) := by decide +kernel
theorem dX8_voice_52 : decode cX8_voice 52 = .ok (.aload_n 0, 1) := by decide +kernel
theorem dX8_voice_53 : decode cX8_voice 53 = .ok (.iload_n 1, 1) := by decide +kernel
theorem dX8_voice_54 : decode cX8_voice 54 = .ok (.iload_n 3, 1) := by decide +kernel
theorem dX8_voice_55 : decode cX8_voice 55 = .ok (.invokevirtual 237, 3) := by decide +kernel
theorem dX8_voice_58 : decode cX8_voice 58 = .ok (.goto 23, 3) := by decide +kernel
theorem dX8_voice_61 : decode cX8_voice 61 = .ok (.iload_n 2, 1) := by decide +kernel
theorem dX8_voice_62 : decode cX8_voice 62 = .ok (.iconst 2, 1) := by decide +kernel
theorem dX8_voice_63 : decode cX8_voice 63 = .ok (.if_icmp .ne 12, 3) := by decide +kernel
theorem dX8_voice_66 : decode cX8_voice 66 = .ok (.aload_n 0, 1) := by decide +kernel
theorem dX8_voice_67 : decode cX8_voice 67 = .ok (.iload_n 1, 1) := by decide +kernel
theorem dX8_voice_68 : decode cX8_voice 68 = .ok (.iload_n 3, 1) := by decide +kernel
theorem dX8_voice_69 : decode cX8_voice 69 = .ok (.invokevirtual 249, 3) := by decide +kernel
theorem dX8_voice_72 : decode cX8_voice 72 = .ok (.goto 9, 3) := by decide +kernel
theorem dX8_voice_75 : decode cX8_voice 75 = .ok (.aload_n 0, 1) := by decide +kernel
theorem dX8_voice_76 : decode cX8_voice 76 = .ok (.iload_n 1, 1) := by decide +kernel
theorem dX8_voice_77 : decode cX8_voice 77 = .ok (.iload_n 3, 1) := by decide +kernel
theorem dX8_voice_78 : decode cX8_voice 78 = .ok (.invokevirtual 252, 3) := by decide +kernel
theorem dX8_voice_81 : decode cX8_voice 81 = .ok (.istore 4, 2) := by decide +kernel
theorem dX8_voice_83 : decode cX8_voice 83 = .ok (.aload_n 0, 1) := by decide +kernel
theorem dX8_voice_84 : decode cX8_voice 84 = .ok (.getfield 243, 3) := by decide +kernel
theorem dX8_voice_87 : decode cX8_voice 87 = .ok (.ifCond .eq 12, 3) := by decide +kernel
theorem dX8_voice_90 : decode cX8_voice 90 = .ok (.aload_n 0, 1) := by decide +kernel
theorem dX8_voice_91 : decode cX8_voice 91 = .ok (.ldc 255, 2) := by decide +kernel
theorem dX8_voice_93 : decode cX8_voice 93 = .ok (.invokevirtual 78, 3) := by decide +kernel
theorem dX8_voice_96 : decode cX8_voice 96 = .ok (.goto 5, 3) := by decide +kernel
theorem dX8_voice_99 : decode cX8_voice 99 = .ok (.iload 4, 2) := by decide +kernel
theorem dX8_voice_101 : decode cX8_voice 101 = .ok (.ireturn, 1) := by decide +kernel
theorem dX8_body_0 : decode cX8_body 0 = .ok (.iload_n 1, 1) := by decide +kernel
theorem dX8_body_1 : decode cX8_body 1 = .ok (.iconst 0, 1) := by decide +kernel
theorem dX8_body_2 : decode cX8_body 2 = .ok (.aload_n 0, 1) := by decide +kernel
theorem dX8_body_3 : decode cX8_body 3 = .ok (.getfield 216, 3) := by decide +kernel
theorem dX8_body_6 : decode cX8_body 6 = .ok (.iconst 1, 1) := by decide +kernel
theorem dX8_body_7 : decode cX8_body 7 = .ok (.isub, 1) := by decide +kernel
theorem dX8_body_8 : decode cX8_body 8 = .ok (.invokestatic 44, 3) := by decide +kernel
theorem dX8_body_11 : decode cX8_body 11 = .ok (.ifCond .eq 12, 3) := by decide +kernel
theorem dX8_body_14 : decode cX8_body 14 = .ok (.aload_n 0, 1) := by decide +kernel
theorem dX8_body_15 : decode cX8_body 15 = .ok (.getfield 40, 3) := by decide +kernel
theorem dX8_body_18 : decode cX8_body 18 = .ok (.iload_n 1, 1) := by decide +kernel
theorem dX8_body_19 : decode cX8_body 19 = .ok (.iaload, 1) := by decide +kernel
theorem dX8_body_20 : decode cX8_body 20 = .ok (.goto 9, 3) := by decide +kernel
theorem dX8_body_23 : decode cX8_body 23 = .ok (.aload_n 0, 1) := by decide +kernel
theorem dX8_body_24 : decode cX8_body 24 = .ok (.ldc 185, 2) := by decide +kernel
theorem dX8_body_26 : decode cX8_body 26 = .ok (.invokevirtual 78, 3) := by decide +kernel
theorem dX8_body_29 : decode cX8_body 29 = .ok (.ireturn, 1) := by decide +kernel
theorem dX8_isSheet_0 : decode cX8_isSheet 0 = .ok (.iload_n 0, 1) := by decide +kernel
theorem dX8_isSheet_1 : decode cX8_isSheet 1 = .ok (.iconst 0, 1) := by decide +kernel
theorem dX8_isSheet_2 : decode cX8_isSheet 2 = .ok (.iconst 3, 1) := by decide +kernel
theorem dX8_isSheet_3 : decode cX8_isSheet 3 = .ok (.invokestatic 44, 3) := by decide +kernel
theorem dX8_isSheet_6 : decode cX8_isSheet 6 = .ok (.ireturn, 1) := by decide +kernel
theorem dX8_sheet_0 : decode cX8_sheet 0 = .ok (.iload_n 1, 1) := by decide +kernel
theorem dX8_sheet_1 : decode cX8_sheet 1 = .ok (.invokestatic 202, 3) := by decide +kernel
theorem dX8_sheet_4 : decode cX8_sheet 4 = .ok (.ifCond .eq 25, 3) := by decide +kernel
theorem dX8_sheet_7 : decode cX8_sheet 7 = .ok (.iload_n 2, 1) := by decide +kernel
theorem dX8_sheet_8 : decode cX8_sheet 8 = .ok (.ifCond .eq 28, 3) := by decide +kernel
theorem dX8_sheet_11 : decode cX8_sheet 11 = .ok (.iload_n 2, 1) := by decide +kernel
theorem dX8_sheet_12 : decode cX8_sheet 12 = .ok (.bipush 8, 2) := by decide +kernel
theorem dX8_sheet_14 : decode cX8_sheet 14 = .ok (.if_icmp .eq 22, 3) := by decide +kernel
theorem dX8_sheet_17 : decode cX8_sheet 17 = .ok (.iload_n 2, 1) := by decide +kernel
theorem dX8_sheet_18 : decode cX8_sheet 18 = .ok (.bipush 16, 2) := by decide +kernel
theorem dX8_sheet_20 : decode cX8_sheet 20 = .ok (.if_icmp .eq 16, 3) := by decide +kernel
theorem dX8_sheet_23 : decode cX8_sheet 23 = .ok (.iload_n 2, 1) := by decide +kernel
theorem dX8_sheet_24 : decode cX8_sheet 24 = .ok (.bipush 32, 2) := by decide +kernel
theorem dX8_sheet_26 : decode cX8_sheet 26 = .ok (.if_icmp .eq 10, 3) := by decide +kernel
theorem dX8_sheet_29 : decode cX8_sheet 29 = .ok (.aload_n 0, 1) := by decide +kernel
theorem dX8_sheet_30 : decode cX8_sheet 30 = .ok (.ldc 77, 2) := by decide +kernel
theorem dX8_sheet_32 : decode cX8_sheet 32 = .ok (.invokevirtual 78, 3) := by decide +kernel
theorem dX8_sheet_35 : decode cX8_sheet 35 = .ok (.ireturn, 1) := by decide +kernel
theorem dX8_sheet_36 : decode cX8_sheet 36 = .ok (.iload_n 2, 1) := by decide +kernel
theorem dX8_sheet_37 : decode cX8_sheet 37 = .ok (.ifCond .le 14, 3) := by decide +kernel
theorem dX8_sheet_40 : decode cX8_sheet 40 = .ok (.iload_n 3, 1) := by decide +kernel
theorem dX8_sheet_41 : decode cX8_sheet 41 = .ok (.ifCond .ge 10, 3) := by decide +kernel
theorem dX8_sheet_44 : decode cX8_sheet 44 = .ok (.aload_n 0, 1) := by decide +kernel
theorem dX8_sheet_45 : decode cX8_sheet 45 = .ok (.ldc 192, 2) := by decide +kernel
theorem dX8_sheet_47 : decode cX8_sheet 47 = .ok (.invokevirtual 78, 3) := by decide +kernel
theorem dX8_sheet_50 : decode cX8_sheet 50 = .ok (.ireturn, 1) := by decide +kernel
theorem dX8_sheet_51 : decode cX8_sheet 51 = .ok (.iload_n 2, 1) := by decide +kernel
theorem dX8_sheet_52 : decode cX8_sheet 52 = .ok (.ifCond .le 16, 3) := by decide +kernel
theorem dX8_sheet_55 : decode cX8_sheet 55 = .ok (.iload_n 3, 1) := by decide +kernel
theorem dX8_sheet_56 : decode cX8_sheet 56 = .ok (.bipush 24, 2) := by decide +kernel
theorem dX8_sheet_58 : decode cX8_sheet 58 = .ok (.if_icmp .le 10, 3) := by decide +kernel
theorem dX8_sheet_61 : decode cX8_sheet 61 = .ok (.aload_n 0, 1) := by decide +kernel
theorem dX8_sheet_62 : decode cX8_sheet 62 = .ok (.ldc 77, 2) := by decide +kernel
theorem dX8_sheet_64 : decode cX8_sheet 64 = .ok (.invokevirtual 78, 3) := by decide +kernel
theorem dX8_sheet_67 : decode cX8_sheet 67 = .ok (.ireturn, 1) := by decide +kernel
theorem dX8_sheet_68 : decode cX8_sheet 68 = .ok (.aload_n 0, 1) := by decide +kernel
theorem dX8_sheet_69 : decode cX8_sheet 69 = .ok (.getfield 19, 3) := by decide +kernel
theorem dX8_sheet_72 : decode cX8_sheet 72 = .ok (.iload_n 1, 1) := by decide +kernel
theorem dX8_sheet_73 : decode cX8_sheet 73 = .ok (.iload_n 2, 1) := by decide +kernel
theorem dX8_sheet_74 : decode cX8_sheet 74 = .ok (.iastore, 1) := by decide +kernel
theorem dX8_sheet_75 : decode cX8_sheet 75 = .ok (.aload_n 0, 1) := by decide +kernel
theorem dX8_sheet_76 : decode cX8_sheet 76 = .ok (.getfield 22, 3) := by decide +kernel
theorem dX8_sheet_79 : decode cX8_sheet 79 = .ok (.iload_n 1, 1) := by decide +kernel
theorem dX8_sheet_80 : decode cX8_sheet 80 = .ok (.iload_n 2, 1) := by decide +kernel
theorem dX8_sheet_81 : decode cX8_sheet 81 = .ok (.ifCond .ne 7, 3) := by decide +kernel
theorem dX8_sheet_84 : decode cX8_sheet 84 = .ok (.iconst 0, 1) := by decide +kernel
theorem dX8_sheet_85 : decode cX8_sheet 85 = .ok (.goto 4, 3) := by decide +kernel
theorem dX8_sheet_88 : decode cX8_sheet 88 = .ok (.iload_n 3, 1) := by decide +kernel
theorem dX8_sheet_89 : decode cX8_sheet 89 = .ok (.iastore, 1) := by decide +kernel
theorem dX8_sheet_90 : decode cX8_sheet 90 = .ok (.iconst 0, 1) := by decide +kernel
theorem dX8_sheet_91 : decode cX8_sheet 91 = .ok (.istore 4, 2) := by decide +kernel
theorem dX8_sheet_93 : decode cX8_sheet 93 = .ok (.iload 4, 2) := by decide +kernel
theorem dX8_sheet_95 : decode cX8_sheet 95 = .ok (.bipush 24, 2) := by decide +kernel
theorem dX8_sheet_97 : decode cX8_sheet 97 = .ok (.if_icmp .ge 22, 3) := by decide +kernel
theorem dX8_sheet_100 : decode cX8_sheet 100 = .ok (.aload_n 0, 1) := by decide +kernel
theorem dX8_sheet_101 : decode cX8_sheet 101 = .ok (.getfield 25, 3) := by decide +kernel
theorem dX8_sheet_104 : decode cX8_sheet 104 = .ok (.bipush 24, 2) := by decide +kernel
theorem dX8_sheet_106 : decode cX8_sheet 106 = .ok (.iload_n 1, 1) := by decide +kernel
theorem dX8_sheet_107 : decode cX8_sheet 107 = .ok (.imul, 1) := by decide +kernel
theorem dX8_sheet_108 : decode cX8_sheet 108 = .ok (.iload 4, 2) := by decide +kernel
theorem dX8_sheet_110 : decode cX8_sheet 110 = .ok (.iadd, 1) := by decide +kernel
theorem dX8_sheet_111 : decode cX8_sheet 111 = .ok (.iconst 0, 1) := by decide +kernel
theorem dX8_sheet_112 : decode cX8_sheet 112 = .ok (.iastore, 1) := by decide +kernel
theorem dX8_sheet_113 : decode cX8_sheet 113 = .ok (.iinc 4 1, 3) := by decide +kernel
theorem dX8_sheet_116 : decode cX8_sheet 116 = .ok (.goto (-23), 3) := by decide +kernel
theorem dX8_sheet_119 : decode cX8_sheet 119 = .ok (.iconst 1, 1) := by decide +kernel
theorem dX8_sheet_120 : decode cX8_sheet 120 = .ok (.ireturn, 1) := by decide +kernel
theorem dX8_notThere_0 : decode cX8_notThere 0 = .ok (.iload_n 1, 1) := by decide +kernel
theorem dX8_notThere_1 : decode cX8_notThere 1 = .ok (.invokestatic 202, 3) := by decide +kernel
theorem dX8_notThere_4 : decode cX8_notThere 4 = .ok (.ifCond .ne 8, 3) := by decide +kernel
theorem dX8_notThere_7 : decode cX8_notThere 7 = .ok (.ldc 77, 2) := by decide +kernel
theorem dX8_notThere_9 : decode cX8_notThere 9 = .ok (.goto 18, 3) := by decide +kernel
theorem dX8_notThere_12 : decode cX8_notThere 12 = .ok (.aload_n 0, 1) := by decide +kernel
theorem dX8_notThere_13 : decode cX8_notThere 13 = .ok (.getfield 19, 3) := by decide +kernel
theorem dX8_notThere_16 : decode cX8_notThere 16 = .ok (.iload_n 1, 1) := by decide +kernel
theorem dX8_notThere_17 : decode cX8_notThere 17 = .ok (.iaload, 1) := by decide +kernel
theorem dX8_notThere_18 : decode cX8_notThere 18 = .ok (.ifCond .ne 8, 3) := by decide +kernel
theorem dX8_notThere_21 : decode cX8_notThere 21 = .ok (.ldc 185, 2) := by decide +kernel
theorem dX8_notThere_23 : decode cX8_notThere 23 = .ok (.goto 4, 3) := by decide +kernel
theorem dX8_notThere_26 : decode cX8_notThere 26 = .ok (.iconst 0, 1) := by decide +kernel
theorem dX8_notThere_27 : decode cX8_notThere 27 = .ok (.ireturn, 1) := by decide +kernel
theorem dX8_put_0 : decode cX8_put 0 = .ok (.aload_n 0, 1) := by decide +kernel
theorem dX8_put_1 : decode cX8_put 1 = .ok (.iload_n 1, 1) := by decide +kernel
theorem dX8_put_2 : decode cX8_put 2 = .ok (.invokevirtual 256, 3) := by decide +kernel
theorem dX8_put_5 : decode cX8_put 5 = .ok (.istore 4, 2) := by decide +kernel
theorem dX8_put_7 : decode cX8_put 7 = .ok (.iload 4, 2) := by decide +kernel
theorem dX8_put_9 : decode cX8_put 9 = .ok (.ifCond .ne 24, 3) := by decide +kernel
theorem dX8_put_12 : decode cX8_put 12 = .ok (.iload_n 2, 1) := by decide +kernel
theorem dX8_put_13 : decode cX8_put 13 = .ok (.iconst 0, 1) := by decide +kernel
theorem dX8_put_14 : decode cX8_put 14 = .ok (.aload_n 0, 1) := by decide +kernel
theorem dX8_put_15 : decode cX8_put 15 = .ok (.getfield 22, 3) := by decide +kernel
theorem dX8_put_18 : decode cX8_put 18 = .ok (.iload_n 1, 1) := by decide +kernel
theorem dX8_put_19 : decode cX8_put 19 = .ok (.iaload, 1) := by decide +kernel
theorem dX8_put_20 : decode cX8_put 20 = .ok (.iconst 1, 1) := by decide +kernel
theorem dX8_put_21 : decode cX8_put 21 = .ok (.isub, 1) := by decide +kernel
theorem dX8_put_22 : decode cX8_put 22 = .ok (.invokestatic 44, 3) := by decide +kernel
theorem dX8_put_25 : decode cX8_put 25 = .ok (.ifCond .ne 8, 3) := by decide +kernel
theorem dX8_put_28 : decode cX8_put 28 = .ok (.ldc 77, 2) := by decide +kernel
theorem dX8_put_30 : decode cX8_put 30 = .ok (.goto 5, 3) := by decide +kernel
theorem dX8_put_33 : decode cX8_put 33 = .ok (.iload 4, 2) := by decide +kernel
theorem dX8_put_35 : decode cX8_put 35 = .ok (.istore 4, 2) := by decide +kernel
theorem dX8_put_37 : decode cX8_put 37 = .ok (.iload 4, 2) := by decide +kernel
theorem dX8_put_39 : decode cX8_put 39 = .ok (.ifCond .eq 10, 3) := by decide +kernel
theorem dX8_put_42 : decode cX8_put 42 = .ok (.aload_n 0, 1) := by decide +kernel
theorem dX8_put_43 : decode cX8_put 43 = .ok (.iload 4, 2) := by decide +kernel
theorem dX8_put_45 : decode cX8_put 45 = .ok (.invokevirtual 78, 3) := by decide +kernel
theorem dX8_put_48 : decode cX8_put 48 = .ok (.ireturn, 1) := by decide +kernel
theorem dX8_put_49 : decode cX8_put 49 = .ok (.aload_n 0, 1) := by decide +kernel
theorem dX8_put_50 : decode cX8_put 50 = .ok (.getfield 25, 3) := by decide +kernel
theorem dX8_put_53 : decode cX8_put 53 = .ok (.bipush 24, 2) := by decide +kernel
theorem dX8_put_55 : decode cX8_put 55 = .ok (.iload_n 1, 1) := by decide +kernel
theorem dX8_put_56 : decode cX8_put 56 = .ok (.imul, 1) := by decide +kernel
theorem dX8_put_57 : decode cX8_put 57 = .ok (.iload_n 2, 1) := by decide +kernel
theorem dX8_put_58 : decode cX8_put 58 = .ok (.iadd, 1) := by decide +kernel
theorem dX8_put_59 : decode cX8_put 59 = .ok (.aload_n 0, 1) := by decide +kernel
theorem dX8_put_60 : decode cX8_put 60 = .ok (.getfield 19, 3) := by decide +kernel
theorem dX8_put_63 : decode cX8_put 63 = .ok (.iload_n 1, 1) := by decide +kernel
theorem dX8_put_64 : decode cX8_put 64 = .ok (.iaload, 1) := by decide +kernel
theorem dX8_put_65 : decode cX8_put 65 = .ok (.bipush 8, 2) := by decide +kernel
theorem dX8_put_67 : decode cX8_put 67 = .ok (.if_icmp .ne 8, 3) := by decide +kernel
theorem dX8_put_70 : decode cX8_put 70 = .ok (.iload_n 3, 1) := by decide +kernel
theorem dX8_put_71 : decode cX8_put 71 = .ok (.i2b, 1) := by decide +kernel
theorem dX8_put_72 : decode cX8_put 72 = .ok (.goto 20, 3) := by decide +kernel
theorem dX8_put_75 : decode cX8_put 75 = .ok (.aload_n 0, 1) := by decide +kernel
theorem dX8_put_76 : decode cX8_put 76 = .ok (.getfield 19, 3) := by decide +kernel
theorem dX8_put_79 : decode cX8_put 79 = .ok (.iload_n 1, 1) := by decide +kernel
theorem dX8_put_80 : decode cX8_put 80 = .ok (.iaload, 1) := by decide +kernel
theorem dX8_put_81 : decode cX8_put 81 = .ok (.bipush 16, 2) := by decide +kernel
theorem dX8_put_83 : decode cX8_put 83 = .ok (.if_icmp .ne 8, 3) := by decide +kernel
theorem dX8_put_86 : decode cX8_put 86 = .ok (.iload_n 3, 1) := by decide +kernel
theorem dX8_put_87 : decode cX8_put 87 = .ok (.i2s, 1) := by decide +kernel
theorem dX8_put_88 : decode cX8_put 88 = .ok (.goto 4, 3) := by decide +kernel
theorem dX8_put_91 : decode cX8_put 91 = .ok (.iload_n 3, 1) := by decide +kernel
theorem dX8_put_92 : decode cX8_put 92 = .ok (.iastore, 1) := by decide +kernel
theorem dX8_put_93 : decode cX8_put 93 = .ok (.iconst 1, 1) := by decide +kernel
theorem dX8_put_94 : decode cX8_put 94 = .ok (.ireturn, 1) := by decide +kernel
theorem dX8_notMoved_0 : decode cX8_notMoved 0 = .ok (.iload_n 1, 1) := by decide +kernel
theorem dX8_notMoved_1 : decode cX8_notMoved 1 = .ok (.invokestatic 202, 3) := by decide +kernel
theorem dX8_notMoved_4 : decode cX8_notMoved 4 = .ok (.ifCond .eq 10, 3) := by decide +kernel
theorem dX8_notMoved_7 : decode cX8_notMoved 7 = .ok (.iload_n 3, 1) := by decide +kernel
theorem dX8_notMoved_8 : decode cX8_notMoved 8 = .ok (.invokestatic 202, 3) := by decide +kernel
theorem dX8_notMoved_11 : decode cX8_notMoved 11 = .ok (.ifCond .ne 6, 3) := by decide +kernel
theorem dX8_notMoved_14 : decode cX8_notMoved 14 = .ok (.ldc 77, 2) := by decide +kernel
theorem dX8_notMoved_16 : decode cX8_notMoved 16 = .ok (.ireturn, 1) := by decide +kernel
theorem dX8_notMoved_17 : decode cX8_notMoved 17 = .ok (.aload_n 0, 1) := by decide +kernel
theorem dX8_notMoved_18 : decode cX8_notMoved 18 = .ok (.getfield 19, 3) := by decide +kernel
theorem dX8_notMoved_21 : decode cX8_notMoved 21 = .ok (.iload_n 1, 1) := by decide +kernel
theorem dX8_notMoved_22 : decode cX8_notMoved 22 = .ok (.iaload, 1) := by decide +kernel
theorem dX8_notMoved_23 : decode cX8_notMoved 23 = .ok (.ifCond .eq 12, 3) := by decide +kernel
theorem dX8_notMoved_26 : decode cX8_notMoved 26 = .ok (.aload_n 0, 1) := by decide +kernel
theorem dX8_notMoved_27 : decode cX8_notMoved 27 = .ok (.getfield 19, 3) := by decide +kernel
theorem dX8_notMoved_30 : decode cX8_notMoved 30 = .ok (.iload_n 3, 1) := by decide +kernel
theorem dX8_notMoved_31 : decode cX8_notMoved 31 = .ok (.iaload, 1) := by decide +kernel
theorem dX8_notMoved_32 : decode cX8_notMoved 32 = .ok (.ifCond .ne 6, 3) := by decide +kernel
theorem dX8_notMoved_35 : decode cX8_notMoved 35 = .ok (.ldc 185, 2) := by decide +kernel
theorem dX8_notMoved_37 : decode cX8_notMoved 37 = .ok (.ireturn, 1) := by decide +kernel
theorem dX8_notMoved_38 : decode cX8_notMoved 38 = .ok (.aload_n 0, 1) := by decide +kernel
theorem dX8_notMoved_39 : decode cX8_notMoved 39 = .ok (.getfield 19, 3) := by decide +kernel
theorem dX8_notMoved_42 : decode cX8_notMoved 42 = .ok (.iload_n 1, 1) := by decide +kernel
theorem dX8_notMoved_43 : decode cX8_notMoved 43 = .ok (.iaload, 1) := by decide +kernel
theorem dX8_notMoved_44 : decode cX8_notMoved 44 = .ok (.aload_n 0, 1) := by decide +kernel
theorem dX8_notMoved_45 : decode cX8_notMoved 45 = .ok (.getfield 19, 3) := by decide +kernel
theorem dX8_notMoved_48 : decode cX8_notMoved 48 = .ok (.iload_n 3, 1) := by decide +kernel
theorem dX8_notMoved_49 : decode cX8_notMoved 49 = .ok (.iaload, 1) := by decide +kernel
theorem dX8_notMoved_50 : decode cX8_notMoved 50 = .ok (.if_icmp .eq 6, 3) := by decide +kernel
theorem dX8_notMoved_53 : decode cX8_notMoved 53 = .ok (.ldc 91, 2) := by decide +kernel
theorem dX8_notMoved_55 : decode cX8_notMoved 55 = .ok (.ireturn, 1) := by decide +kernel
theorem dX8_notMoved_56 : decode cX8_notMoved 56 = .ok (.iload 5, 2) := by decide +kernel
theorem dX8_notMoved_58 : decode cX8_notMoved 58 = .ok (.ifCond .lt 43, 3) := by decide +kernel
theorem dX8_notMoved_61 : decode cX8_notMoved 61 = .ok (.iload_n 2, 1) := by decide +kernel
theorem dX8_notMoved_62 : decode cX8_notMoved 62 = .ok (.ifCond .lt 39, 3) := by decide +kernel
theorem dX8_notMoved_65 : decode cX8_notMoved 65 = .ok (.iload 4, 2) := by decide +kernel
theorem dX8_notMoved_67 : decode cX8_notMoved 67 = .ok (.ifCond .lt 34, 3) := by decide +kernel
theorem dX8_notMoved_70 : decode cX8_notMoved 70 = .ok (.iload 5, 2) := by decide +kernel
theorem dX8_notMoved_72 : decode cX8_notMoved 72 = .ok (.aload_n 0, 1) := by decide +kernel
theorem dX8_notMoved_73 : decode cX8_notMoved 73 = .ok (.getfield 22, 3) := by decide +kernel
theorem dX8_notMoved_76 : decode cX8_notMoved 76 = .ok (.iload_n 1, 1) := by decide +kernel
theorem dX8_notMoved_77 : decode cX8_notMoved 77 = .ok (.iaload, 1) := by decide +kernel
theorem dX8_notMoved_78 : decode cX8_notMoved 78 = .ok (.iload_n 2, 1) := by decide +kernel
theorem dX8_notMoved_79 : decode cX8_notMoved 79 = .ok (.isub, 1) := by decide +kernel
theorem dX8_notMoved_80 : decode cX8_notMoved 80 = .ok (.if_icmp .gt 21, 3) := by decide +kernel
theorem dX8_notMoved_83 : decode cX8_notMoved 83 = .ok (.iload 5, 2) := by decide +kernel
theorem dX8_notMoved_85 : decode cX8_notMoved 85 = .ok (.aload_n 0, 1) := by decide +kernel
theorem dX8_notMoved_86 : decode cX8_notMoved 86 = .ok (.getfield 22, 3) := by decide +kernel
theorem dX8_notMoved_89 : decode cX8_notMoved 89 = .ok (.iload_n 3, 1) := by decide +kernel
theorem dX8_notMoved_90 : decode cX8_notMoved 90 = .ok (.iaload, 1) := by decide +kernel
theorem dX8_notMoved_91 : decode cX8_notMoved 91 = .ok (.iload 4, 2) := by decide +kernel
theorem dX8_notMoved_93 : decode cX8_notMoved 93 = .ok (.isub, 1) := by decide +kernel
theorem dX8_notMoved_94 : decode cX8_notMoved 94 = .ok (.if_icmp .gt 7, 3) := by decide +kernel
theorem dX8_notMoved_97 : decode cX8_notMoved 97 = .ok (.iconst 1, 1) := by decide +kernel
theorem dX8_notMoved_98 : decode cX8_notMoved 98 = .ok (.goto 4, 3) := by decide +kernel
theorem dX8_notMoved_101 : decode cX8_notMoved 101 = .ok (.iconst 0, 1) := by decide +kernel
theorem dX8_notMoved_102 : decode cX8_notMoved 102 = .ok (.istore 6, 2) := by decide +kernel
theorem dX8_notMoved_104 : decode cX8_notMoved 104 = .ok (.iload 6, 2) := by decide +kernel
theorem dX8_notMoved_106 : decode cX8_notMoved 106 = .ok (.ifCond .eq 7, 3) := by decide +kernel
theorem dX8_notMoved_109 : decode cX8_notMoved 109 = .ok (.iconst 0, 1) := by decide +kernel
theorem dX8_notMoved_110 : decode cX8_notMoved 110 = .ok (.goto 5, 3) := by decide +kernel
theorem dX8_notMoved_113 : decode cX8_notMoved 113 = .ok (.ldc 77, 2) := by decide +kernel
theorem dX8_notMoved_115 : decode cX8_notMoved 115 = .ok (.ireturn, 1) := by decide +kernel
theorem dX8_move_0 : decode cX8_move 0 = .ok (.aload_n 0, 1) := by decide +kernel
theorem dX8_move_1 : decode cX8_move 1 = .ok (.iload_n 1, 1) := by decide +kernel
theorem dX8_move_2 : decode cX8_move 2 = .ok (.iload_n 2, 1) := by decide +kernel
theorem dX8_move_3 : decode cX8_move 3 = .ok (.iload_n 3, 1) := by decide +kernel
theorem dX8_move_4 : decode cX8_move 4 = .ok (.iload 4, 2) := by decide +kernel
theorem dX8_move_6 : decode cX8_move 6 = .ok (.iload 5, 2) := by decide +kernel
theorem dX8_move_8 : decode cX8_move 8 = .ok (.invokevirtual 259, 3) := by decide +kernel
theorem dX8_move_11 : decode cX8_move 11 = .ok (.istore 6, 2) := by decide +kernel
theorem dX8_move_13 : decode cX8_move 13 = .ok (.iload 6, 2) := by decide +kernel
theorem dX8_move_15 : decode cX8_move 15 = .ok (.ifCond .eq 10, 3) := by decide +kernel
theorem dX8_move_18 : decode cX8_move 18 = .ok (.aload_n 0, 1) := by decide +kernel
theorem dX8_move_19 : decode cX8_move 19 = .ok (.iload 6, 2) := by decide +kernel
theorem dX8_move_21 : decode cX8_move 21 = .ok (.invokevirtual 78, 3) := by decide +kernel
theorem dX8_move_24 : decode cX8_move 24 = .ok (.ireturn, 1) := by decide +kernel
theorem dX8_move_25 : decode cX8_move 25 = .ok (.iconst 0, 1) := by decide +kernel
theorem dX8_move_26 : decode cX8_move 26 = .ok (.istore 7, 2) := by decide +kernel
theorem dX8_move_28 : decode cX8_move 28 = .ok (.iload 7, 2) := by decide +kernel
theorem dX8_move_30 : decode cX8_move 30 = .ok (.iload 5, 2) := by decide +kernel
theorem dX8_move_32 : decode cX8_move 32 = .ok (.if_icmp .ge 58, 3) := by decide +kernel
theorem dX8_move_35 : decode cX8_move 35 = .ok (.iload_n 2, 1) := by decide +kernel
theorem dX8_move_36 : decode cX8_move 36 = .ok (.iload 4, 2) := by decide +kernel
theorem dX8_move_38 : decode cX8_move 38 = .ok (.if_icmp .ge 13, 3) := by decide +kernel
theorem dX8_move_41 : decode cX8_move 41 = .ok (.iload 5, 2) := by decide +kernel
theorem dX8_move_43 : decode cX8_move 43 = .ok (.iconst 1, 1) := by decide +kernel
theorem dX8_move_44 : decode cX8_move 44 = .ok (.isub, 1) := by decide +kernel
theorem dX8_move_45 : decode cX8_move 45 = .ok (.iload 7, 2) := by decide +kernel
theorem dX8_move_47 : decode cX8_move 47 = .ok (.isub, 1) := by decide +kernel
theorem dX8_move_48 : decode cX8_move 48 = .ok (.goto 5, 3) := by decide +kernel
theorem dX8_move_51 : decode cX8_move 51 = .ok (.iload 7, 2) := by decide +kernel
theorem dX8_move_53 : decode cX8_move 53 = .ok (.istore 8, 2) := by decide +kernel
theorem dX8_move_55 : decode cX8_move 55 = .ok (.aload_n 0, 1) := by decide +kernel
theorem dX8_move_56 : decode cX8_move 56 = .ok (.getfield 25, 3) := by decide +kernel
theorem dX8_move_59 : decode cX8_move 59 = .ok (.bipush 24, 2) := by decide +kernel
theorem dX8_move_61 : decode cX8_move 61 = .ok (.iload_n 3, 1) := by decide +kernel
theorem dX8_move_62 : decode cX8_move 62 = .ok (.imul, 1) := by decide +kernel
theorem dX8_move_63 : decode cX8_move 63 = .ok (.iload 4, 2) := by decide +kernel
theorem dX8_move_65 : decode cX8_move 65 = .ok (.iadd, 1) := by decide +kernel
theorem dX8_move_66 : decode cX8_move 66 = .ok (.iload 8, 2) := by decide +kernel
theorem dX8_move_68 : decode cX8_move 68 = .ok (.iadd, 1) := by decide +kernel
theorem dX8_move_69 : decode cX8_move 69 = .ok (.aload_n 0, 1) := by decide +kernel
theorem dX8_move_70 : decode cX8_move 70 = .ok (.getfield 25, 3) := by decide +kernel
theorem dX8_move_73 : decode cX8_move 73 = .ok (.bipush 24, 2) := by decide +kernel
theorem dX8_move_75 : decode cX8_move 75 = .ok (.iload_n 1, 1) := by decide +kernel
theorem dX8_move_76 : decode cX8_move 76 = .ok (.imul, 1) := by decide +kernel
theorem dX8_move_77 : decode cX8_move 77 = .ok (.iload_n 2, 1) := by decide +kernel
theorem dX8_move_78 : decode cX8_move 78 = .ok (.iadd, 1) := by decide +kernel
theorem dX8_move_79 : decode cX8_move 79 = .ok (.iload 8, 2) := by decide +kernel
theorem dX8_move_81 : decode cX8_move 81 = .ok (.iadd, 1) := by decide +kernel
theorem dX8_move_82 : decode cX8_move 82 = .ok (.iaload, 1) := by decide +kernel
theorem dX8_move_83 : decode cX8_move 83 = .ok (.iastore, 1) := by decide +kernel
theorem dX8_move_84 : decode cX8_move 84 = .ok (.iinc 7 1, 3) := by decide +kernel
theorem dX8_move_87 : decode cX8_move 87 = .ok (.goto (-59), 3) := by decide +kernel
theorem dX8_move_90 : decode cX8_move 90 = .ok (.iload 5, 2) := by decide +kernel
theorem dX8_move_92 : decode cX8_move 92 = .ok (.ireturn, 1) := by decide +kernel
theorem dX8_weightsBy_0 : decode cX8_weightsBy 0 = .ok (.aload_n 0, 1) := by decide +kernel
theorem dX8_weightsBy_1 : decode cX8_weightsBy 1 = .ok (.iload_n 1, 1) := by decide +kernel
theorem dX8_weightsBy_2 : decode cX8_weightsBy 2 = .ok (.invokevirtual 256, 3) := by decide +kernel
theorem dX8_weightsBy_5 : decode cX8_weightsBy 5 = .ok (.istore_n 2, 1) := by decide +kernel
theorem dX8_weightsBy_6 : decode cX8_weightsBy 6 = .ok (.iload_n 2, 1) := by decide +kernel
theorem dX8_weightsBy_7 : decode cX8_weightsBy 7 = .ok (.ifCond .eq 9, 3) := by decide +kernel
theorem dX8_weightsBy_10 : decode cX8_weightsBy 10 = .ok (.aload_n 0, 1) := by decide +kernel
theorem dX8_weightsBy_11 : decode cX8_weightsBy 11 = .ok (.iload_n 2, 1) := by decide +kernel
theorem dX8_weightsBy_12 : decode cX8_weightsBy 12 = .ok (.invokevirtual 78, 3) := by decide +kernel
theorem dX8_weightsBy_15 : decode cX8_weightsBy 15 = .ok (.ireturn, 1) := by decide +kernel
theorem dX8_weightsBy_16 : decode cX8_weightsBy 16 = .ok (.iconst 0, 1) := by decide +kernel
theorem dX8_weightsBy_17 : decode cX8_weightsBy 17 = .ok (.istore_n 3, 1) := by decide +kernel
theorem dX8_weightsBy_18 : decode cX8_weightsBy 18 = .ok (.iload_n 3, 1) := by decide +kernel
theorem dX8_weightsBy_19 : decode cX8_weightsBy 19 = .ok (.aload_n 0, 1) := by decide +kernel
theorem dX8_weightsBy_20 : decode cX8_weightsBy 20 = .ok (.getfield 22, 3) := by decide +kernel
theorem dX8_weightsBy_23 : decode cX8_weightsBy 23 = .ok (.iload_n 1, 1) := by decide +kernel
theorem dX8_weightsBy_24 : decode cX8_weightsBy 24 = .ok (.iaload, 1) := by decide +kernel
theorem dX8_weightsBy_25 : decode cX8_weightsBy 25 = .ok (.if_icmp .ge 64, 3) := by decide +kernel
theorem dX8_weightsBy_28 : decode cX8_weightsBy 28 = .ok (.iload_n 3, 1) := by decide +kernel
theorem dX8_weightsBy_29 : decode cX8_weightsBy 29 = .ok (.aload_n 0, 1) := by decide +kernel
theorem dX8_weightsBy_30 : decode cX8_weightsBy 30 = .ok (.getfield 9, 3) := by decide +kernel
theorem dX8_weightsBy_33 : decode cX8_weightsBy 33 = .ok (.bipush 7, 2) := by decide +kernel
theorem dX8_weightsBy_35 : decode cX8_weightsBy 35 = .ok (.iaload, 1) := by decide +kernel
theorem dX8_weightsBy_36 : decode cX8_weightsBy 36 = .ok (.if_icmp .ge 53, 3) := by decide +kernel
theorem dX8_weightsBy_39 : decode cX8_weightsBy 39 = .ok (.aload_n 0, 1) := by decide +kernel
theorem dX8_weightsBy_40 : decode cX8_weightsBy 40 = .ok (.getfield 25, 3) := by decide +kernel
theorem dX8_weightsBy_43 : decode cX8_weightsBy 43 = .ok (.bipush 24, 2) := by decide +kernel
theorem dX8_weightsBy_45 : decode cX8_weightsBy 45 = .ok (.iload_n 1, 1) := by decide +kernel
theorem dX8_weightsBy_46 : decode cX8_weightsBy 46 = .ok (.imul, 1) := by decide +kernel
theorem dX8_weightsBy_47 : decode cX8_weightsBy 47 = .ok (.iload_n 3, 1) := by decide +kernel
theorem dX8_weightsBy_48 : decode cX8_weightsBy 48 = .ok (.iadd, 1) := by decide +kernel
theorem dX8_weightsBy_49 : decode cX8_weightsBy 49 = .ok (.iaload, 1) := by decide +kernel
theorem dX8_weightsBy_50 : decode cX8_weightsBy 50 = .ok (.iconst 0, 1) := by decide +kernel
theorem dX8_weightsBy_51 : decode cX8_weightsBy 51 = .ok (.bipush 9, 2) := by decide +kernel
theorem dX8_weightsBy_53 : decode cX8_weightsBy 53 = .ok (.invokestatic 44, 3) := by decide +kernel
theorem dX8_weightsBy_56 : decode cX8_weightsBy 56 = .ok (.ifCond .eq 33, 3) := by decide +kernel
theorem dX8_weightsBy_59 : decode cX8_weightsBy 59 = .ok (.aload_n 0, 1) := by decide +kernel
theorem dX8_weightsBy_60 : decode cX8_weightsBy 60 = .ok (.getfield 9, 3) := by decide +kernel
theorem dX8_weightsBy_63 : decode cX8_weightsBy 63 = .ok (.bipush 11, 2) := by decide +kernel
theorem dX8_weightsBy_65 : decode cX8_weightsBy 65 = .ok (.iconst 4, 1) := by decide +kernel
theorem dX8_weightsBy_66 : decode cX8_weightsBy 66 = .ok (.iload_n 3, 1) := by decide +kernel
theorem dX8_weightsBy_67 : decode cX8_weightsBy 67 = .ok (.imul, 1) := by decide +kernel
theorem dX8_weightsBy_68 : decode cX8_weightsBy 68 = .ok (.iadd, 1) := by decide +kernel
theorem dX8_weightsBy_69 : decode cX8_weightsBy 69 = .ok (.iconst 2, 1) := by decide +kernel
theorem dX8_weightsBy_70 : decode cX8_weightsBy 70 = .ok (.iadd, 1) := by decide +kernel
theorem dX8_weightsBy_71 : decode cX8_weightsBy 71 = .ok (.aload_n 0, 1) := by decide +kernel
theorem dX8_weightsBy_72 : decode cX8_weightsBy 72 = .ok (.getfield 25, 3) := by decide +kernel
theorem dX8_weightsBy_75 : decode cX8_weightsBy 75 = .ok (.bipush 24, 2) := by decide +kernel
theorem dX8_weightsBy_77 : decode cX8_weightsBy 77 = .ok (.iload_n 1, 1) := by decide +kernel
theorem dX8_weightsBy_78 : decode cX8_weightsBy 78 = .ok (.imul, 1) := by decide +kernel
theorem dX8_weightsBy_79 : decode cX8_weightsBy 79 = .ok (.iload_n 3, 1) := by decide +kernel
theorem dX8_weightsBy_80 : decode cX8_weightsBy 80 = .ok (.iadd, 1) := by decide +kernel
theorem dX8_weightsBy_81 : decode cX8_weightsBy 81 = .ok (.iaload, 1) := by decide +kernel
theorem dX8_weightsBy_82 : decode cX8_weightsBy 82 = .ok (.iastore, 1) := by decide +kernel
theorem dX8_weightsBy_83 : decode cX8_weightsBy 83 = .ok (.iinc 3 1, 3) := by decide +kernel
theorem dX8_weightsBy_86 : decode cX8_weightsBy 86 = .ok (.goto (-68), 3) := by decide +kernel
theorem dX8_weightsBy_89 : decode cX8_weightsBy 89 = .ok (.iload_n 3, 1) := by decide +kernel
theorem dX8_weightsBy_90 : decode cX8_weightsBy 90 = .ok (.ireturn, 1) := by decide +kernel
theorem dX8_judge_0 : decode cX8_judge 0 = .ok (.aload_n 0, 1) := by decide +kernel
theorem dX8_judge_1 : decode cX8_judge 1 = .ok (.iload_n 1, 1) := by decide +kernel
theorem dX8_judge_2 : decode cX8_judge 2 = .ok (.invokevirtual 256, 3) := by decide +kernel
theorem dX8_judge_5 : decode cX8_judge 5 = .ok (.istore_n 2, 1) := by decide +kernel
theorem dX8_judge_6 : decode cX8_judge 6 = .ok (.iload_n 2, 1) := by decide +kernel
theorem dX8_judge_7 : decode cX8_judge 7 = .ok (.ifCond .eq 9, 3) := by decide +kernel
theorem dX8_judge_10 : decode cX8_judge 10 = .ok (.aload_n 0, 1) := by decide +kernel
theorem dX8_judge_11 : decode cX8_judge 11 = .ok (.iload_n 2, 1) := by decide +kernel
theorem dX8_judge_12 : decode cX8_judge 12 = .ok (.invokevirtual 78, 3) := by decide +kernel
theorem dX8_judge_15 : decode cX8_judge 15 = .ok (.ireturn, 1) := by decide +kernel
theorem dX8_judge_16 : decode cX8_judge 16 = .ok (.iconst 0, 1) := by decide +kernel
theorem dX8_judge_17 : decode cX8_judge 17 = .ok (.istore_n 3, 1) := by decide +kernel
theorem dX8_judge_18 : decode cX8_judge 18 = .ok (.iload_n 3, 1) := by decide +kernel
theorem dX8_judge_19 : decode cX8_judge 19 = .ok (.aload_n 0, 1) := by decide +kernel
theorem dX8_judge_20 : decode cX8_judge 20 = .ok (.getfield 22, 3) := by decide +kernel
theorem dX8_judge_23 : decode cX8_judge 23 = .ok (.iload_n 1, 1) := by decide +kernel
theorem dX8_judge_24 : decode cX8_judge 24 = .ok (.iaload, 1) := by decide +kernel
theorem dX8_judge_25 : decode cX8_judge 25 = .ok (.if_icmp .ge 39, 3) := by decide +kernel
theorem dX8_judge_28 : decode cX8_judge 28 = .ok (.iload_n 3, 1) := by decide +kernel
theorem dX8_judge_29 : decode cX8_judge 29 = .ok (.aload_n 0, 1) := by decide +kernel
theorem dX8_judge_30 : decode cX8_judge 30 = .ok (.getfield 9, 3) := by decide +kernel
theorem dX8_judge_33 : decode cX8_judge 33 = .ok (.bipush 7, 2) := by decide +kernel
theorem dX8_judge_35 : decode cX8_judge 35 = .ok (.iaload, 1) := by decide +kernel
theorem dX8_judge_36 : decode cX8_judge 36 = .ok (.if_icmp .ge 28, 3) := by decide +kernel
theorem dX8_judge_39 : decode cX8_judge 39 = .ok (.aload_n 0, 1) := by decide +kernel
theorem dX8_judge_40 : decode cX8_judge 40 = .ok (.getfield 25, 3) := by decide +kernel
theorem dX8_judge_43 : decode cX8_judge 43 = .ok (.bipush 24, 2) := by decide +kernel
theorem dX8_judge_45 : decode cX8_judge 45 = .ok (.iload_n 1, 1) := by decide +kernel
theorem dX8_judge_46 : decode cX8_judge 46 = .ok (.imul, 1) := by decide +kernel
theorem dX8_judge_47 : decode cX8_judge 47 = .ok (.iload_n 3, 1) := by decide +kernel
theorem dX8_judge_48 : decode cX8_judge 48 = .ok (.iadd, 1) := by decide +kernel
theorem dX8_judge_49 : decode cX8_judge 49 = .ok (.iaload, 1) := by decide +kernel
theorem dX8_judge_50 : decode cX8_judge 50 = .ok (.aload_n 0, 1) := by decide +kernel
theorem dX8_judge_51 : decode cX8_judge 51 = .ok (.iload_n 3, 1) := by decide +kernel
theorem dX8_judge_52 : decode cX8_judge 52 = .ok (.invokevirtual 63, 3) := by decide +kernel
theorem dX8_judge_55 : decode cX8_judge 55 = .ok (.if_icmp .ne 9, 3) := by decide +kernel
theorem dX8_judge_58 : decode cX8_judge 58 = .ok (.iinc 3 1, 3) := by decide +kernel
theorem dX8_judge_61 : decode cX8_judge 61 = .ok (.goto (-43), 3) := by decide +kernel
theorem dX8_judge_64 : decode cX8_judge 64 = .ok (.iload_n 3, 1) := by decide +kernel
theorem dX8_judge_65 : decode cX8_judge 65 = .ok (.ireturn, 1) := by decide +kernel
theorem dX8_image_0 : decode cX8_image 0 = .ok (.aload_n 0, 1) := by decide +kernel
theorem dX8_image_1 : decode cX8_image 1 = .ok (.getfield 9, 3) := by decide +kernel
theorem dX8_image_4 : decode cX8_image 4 = .ok (.aload_n 0, 1) := by decide +kernel
theorem dX8_image_5 : decode cX8_image 5 = .ok (.getfield 13, 3) := by decide +kernel
theorem dX8_image_8 : decode cX8_image 8 = .ok (.invokestatic 263, 3) := by decide +kernel
theorem dX8_image_11 : decode cX8_image 11 = .ok (.aload_n 0, 1) := by decide +kernel
theorem dX8_image_12 : decode cX8_image 12 = .ok (.dup, 1) := by decide +kernel
theorem dX8_image_13 : decode cX8_image 13 = .ok (.getfield 267, 3) := by decide +kernel
theorem dX8_image_16 : decode cX8_image 16 = .ok (.iconst 1, 1) := by decide +kernel
theorem dX8_image_17 : decode cX8_image 17 = .ok (.iadd, 1) := by decide +kernel
theorem dX8_image_18 : decode cX8_image 18 = .ok (.putfield 267, 3) := by decide +kernel
theorem dX8_image_21 : decode cX8_image 21 = .ok (.aload_n 0, 1) := by decide +kernel
theorem dX8_image_22 : decode cX8_image 22 = .ok (.getfield 267, 3) := by decide +kernel
theorem dX8_image_25 : decode cX8_image 25 = .ok (.ireturn, 1) := by decide +kernel
theorem dX8_restore_0 : decode cX8_restore 0 = .ok (.aload_n 0, 1) := by decide +kernel
theorem dX8_restore_1 : decode cX8_restore 1 = .ok (.getfield 267, 3) := by decide +kernel
theorem dX8_restore_4 : decode cX8_restore 4 = .ok (.ifCond .ne 10, 3) := by decide +kernel
theorem dX8_restore_7 : decode cX8_restore 7 = .ok (.aload_n 0, 1) := by decide +kernel
theorem dX8_restore_8 : decode cX8_restore 8 = .ok (.ldc 185, 2) := by decide +kernel
theorem dX8_restore_10 : decode cX8_restore 10 = .ok (.invokevirtual 78, 3) := by decide +kernel
theorem dX8_restore_13 : decode cX8_restore 13 = .ok (.ireturn, 1) := by decide +kernel
theorem dX8_restore_14 : decode cX8_restore 14 = .ok (.aload_n 0, 1) := by decide +kernel
theorem dX8_restore_15 : decode cX8_restore 15 = .ok (.getfield 13, 3) := by decide +kernel
theorem dX8_restore_18 : decode cX8_restore 18 = .ok (.aload_n 0, 1) := by decide +kernel
theorem dX8_restore_19 : decode cX8_restore 19 = .ok (.getfield 9, 3) := by decide +kernel
theorem dX8_restore_22 : decode cX8_restore 22 = .ok (.invokestatic 263, 3) := by decide +kernel
theorem dX8_restore_25 : decode cX8_restore 25 = .ok (.aload_n 0, 1) := by decide +kernel
theorem dX8_restore_26 : decode cX8_restore 26 = .ok (.getfield 9, 3) := by decide +kernel
theorem dX8_restore_29 : decode cX8_restore 29 = .ok (.iconst 4, 1) := by decide +kernel
theorem dX8_restore_30 : decode cX8_restore 30 = .ok (.iaload, 1) := by decide +kernel
theorem dX8_restore_31 : decode cX8_restore 31 = .ok (.ireturn, 1) := by decide +kernel
theorem dX8_tell_0 : decode cX8_tell 0 = .ok (.aload_n 0, 1) := by decide +kernel
theorem dX8_tell_1 : decode cX8_tell 1 = .ok (.getfield 9, 3) := by decide +kernel
theorem dX8_tell_4 : decode cX8_tell 4 = .ok (.bipush 10, 2) := by decide +kernel
theorem dX8_tell_6 : decode cX8_tell 6 = .ok (.iaload, 1) := by decide +kernel
theorem dX8_tell_7 : decode cX8_tell 7 = .ok (.bipush 24, 2) := by decide +kernel
theorem dX8_tell_9 : decode cX8_tell 9 = .ok (.if_icmp .ne 10, 3) := by decide +kernel
theorem dX8_tell_12 : decode cX8_tell 12 = .ok (.aload_n 0, 1) := by decide +kernel
theorem dX8_tell_13 : decode cX8_tell 13 = .ok (.ldc 81, 2) := by decide +kernel
theorem dX8_tell_15 : decode cX8_tell 15 = .ok (.invokevirtual 78, 3) := by decide +kernel
theorem dX8_tell_18 : decode cX8_tell 18 = .ok (.ireturn, 1) := by decide +kernel
theorem dX8_tell_19 : decode cX8_tell 19 = .ok (.aload_n 0, 1) := by decide +kernel
theorem dX8_tell_20 : decode cX8_tell 20 = .ok (.getfield 9, 3) := by decide +kernel
theorem dX8_tell_23 : decode cX8_tell 23 = .ok (.bipush 120, 2) := by decide +kernel
theorem dX8_tell_25 : decode cX8_tell 25 = .ok (.aload_n 0, 1) := by decide +kernel
theorem dX8_tell_26 : decode cX8_tell 26 = .ok (.getfield 9, 3) := by decide +kernel
theorem dX8_tell_29 : decode cX8_tell 29 = .ok (.bipush 10, 2) := by decide +kernel
theorem dX8_tell_31 : decode cX8_tell 31 = .ok (.iaload, 1) := by decide +kernel
theorem dX8_tell_32 : decode cX8_tell 32 = .ok (.iadd, 1) := by decide +kernel
theorem dX8_tell_33 : decode cX8_tell 33 = .ok (.iload_n 1, 1) := by decide +kernel
theorem dX8_tell_34 : decode cX8_tell 34 = .ok (.iastore, 1) := by decide +kernel
theorem dX8_tell_35 : decode cX8_tell 35 = .ok (.aload_n 0, 1) := by decide +kernel
theorem dX8_tell_36 : decode cX8_tell 36 = .ok (.getfield 9, 3) := by decide +kernel
theorem dX8_tell_39 : decode cX8_tell 39 = .ok (.bipush 10, 2) := by decide +kernel
theorem dX8_tell_41 : decode cX8_tell 41 = .ok (.dup2, 1) := by decide +kernel
theorem dX8_tell_42 : decode cX8_tell 42 = .ok (.iaload, 1) := by decide +kernel
theorem dX8_tell_43 : decode cX8_tell 43 = .ok (.iconst 1, 1) := by decide +kernel
theorem dX8_tell_44 : decode cX8_tell 44 = .ok (.iadd, 1) := by decide +kernel
theorem dX8_tell_45 : decode cX8_tell 45 = .ok (.iastore, 1) := by decide +kernel
theorem dX8_tell_46 : decode cX8_tell 46 = .ok (.aload_n 0, 1) := by decide +kernel
theorem dX8_tell_47 : decode cX8_tell 47 = .ok (.getfield 9, 3) := by decide +kernel
theorem dX8_tell_50 : decode cX8_tell 50 = .ok (.bipush 10, 2) := by decide +kernel
theorem dX8_tell_52 : decode cX8_tell 52 = .ok (.iaload, 1) := by decide +kernel
theorem dX8_tell_53 : decode cX8_tell 53 = .ok (.ireturn, 1) := by decide +kernel
theorem dX8_check_0 : decode cX8_check 0 = .ok (.aload_n 0, 1) := by decide +kernel
theorem dX8_check_1 : decode cX8_check 1 = .ok (.getfield 9, 3) := by decide +kernel
theorem dX8_check_4 : decode cX8_check 4 = .ok (.bipush 10, 2) := by decide +kernel
theorem dX8_check_6 : decode cX8_check 6 = .ok (.iaload, 1) := by decide +kernel
theorem dX8_check_7 : decode cX8_check 7 = .ok (.istore_n 1, 1) := by decide +kernel
theorem dX8_check_8 : decode cX8_check 8 = .ok (.aload_n 0, 1) := by decide +kernel
theorem dX8_check_9 : decode cX8_check 9 = .ok (.getfield 9, 3) := by decide +kernel
theorem dX8_check_12 : decode cX8_check 12 = .ok (.bipush 10, 2) := by decide +kernel
theorem dX8_check_14 : decode cX8_check 14 = .ok (.iconst 0, 1) := by decide +kernel
theorem dX8_check_15 : decode cX8_check 15 = .ok (.iastore, 1) := by decide +kernel
theorem dX8_check_16 : decode cX8_check 16 = .ok (.iconst 0, 1) := by decide +kernel
theorem dX8_check_17 : decode cX8_check 17 = .ok (.istore_n 2, 1) := by decide +kernel
theorem dX8_check_18 : decode cX8_check 18 = .ok (.iload_n 2, 1) := by decide +kernel
theorem dX8_check_19 : decode cX8_check 19 = .ok (.iload_n 1, 1) := by decide +kernel
theorem dX8_check_20 : decode cX8_check 20 = .ok (.if_icmp .ge 39, 3) := by decide +kernel
theorem dX8_check_23 : decode cX8_check 23 = .ok (.aload_n 0, 1) := by decide +kernel
theorem dX8_check_24 : decode cX8_check 24 = .ok (.iload_n 2, 1) := by decide +kernel
theorem dX8_check_25 : decode cX8_check 25 = .ok (.invokevirtual 96, 3) := by decide +kernel
theorem dX8_check_28 : decode cX8_check 28 = .ok (.ifCond .eq 21, 3) := by decide +kernel
theorem dX8_check_31 : decode cX8_check 31 = .ok (.aload_n 0, 1) := by decide +kernel
theorem dX8_check_32 : decode cX8_check 32 = .ok (.getfield 9, 3) := by decide +kernel
theorem dX8_check_35 : decode cX8_check 35 = .ok (.bipush 120, 2) := by decide +kernel
theorem dX8_check_37 : decode cX8_check 37 = .ok (.iload_n 2, 1) := by decide +kernel
theorem dX8_check_38 : decode cX8_check 38 = .ok (.iadd, 1) := by decide +kernel
theorem dX8_check_39 : decode cX8_check 39 = .ok (.iaload, 1) := by decide +kernel
theorem dX8_check_40 : decode cX8_check 40 = .ok (.aload_n 0, 1) := by decide +kernel
theorem dX8_check_41 : decode cX8_check 41 = .ok (.iload_n 2, 1) := by decide +kernel
theorem dX8_check_42 : decode cX8_check 42 = .ok (.iconst 2, 1) := by decide +kernel
theorem dX8_check_43 : decode cX8_check 43 = .ok (.invokevirtual 60, 3) := by decide +kernel
theorem dX8_check_46 : decode cX8_check 46 = .ok (.if_icmp .eq 7, 3) := by decide +kernel
theorem dX8_check_49 : decode cX8_check 49 = .ok (.iconst 1, 1) := by decide +kernel
theorem dX8_check_50 : decode cX8_check 50 = .ok (.iload_n 2, 1) := by decide +kernel
theorem dX8_check_51 : decode cX8_check 51 = .ok (.iadd, 1) := by decide +kernel
theorem dX8_check_52 : decode cX8_check 52 = .ok (.ireturn, 1) := by decide +kernel
theorem dX8_check_53 : decode cX8_check 53 = .ok (.iinc 2 1, 3) := by decide +kernel
theorem dX8_check_56 : decode cX8_check 56 = .ok (.goto (-38), 3) := by decide +kernel
theorem dX8_check_59 : decode cX8_check 59 = .ok (.iconst 0, 1) := by decide +kernel
theorem dX8_check_60 : decode cX8_check 60 = .ok (.ireturn, 1) := by decide +kernel
theorem dX8_count_0 : decode cX8_count 0 = .ok (.iload_n 1, 1) := by decide +kernel
theorem dX8_count_1 : decode cX8_count 1 = .ok (.tableswitch 130 0 11 #[63, 71, 79, 79, 79, 90, 90, 90, 101, 109, 117, 122], 63) := by decide +kernel
theorem dX8_count_64 : decode cX8_count 64 = .ok (.aload_n 0, 1) := by decide +kernel
theorem dX8_count_65 : decode cX8_count 65 = .ok (.getfield 9, 3) := by decide +kernel
theorem dX8_count_68 : decode cX8_count 68 = .ok (.bipush 7, 2) := by decide +kernel
theorem dX8_count_70 : decode cX8_count 70 = .ok (.iaload, 1) := by decide +kernel
theorem dX8_count_71 : decode cX8_count 71 = .ok (.ireturn, 1) := by decide +kernel
theorem dX8_count_72 : decode cX8_count 72 = .ok (.aload_n 0, 1) := by decide +kernel
theorem dX8_count_73 : decode cX8_count 73 = .ok (.getfield 9, 3) := by decide +kernel
theorem dX8_count_76 : decode cX8_count 76 = .ok (.bipush 8, 2) := by decide +kernel
theorem dX8_count_78 : decode cX8_count 78 = .ok (.iaload, 1) := by decide +kernel
theorem dX8_count_79 : decode cX8_count 79 = .ok (.ireturn, 1) := by decide +kernel
theorem dX8_count_80 : decode cX8_count 80 = .ok (.aload_n 0, 1) := by decide +kernel
theorem dX8_count_81 : decode cX8_count 81 = .ok (.getfield 9, 3) := by decide +kernel
theorem dX8_count_84 : decode cX8_count 84 = .ok (.iconst 3, 1) := by decide +kernel
theorem dX8_count_85 : decode cX8_count 85 = .ok (.iload_n 1, 1) := by decide +kernel
theorem dX8_count_86 : decode cX8_count 86 = .ok (.iadd, 1) := by decide +kernel
theorem dX8_count_87 : decode cX8_count 87 = .ok (.iconst 2, 1) := by decide +kernel
theorem dX8_count_88 : decode cX8_count 88 = .ok (.isub, 1) := by decide +kernel
theorem dX8_count_89 : decode cX8_count 89 = .ok (.iaload, 1) := by decide +kernel
theorem dX8_count_90 : decode cX8_count 90 = .ok (.ireturn, 1) := by decide +kernel
theorem dX8_count_91 : decode cX8_count 91 = .ok (.aload_n 0, 1) := by decide +kernel
theorem dX8_count_92 : decode cX8_count 92 = .ok (.getfield 9, 3) := by decide +kernel
theorem dX8_count_95 : decode cX8_count 95 = .ok (.iconst 0, 1) := by decide +kernel
theorem dX8_count_96 : decode cX8_count 96 = .ok (.iload_n 1, 1) := by decide +kernel
theorem dX8_count_97 : decode cX8_count 97 = .ok (.iadd, 1) := by decide +kernel
theorem dX8_count_98 : decode cX8_count 98 = .ok (.iconst 5, 1) := by decide +kernel
theorem dX8_count_99 : decode cX8_count 99 = .ok (.isub, 1) := by decide +kernel
theorem dX8_count_100 : decode cX8_count 100 = .ok (.iaload, 1) := by decide +kernel
theorem dX8_count_101 : decode cX8_count 101 = .ok (.ireturn, 1) := by decide +kernel
theorem dX8_count_102 : decode cX8_count 102 = .ok (.aload_n 0, 1) := by decide +kernel
theorem dX8_count_103 : decode cX8_count 103 = .ok (.getfield 9, 3) := by decide +kernel
theorem dX8_count_106 : decode cX8_count 106 = .ok (.bipush 9, 2) := by decide +kernel
theorem dX8_count_108 : decode cX8_count 108 = .ok (.iaload, 1) := by decide +kernel
theorem dX8_count_109 : decode cX8_count 109 = .ok (.ireturn, 1) := by decide +kernel
theorem dX8_count_110 : decode cX8_count 110 = .ok (.aload_n 0, 1) := by decide +kernel
theorem dX8_count_111 : decode cX8_count 111 = .ok (.getfield 9, 3) := by decide +kernel
theorem dX8_count_114 : decode cX8_count 114 = .ok (.bipush 10, 2) := by decide +kernel
theorem dX8_count_116 : decode cX8_count 116 = .ok (.iaload, 1) := by decide +kernel
theorem dX8_count_117 : decode cX8_count 117 = .ok (.ireturn, 1) := by decide +kernel
theorem dX8_count_118 : decode cX8_count 118 = .ok (.aload_n 0, 1) := by decide +kernel
theorem dX8_count_119 : decode cX8_count 119 = .ok (.getfield 216, 3) := by decide +kernel
theorem dX8_count_122 : decode cX8_count 122 = .ok (.ireturn, 1) := by decide +kernel
theorem dX8_count_123 : decode cX8_count 123 = .ok (.aload_n 0, 1) := by decide +kernel
theorem dX8_count_124 : decode cX8_count 124 = .ok (.getfield 9, 3) := by decide +kernel
theorem dX8_count_127 : decode cX8_count 127 = .ok (.bipush 6, 2) := by decide +kernel
theorem dX8_count_129 : decode cX8_count 129 = .ok (.iaload, 1) := by decide +kernel
theorem dX8_count_130 : decode cX8_count 130 = .ok (.ireturn, 1) := by decide +kernel
theorem dX8_count_131 : decode cX8_count 131 = .ok (.aload_n 0, 1) := by decide +kernel
theorem dX8_count_132 : decode cX8_count 132 = .ok (.ldc 77, 2) := by decide +kernel
theorem dX8_count_134 : decode cX8_count 134 = .ok (.invokevirtual 78, 3) := by decide +kernel
theorem dX8_count_137 : decode cX8_count 137 = .ok (.ireturn, 1) := by decide +kernel
theorem dX8_told_0 : decode cX8_told 0 = .ok (.iload_n 1, 1) := by decide +kernel
theorem dX8_told_1 : decode cX8_told 1 = .ok (.iconst 1, 1) := by decide +kernel
theorem dX8_told_2 : decode cX8_told 2 = .ok (.bipush 6, 2) := by decide +kernel
theorem dX8_told_4 : decode cX8_told 4 = .ok (.invokestatic 44, 3) := by decide +kernel
theorem dX8_told_7 : decode cX8_told 7 = .ok (.ifCond .eq 12, 3) := by decide +kernel
theorem dX8_told_10 : decode cX8_told 10 = .ok (.aload_n 0, 1) := by decide +kernel
theorem dX8_told_11 : decode cX8_told 11 = .ok (.getfield 16, 3) := by decide +kernel
theorem dX8_told_14 : decode cX8_told 14 = .ok (.iload_n 1, 1) := by decide +kernel
theorem dX8_told_15 : decode cX8_told 15 = .ok (.iaload, 1) := by decide +kernel
theorem dX8_told_16 : decode cX8_told 16 = .ok (.goto 9, 3) := by decide +kernel
theorem dX8_told_19 : decode cX8_told 19 = .ok (.aload_n 0, 1) := by decide +kernel
theorem dX8_told_20 : decode cX8_told 20 = .ok (.ldc 77, 2) := by decide +kernel
theorem dX8_told_22 : decode cX8_told 22 = .ok (.invokevirtual 78, 3) := by decide +kernel
theorem dX8_told_25 : decode cX8_told 25 = .ok (.ireturn, 1) := by decide +kernel
end
section
/-! memory: a row of numbers for each cell; the world: all cells of both systems, as one function of the memory -/
abbrev Mem : Type := Nat → Nat → Int32
abbrev Res : Type := Option (Int32 × Mem)
def mrow (σ : Mem) (k : Nat) (f : Nat → Int32) : Mem := fun q => if q = k then f else σ q
def mset (σ : Mem) (k j : Nat) (v : Int32) : Mem := mrow σ k (upd (σ k) j v)
abbrev Shp : Type := (Nat × List (Option Nat)) ⊕ (Bool × Nat)
def flv (ad : Nat → Nat) (f : Nat → Int32) : Nat → List (Option Nat) → List Value
  | _, [] => []
  | j, some r :: t => .ref (ad r) :: flv ad f (j + 1) t
  | j, none :: t => .int (f j) :: flv ad f (j + 1) t
def cont (cI cB : ClassId) (ad : Nat → Nat) (f : Nat → Int32) : Shp → va_E
  | .inl o => .inr (o.1, flv ad f 0 o.2)
  | .inr a => .inl (if a.1 = true then cB else cI, a.2, .inl f)
def shp : List Shp := [.inl (7, [some 1, some 21, some 41, some 46, some 50, some 52, none]), .inl (3, [some 2, some 7, some 13, some 16, some 19, none, some 20, none, none, none, none, none, none, none, none]), .inl (0, [some 3, some 4, some 5, some 6, none]), .inr (false, 6), .inr (false, 6), .inr (false, 6), .inr (false, 6), .inl (2, [some 8, some 9, some 10, some 11, some 12, none]), .inr (false, 5), .inr (false, 5), .inr (false, 5), .inr (false, 5), .inr (false, 5), .inl (5, [some 14, some 15, none, none]), .inr (false, 60), .inr (false, 60), .inl (5, [some 17, some 18, none, none]), .inr (false, 60), .inr (false, 60), .inr (true, 60), .inr (false, 24), .inl (3, [some 22, some 27, some 33, some 36, some 39, none, some 40, none, none, none, none, none, none, none, none]), .inl (0, [some 23, some 24, some 25, some 26, none]), .inr (false, 6), .inr (false, 6), .inr (false, 6), .inr (false, 6), .inl (2, [some 28, some 29, some 30, some 31, some 32, none]), .inr (false, 5), .inr (false, 5), .inr (false, 5), .inr (false, 5), .inr (false, 5), .inl (5, [some 34, some 35, none, none]), .inr (false, 60), .inr (false, 60), .inl (5, [some 37, some 38, none, none]), .inr (false, 60), .inr (false, 60), .inr (true, 60), .inr (false, 24), .inl (1, [some 42, some 45, none, none, none, none, none]), .inl (5, [some 43, some 44, none, none]), .inr (false, 60), .inr (false, 60), .inr (false, 60), .inl (4, [some 47, some 48, some 49]), .inr (false, 4), .inr (false, 4), .inr (false, 96), .inl (6, [some 51, none, none, none, none, none]), .inr (false, 30), .inr (false, 7), .inl (8, [some 54, some 55, none, some 56, some 57, some 58, some 59, some 60, some 61, some 62, some 63, none, none, none, none, none, some 64, none, none]), .inr (false, 386), .inr (false, 386), .inr (false, 7), .inr (false, 4), .inr (false, 4), .inr (false, 96), .inr (false, 60), .inr (false, 60), .inr (false, 3), .inr (false, 60), .inr (false, 30)]
def Wd (cI cB : ClassId) (ad : Nat → Nat) (σ : Mem) : va_W := (List.range shp.length).map fun k => (ad k, cont cI cB ad (σ k) (shp.getD k (.inr (false, 0))))
theorem Wd_get {cI cB : ClassId} {ad : Nat → Nat} {σ : Mem} {k : Nat} {S : Shp} (h : shp[k]? = some S) : (Wd cI cB ad σ)[k]? = some (ad k, cont cI cB ad (σ k) S) := by
  have hk : k < shp.length := (List.getElem?_eq_some_iff.mp h).1
  unfold Wd
  rw [List.getElem?_map, List.getElem?_range hk]
  show some (ad k, cont cI cB ad (σ k) (shp.getD k _)) = _
  rw [List.getD_eq_getElem?_getD, h]
  rfl
theorem Wd_of {cI cB : ClassId} {ad : Nat → Nat} {σ : Mem} {k : Nat} {q : Nat × va_E} (h : (Wd cI cB ad σ)[k]? = some q) : k < shp.length ∧ q.1 = ad k := by
  unfold Wd at h
  rw [List.getElem?_map] at h
  by_cases hk : k < shp.length
  · rw [List.getElem?_range hk] at h
    cases h
    exact ⟨hk, rfl⟩
  · rw [List.getElem?_eq_none (by rw [List.length_range]; omega)] at h
    cases h
theorem Wd_row {cI cB : ClassId} {ad : Nat → Nat} {σ : Mem} {k : Nat} {S : Shp} (h : shp[k]? = some S) (f : Nat → Int32) : (Wd cI cB ad σ).set k (ad k, cont cI cB ad f S) = Wd cI cB ad (mrow σ k f) := by
  have hk : k < shp.length := (List.getElem?_eq_some_iff.mp h).1
  apply List.ext_getElem?
  intro i
  by_cases hik : k = i
  · subst hik
    rw [List.getElem?_set_self (by unfold Wd; rw [List.length_map, List.length_range]; exact hk), Wd_get h]
    simp [mrow]
  · rw [List.getElem?_set_ne hik]
    unfold Wd
    rw [List.getElem?_map, List.getElem?_map]
    by_cases hi : i < shp.length
    · rw [List.getElem?_range hi]
      have e : mrow σ k f i = σ i := if_neg (fun q => hik q.symm)
      simp only [Option.map_some, e]
    · rw [List.getElem?_eq_none (by rw [List.length_range]; omega)]
      rfl
theorem flv_ref {ad : Nat → Nat} {f : Nat → Int32} : ∀ (l : List (Option Nat)) (n j r : Nat), l[j]? = some (some r) → (flv ad f n l)[j]? = some (.ref (ad r))
  | [], n, j, r, h => by simp at h
  | o :: t, n, 0, r, h => by
    simp only [List.getElem?_cons_zero, Option.some.injEq] at h
    subst h
    rfl
  | o :: t, n, j + 1, r, h => by
    rw [List.getElem?_cons_succ] at h
    cases o <;> exact flv_ref t (n + 1) j r h
theorem flv_int {ad : Nat → Nat} {f : Nat → Int32} : ∀ (l : List (Option Nat)) (n j : Nat), l[j]? = some none → (flv ad f n l)[j]? = some (.int (f (n + j)))
  | [], n, j, h => by simp at h
  | o :: t, n, 0, h => by
    simp only [List.getElem?_cons_zero, Option.some.injEq] at h
    subst h
    rfl
  | o :: t, n, j + 1, h => by
    rw [List.getElem?_cons_succ] at h
    have e : n + (j + 1) = (n + 1) + j := by omega
    rw [e]
    cases o <;> exact flv_int t (n + 1) j h
theorem flv_up {ad : Nat → Nat} {f : Nat → Int32} {k : Nat} {v : Int32} : ∀ (l : List (Option Nat)) (m : Nat), k < m → flv ad (upd f k v) m l = flv ad f m l
  | [], m, h => rfl
  | some r :: t, m, h => by
    show Value.ref (ad r) :: flv ad (upd f k v) (m + 1) t = Value.ref (ad r) :: flv ad f (m + 1) t
    rw [flv_up t (m + 1) (by omega)]
  | none :: t, m, h => by
    show Value.int (upd f k v m) :: flv ad (upd f k v) (m + 1) t = Value.int (f m) :: flv ad f (m + 1) t
    rw [flv_up t (m + 1) (by omega), show upd f k v m = f m from if_neg (by omega)]
theorem flv_set {ad : Nat → Nat} {f : Nat → Int32} {v : Int32} : ∀ (l : List (Option Nat)) (n j : Nat), l[j]? = some none → (flv ad f n l).set j (.int v) = flv ad (upd f (n + j) v) n l
  | [], n, j, h => by simp at h
  | o :: t, n, 0, h => by
    simp only [List.getElem?_cons_zero, Option.some.injEq] at h
    subst h
    show Value.int v :: flv ad f (n + 1) t = Value.int (upd f (n + 0) v n) :: flv ad (upd f (n + 0) v) (n + 1) t
    rw [flv_up t (n + 1) (by omega), show upd f (n + 0) v n = v from if_pos (by omega)]
  | some r :: t, n, j + 1, h => by
    rw [List.getElem?_cons_succ] at h
    show Value.ref (ad r) :: (flv ad f (n + 1) t).set j (.int v) = Value.ref (ad r) :: flv ad (upd f (n + (j + 1)) v) (n + 1) t
    rw [flv_set t (n + 1) j h, show n + 1 + j = n + (j + 1) by omega]
  | none :: t, n, j + 1, h => by
    rw [List.getElem?_cons_succ] at h
    show Value.int (f n) :: (flv ad f (n + 1) t).set j (.int v) = Value.int (upd f (n + (j + 1)) v n) :: flv ad (upd f (n + (j + 1)) v) (n + 1) t
    rw [flv_set t (n + 1) j h, show n + 1 + j = n + (j + 1) by omega, show upd f (n + (j + 1)) v n = f n from if_neg (by omega)]
theorem flv_len {ad : Nat → Nat} {f : Nat → Int32} : ∀ (l : List (Option Nat)) (n : Nat), (flv ad f n l).length = l.length
  | [], n => rfl
  | some r :: t, n => by
    show (flv ad f (n + 1) t).length + 1 = t.length + 1
    rw [flv_len t (n + 1)]
  | none :: t, n => by
    show (flv ad f (n + 1) t).length + 1 = t.length + 1
    rw [flv_len t (n + 1)]
def AA (ad : Nat → Nat) : Nat → Prop := fun q => ∃ k, k < shp.length ∧ q = ad k
def Inj (ad : Nat → Nat) : Prop := ∀ i j, i < shp.length → j < shp.length → ad i = ad j → i = j
theorem Wd_D {cI cB : ClassId} {ad : Nat → Nat} {σ : Mem} {A : Nat → Prop} (hI : Inj ad) (hA : ∀ k, k < shp.length → A (ad k)) : va_D A (Wd cI cB ad σ) := by
  refine ⟨fun i j x y hi hj hxy => ?_, fun k q hk => ?_⟩
  · obtain ⟨h1, e1⟩ := Wd_of hi
    obtain ⟨h2, e2⟩ := Wd_of hj
    exact hI i j h1 h2 (by rw [← e1, ← e2]; exact hxy)
  · obtain ⟨h1, e1⟩ := Wd_of hk
    rw [e1]
    exact hA k h1
def tA (j : Nat) : Int32 := ([-1, 0, 0, 0, 1, 2, 0] : List Int32).getD j 0
def tB (j : Nat) : Int32 := ([10, 11, 12, 13, 20, 0, 0, 21, 0, 30, 0, 0, 0, 0, 40, 0, 50, 0, 51, 0, 0, 60, 0, 0, 70, 71, 0, 0] : List Int32).getD j 0
def tN (j : Nat) : Int32 := ([97, 119, 111, 115, 109, 111] : List Int32).getD j 0
/-- the static rows that nobody writes, and the links among nest mates -/
def SN (A : Nat → Prop) (st : Nat → Nat) (U : State) (H : Heap) : Prop :=
  (va_Z "OffForSecond" "ABOVE" "[I" (.ref (st 0)) A U H ∧ va_T .int (st 0) 7 (fun j => .int (tA j)) A U H) ∧
  (va_Z "OffForSecond" "BODIES" "[I" (.ref (st 1)) A U H ∧ va_T .int (st 1) 28 (fun j => .int (tB j)) A U H) ∧
  (va_Z "OffForSecond" "NAMES" "[C" (.ref (st 2)) A U H ∧ va_T .char (st 2) 6 (fun j => .int (tN j)) A U H) ∧
  va_Nw (.fieldLinkNest "OffForSecond$Reader" 66 "OffForSecond" "NAMES" "[C" "OffForSecond") U ∧ va_Nw (.fieldLinkNest "OffForSecond$Throat" 51 "OffForSecond" "BODIES" "[I" "OffForSecond") U ∧ va_Nw (.fieldLinkNest "OffForSecond$Throat" 54 "OffForSecond" "ABOVE" "[I" "OffForSecond") U
theorem SN.to {A B : Nat → Prop} {st : Nat → Nat} {u U : State} {H H1 : Heap} (hvm : u.WarmedH U.vm) (hq : ∀ a : Nat, a < H.size → ¬ A a → H1[a]? = H[a]?) (hAB : ∀ q, B q → A q) (h : SN A st u H) : SN B st U H1 := by
  obtain ⟨⟨a1, a2⟩, ⟨b1, b2⟩, ⟨c1, c2⟩, d1, d2, d3⟩ := h
  have hal := hvm.alike
  exact ⟨⟨((a1.kept hq).moved hal).narrow hAB, ((a2.kept hq).moved hal).narrow hAB⟩, ⟨((b1.kept hq).moved hal).narrow hAB, ((b2.kept hq).moved hal).narrow hAB⟩, ⟨((c1.kept hq).moved hal).narrow hAB, ((c2.kept hq).moved hal).narrow hAB⟩, d1.warmF hvm, d2.warmF hvm, d3.warmF hvm⟩
theorem SN.blind {A : Nat → Prop} {st : Nat → Nat} {U : State} {H : Heap} {g : JFrame} {mk : MethodId} {a : Array Value} (h : SN A st U H) : SN A st (U.calling g mk a) H := by
  obtain ⟨⟨a1, a2⟩, ⟨b1, b2⟩, ⟨c1, c2⟩, d1, d2, d3⟩ := h
  have hal : U.vm.Alike (U.calling g mk a).vm := Vm.Alike.refl U.vm
  exact ⟨⟨a1.moved hal, a2.moved hal⟩, ⟨b1.moved hal, b2.moved hal⟩, ⟨c1.moved hal, c2.moved hal⟩, d1.same rfl rfl, d2.same rfl rfl, d3.same rfl rfl⟩
def tys2 (cI cB : ClassId) : List (ClassId × FieldType) := [(cI, .int), (cB, .byte)]
def WP (D : va_G) (cI cB : ClassId) (ad st : Nat → Nat) (σ : Mem) (U : State) : Prop := va_P D vwCl (Wd cI cB ad σ) U.heap ∧ va_K D vwCl (tys2 cI cB) U ∧ SN (AA ad) st U U.heap
theorem WP.blind {D : va_G} {cI cB : ClassId} {ad st : Nat → Nat} {σ : Mem} {U : State} {g : JFrame} {mk : MethodId} {a : Array Value} (h : WP D cI cB ad st σ U) : WP D cI cB ad st σ (U.calling g mk a) :=
  ⟨h.1, va_K.moved (u := U) (U := U.calling g mk a) (Vm.Alike.refl U.vm) h.2.1, h.2.2.blind⟩
/-- the pure side: a name for a value; a gate; a call -/
def nm {β : Type} (e : β) (K : β → Res) : Res := K e
def gi (i : Int32) (n : Nat) (x : Res) : Res := if ¬ (i < 0 ∨ n ≤ i.toNatClampNeg) then x else none
def gz (y : Int32) (x : Res) : Res := if ¬ y = 0 then x else none
def gb (v : Int32) (x : Res) : Res := if v = 0 ∨ v = 1 then x else none
def gt (b : Bool) (x : Res) : Res := if b = true then x else none
def bd (o : Res) (K : Int32 → Mem → Res) : Res := match o with
  | none => none
  | some z => K z.1 z.2
theorem gi_some {i : Int32} {n : Nat} {x : Res} {Z : Int32 × Mem} (h : gi i n x = some Z) : vp_in i n ∧ x = some Z := by
  unfold gi at h
  split at h
  · rename_i q
    exact ⟨q, h⟩
  · cases h
theorem gz_some {y : Int32} {x : Res} {Z : Int32 × Mem} (h : gz y x = some Z) : ¬ y = 0 ∧ x = some Z := by
  unfold gz at h
  split at h
  · rename_i q
    exact ⟨q, h⟩
  · cases h
theorem gb_some {v : Int32} {x : Res} {Z : Int32 × Mem} (h : gb v x = some Z) : (v = 0 ∨ v = 1) ∧ x = some Z := by
  unfold gb at h
  split at h
  · rename_i q
    exact ⟨q, h⟩
  · cases h
theorem gt_some {b : Bool} {x : Res} {Z : Int32 × Mem} (h : gt b x = some Z) : b = true ∧ x = some Z := by
  unfold gt at h
  split at h
  · rename_i q
    exact ⟨q, h⟩
  · cases h
theorem bd_some {o : Res} {K : Int32 → Mem → Res} {Z : Int32 × Mem} (h : bd o K = some Z) : ∃ z : Int32 × Mem, o = some z ∧ K z.1 z.2 = some Z := by
  cases o with
  | none => cases h
  | some z => exact ⟨z, rfl, h⟩
/-- the room of a method that calls d deep -/
def rmd (d : Nat) : Room := { frames := d, cells := 0, slots := 0, locals := 48 * d }
/-- the contracts: any world with memory σ; it answers Z.1, the memory is Z.2 then -/
def CT (l : Launch) (y : MethodName) (b : ByteArray) (mL : Nat) (ret : Option FieldType) (d : Nat) (av : (Nat → Nat) → List Value) (σ : Mem) (Z : Int32 × Mem) : Prop :=
  ∀ (D : va_G) (cI cB : ClassId) (ad st : Nat → Nat), Inj ad → Met l y (.code y b mL ret :: ALL) (rmd d) (va_Pc (av ad) (fun U => WP D cI cB ad st σ U)) (va_Qi (fun (r : Int32) (_ : Unit) => r = Z.1) (fun _ t => WP D cI cB ad st Z.2 t) (AA ad)) 0 0 (AA ad)
def CV (l : Launch) (y : MethodName) (b : ByteArray) (mL : Nat) (d : Nat) (av : (Nat → Nat) → List Value) (σ : Mem) (Z : Int32 × Mem) : Prop :=
  ∀ (D : va_G) (cI cB : ClassId) (ad st : Nat → Nat), Inj ad → Met l y (.code y b mL none :: ALL) (rmd d) (va_Pc (av ad) (fun U => WP D cI cB ad st σ U)) (va_Qv (fun (_ : Unit) => True) (fun _ t => WP D cI cB ad st Z.2 t) (AA ad)) 0 0 (AA ad)
/-- what stays fixed through a method: the machine, the words, the tables -/
def En (p : Program) (R : Room) (s : State) (m : MethodId) (args : Array Value) (c : Code) (cc : ByteArray) (nL : Nat) (own : String) (D : va_G) (cI cB : ClassId) (ad st : Nat → Nat) (A : Nat → Prop) (cells slots : Nat) : Prop :=
  CallFix p m c cc nL s args ALL own ∧ va_K D vwCl (tys2 cI cB) s ∧ SN A st s s.heap ∧ Inj ad ∧ (∀ k, k < shp.length → A (ad k)) ∧ cells ≤ R.cells ∧ slots ≤ R.slots
def Wo (D : va_G) (cI cB : ClassId) (ad : Nat → Nat) (A : Nat → Prop) (σ : Mem) (s : State) (H : Heap) (locs : List Loc) : Prop := va_P D vwCl (Wd cI cB ad σ) H ∧ va_S A s.heap H locs
theorem ALL_in {y : MethodName} {b : ByteArray} {mL : Nat} {ret : Option FieldType} {own : String} {idx : Nat} {w : Cond} {pre : List Cond} (hp : ∀ w ∈ pre, w ∈ ALL) (hc : Cond.code y b mL ret ∈ ALL) : GoodIn ALL (pre ++ (.code y b mL ret :: ALL)) := by
  intro w hw
  have hm : w ∈ ALL := by
    rcases List.mem_append.mp hw with h | h
    · exact hp w h
    · rcases List.mem_cons.mp h with h | h
      · rw [h]; exact hc
      · exact h
  exact ⟨hm, good_of_word (List.all_eq_true.mp ALL_good w hm)⟩
end
section
/-! an instruction, a row: the machine on one side, the pure program (hf) on the other -/
section GR
variable {p : Program} {l : Launch} {e : Env} {R : Room} {s : State} {m : MethodId} {args : Array Value} {below : List Frame} {meth : Method} {c : Code} {H : Heap} {locs : List Loc} {cells slots : Nat} {Q : State → Prop} {cc : ByteArray} {pc nL : Nat} {own : String} {ls : Array Slot} {rest : List Value} {D : va_G} {cI cB : ClassId} {ad st : Nat → Nat} {A : Nat → Prop} {σ : Mem} {Z : Int32 × Mem}
theorem g_iadd (E : En p R s m args c cc nL own D cI cB ad st A cells slots) {x y : Int32} (d : decode cc pc = .ok (.iadd, 1)) {K : Int32 → Res} (hf : nm (x + y) K = some Z) (k : ∀ z : Int32, K z = some Z → W p l e R s m args below meth c H locs cells slots Q (F0 m (pc + 1) ls (.int z :: rest))) : W p l e R s m args below meth c H locs cells slots Q (F0 m pc ls (.int y :: .int x :: rest)) := lv_iadd E.1.1 E.1.2.1 d (k _ hf)
theorem g_isub (E : En p R s m args c cc nL own D cI cB ad st A cells slots) {x y : Int32} (d : decode cc pc = .ok (.isub, 1)) {K : Int32 → Res} (hf : nm (x - y) K = some Z) (k : ∀ z : Int32, K z = some Z → W p l e R s m args below meth c H locs cells slots Q (F0 m (pc + 1) ls (.int z :: rest))) : W p l e R s m args below meth c H locs cells slots Q (F0 m pc ls (.int y :: .int x :: rest)) := lv_isub E.1.1 E.1.2.1 d (k _ hf)
theorem g_imul (E : En p R s m args c cc nL own D cI cB ad st A cells slots) {x y : Int32} (d : decode cc pc = .ok (.imul, 1)) {K : Int32 → Res} (hf : nm (x * y) K = some Z) (k : ∀ z : Int32, K z = some Z → W p l e R s m args below meth c H locs cells slots Q (F0 m (pc + 1) ls (.int z :: rest))) : W p l e R s m args below meth c H locs cells slots Q (F0 m pc ls (.int y :: .int x :: rest)) := lv_imul E.1.1 E.1.2.1 d (k _ hf)
theorem g_iand (E : En p R s m args c cc nL own D cI cB ad st A cells slots) {x y : Int32} (d : decode cc pc = .ok (.iand, 1)) {K : Int32 → Res} (hf : nm (x &&& y) K = some Z) (k : ∀ z : Int32, K z = some Z → W p l e R s m args below meth c H locs cells slots Q (F0 m (pc + 1) ls (.int z :: rest))) : W p l e R s m args below meth c H locs cells slots Q (F0 m pc ls (.int y :: .int x :: rest)) := lv_iand E.1.1 E.1.2.1 d (k _ hf)
theorem g_ior (E : En p R s m args c cc nL own D cI cB ad st A cells slots) {x y : Int32} (d : decode cc pc = .ok (.ior, 1)) {K : Int32 → Res} (hf : nm (x ||| y) K = some Z) (k : ∀ z : Int32, K z = some Z → W p l e R s m args below meth c H locs cells slots Q (F0 m (pc + 1) ls (.int z :: rest))) : W p l e R s m args below meth c H locs cells slots Q (F0 m pc ls (.int y :: .int x :: rest)) := lv_ior E.1.1 E.1.2.1 d (k _ hf)
theorem g_ixor (E : En p R s m args c cc nL own D cI cB ad st A cells slots) {x y : Int32} (d : decode cc pc = .ok (.ixor, 1)) {K : Int32 → Res} (hf : nm (x ^^^ y) K = some Z) (k : ∀ z : Int32, K z = some Z → W p l e R s m args below meth c H locs cells slots Q (F0 m (pc + 1) ls (.int z :: rest))) : W p l e R s m args below meth c H locs cells slots Q (F0 m pc ls (.int y :: .int x :: rest)) := lv_ixor E.1.1 E.1.2.1 d (k _ hf)
theorem g_ishl (E : En p R s m args c cc nL own D cI cB ad st A cells slots) {x y : Int32} (d : decode cc pc = .ok (.ishl, 1)) {K : Int32 → Res} (hf : nm (x <<< (y &&& 31)) K = some Z) (k : ∀ z : Int32, K z = some Z → W p l e R s m args below meth c H locs cells slots Q (F0 m (pc + 1) ls (.int z :: rest))) : W p l e R s m args below meth c H locs cells slots Q (F0 m pc ls (.int y :: .int x :: rest)) := lv_ishl E.1.1 E.1.2.1 d (k _ hf)
theorem g_ishr (E : En p R s m args c cc nL own D cI cB ad st A cells slots) {x y : Int32} (d : decode cc pc = .ok (.ishr, 1)) {K : Int32 → Res} (hf : nm (x >>> (y &&& 31)) K = some Z) (k : ∀ z : Int32, K z = some Z → W p l e R s m args below meth c H locs cells slots Q (F0 m (pc + 1) ls (.int z :: rest))) : W p l e R s m args below meth c H locs cells slots Q (F0 m pc ls (.int y :: .int x :: rest)) := lv_ishr E.1.1 E.1.2.1 d (k _ hf)
theorem g_iushr (E : En p R s m args c cc nL own D cI cB ad st A cells slots) {x y : Int32} (d : decode cc pc = .ok (.iushr, 1)) {K : Int32 → Res} (hf : nm ((x.toUInt32 >>> (y.toUInt32 &&& Int32.toUInt32 31)).toInt32) K = some Z) (k : ∀ z : Int32, K z = some Z → W p l e R s m args below meth c H locs cells slots Q (F0 m (pc + 1) ls (.int z :: rest))) : W p l e R s m args below meth c H locs cells slots Q (F0 m pc ls (.int y :: .int x :: rest)) := lv_iushr E.1.1 E.1.2.1 d rfl (k _ hf)
theorem g_ineg (E : En p R s m args c cc nL own D cI cB ad st A cells slots) {x : Int32} (d : decode cc pc = .ok (.ineg, 1)) {K : Int32 → Res} (hf : nm (-x) K = some Z) (k : ∀ z : Int32, K z = some Z → W p l e R s m args below meth c H locs cells slots Q (F0 m (pc + 1) ls (.int z :: rest))) : W p l e R s m args below meth c H locs cells slots Q (F0 m pc ls (.int x :: rest)) := lv_ineg E.1.1 E.1.2.1 d (k _ hf)
theorem g_i2s (E : En p R s m args c cc nL own D cI cB ad st A cells slots) {x : Int32} (d : decode cc pc = .ok (.i2s, 1)) {K : Int32 → Res} (hf : nm (x.toInt16.toInt32) K = some Z) (k : ∀ z : Int32, K z = some Z → W p l e R s m args below meth c H locs cells slots Q (F0 m (pc + 1) ls (.int z :: rest))) : W p l e R s m args below meth c H locs cells slots Q (F0 m pc ls (.int x :: rest)) := lv_i2s E.1.1 E.1.2.1 d rfl (k _ hf)
theorem g_i2b (E : En p R s m args c cc nL own D cI cB ad st A cells slots) {x : Int32} (d : decode cc pc = .ok (.i2b, 1)) {K : Int32 → Res} (hf : nm (x.toInt8.toInt32) K = some Z) (k : ∀ z : Int32, K z = some Z → W p l e R s m args below meth c H locs cells slots Q (F0 m (pc + 1) ls (.int z :: rest))) : W p l e R s m args below meth c H locs cells slots Q (F0 m pc ls (.int x :: rest)) := lv_i2b E.1.1 E.1.2.1 d rfl (k _ hf)
theorem g_l2i (E : En p R s m args c cc nL own D cI cB ad st A cells slots) {x : Int64} (d : decode cc pc = .ok (.l2i, 1)) {K : Int32 → Res} (hf : nm (x.toInt32) K = some Z) (k : ∀ z : Int32, K z = some Z → W p l e R s m args below meth c H locs cells slots Q (F0 m (pc + 1) ls (.int z :: rest))) : W p l e R s m args below meth c H locs cells slots Q (F0 m pc ls (.long x :: rest)) := lv_l2i E.1.1 E.1.2.1 d rfl (k _ hf)
theorem g_i2l (E : En p R s m args c cc nL own D cI cB ad st A cells slots) {x : Int32} (d : decode cc pc = .ok (.i2l, 1)) {K : Int64 → Res} (hf : nm (x.toInt64) K = some Z) (k : ∀ z : Int64, K z = some Z → W p l e R s m args below meth c H locs cells slots Q (F0 m (pc + 1) ls (.long z :: rest))) : W p l e R s m args below meth c H locs cells slots Q (F0 m pc ls (.int x :: rest)) := lv_i2l E.1.1 E.1.2.1 d rfl (k _ hf)
theorem g_land (E : En p R s m args c cc nL own D cI cB ad st A cells slots) {x y : Int64} (d : decode cc pc = .ok (.land, 1)) {K : Int64 → Res} (hf : nm (x &&& y) K = some Z) (k : ∀ z : Int64, K z = some Z → W p l e R s m args below meth c H locs cells slots Q (F0 m (pc + 1) ls (.long z :: rest))) : W p l e R s m args below meth c H locs cells slots Q (F0 m pc ls (.long y :: .long x :: rest)) := lv_land E.1.1 E.1.2.1 d (k _ hf)
theorem g_lor (E : En p R s m args c cc nL own D cI cB ad st A cells slots) {x y : Int64} (d : decode cc pc = .ok (.lor, 1)) {K : Int64 → Res} (hf : nm (x ||| y) K = some Z) (k : ∀ z : Int64, K z = some Z → W p l e R s m args below meth c H locs cells slots Q (F0 m (pc + 1) ls (.long z :: rest))) : W p l e R s m args below meth c H locs cells slots Q (F0 m pc ls (.long y :: .long x :: rest)) := lv_lor E.1.1 E.1.2.1 d (k _ hf)
theorem g_lshl (E : En p R s m args c cc nL own D cI cB ad st A cells slots) {x : Int64} {y : Int32} (d : decode cc pc = .ok (.lshl, 1)) {K : Int64 → Res} (hf : nm (x <<< (y.toInt64 &&& 63)) K = some Z) (k : ∀ z : Int64, K z = some Z → W p l e R s m args below meth c H locs cells slots Q (F0 m (pc + 1) ls (.long z :: rest))) : W p l e R s m args below meth c H locs cells slots Q (F0 m pc ls (.int y :: .long x :: rest)) := lv_lshl E.1.1 E.1.2.1 d rfl (k _ hf)
theorem g_lshr (E : En p R s m args c cc nL own D cI cB ad st A cells slots) {x : Int64} {y : Int32} (d : decode cc pc = .ok (.lshr, 1)) {K : Int64 → Res} (hf : nm (x >>> (y.toInt64 &&& 63)) K = some Z) (k : ∀ z : Int64, K z = some Z → W p l e R s m args below meth c H locs cells slots Q (F0 m (pc + 1) ls (.long z :: rest))) : W p l e R s m args below meth c H locs cells slots Q (F0 m pc ls (.int y :: .long x :: rest)) := lv_lshr E.1.1 E.1.2.1 d rfl (k _ hf)
theorem g_lushr (E : En p R s m args c cc nL own D cI cB ad st A cells slots) {x : Int64} {y : Int32} (d : decode cc pc = .ok (.lushr, 1)) {K : Int64 → Res} (hf : nm ((x.toUInt64 >>> (y.toInt64.toUInt64 &&& Int64.toUInt64 63)).toInt64) K = some Z) (k : ∀ z : Int64, K z = some Z → W p l e R s m args below meth c H locs cells slots Q (F0 m (pc + 1) ls (.long z :: rest))) : W p l e R s m args below meth c H locs cells slots Q (F0 m pc ls (.int y :: .long x :: rest)) := lv_lushr E.1.1 E.1.2.1 d rfl (k _ hf)
theorem g_idiv (E : En p R s m args c cc nL own D cI cB ad st A cells slots) {x y : Int32} (d : decode cc pc = .ok (.idiv, 1)) {K : Int32 → Res} (hf : gz y (nm (x / y) K) = some Z) (k : ∀ z : Int32, K z = some Z → W p l e R s m args below meth c H locs cells slots Q (F0 m (pc + 1) ls (.int z :: rest))) : W p l e R s m args below meth c H locs cells slots Q (F0 m pc ls (.int y :: .int x :: rest)) := lv_idiv E.1.1 E.1.2.1 d (gz_some hf).1 (k _ (gz_some hf).2)
theorem g_irem (E : En p R s m args c cc nL own D cI cB ad st A cells slots) {x y : Int32} (d : decode cc pc = .ok (.irem, 1)) {K : Int32 → Res} (hf : gz y (nm (x - x / y * y) K) = some Z) (k : ∀ z : Int32, K z = some Z → W p l e R s m args below meth c H locs cells slots Q (F0 m (pc + 1) ls (.int z :: rest))) : W p l e R s m args below meth c H locs cells slots Q (F0 m pc ls (.int y :: .int x :: rest)) := lv_irem E.1.1 E.1.2.1 d (gz_some hf).1 (k _ (gz_some hf).2)
theorem g_if_eq (E : En p R s m args c cc nL own D cI cB ad st A cells slots) {x : Int32} {off : Int} {tgt : Nat} (d : decode cc pc = .ok (.ifCond .eq off, 3)) (ht : (pc : Int) + off = (tgt : Int)) {A1 B1 : Res} (hf : (if x = 0 then A1 else B1) = some Z) (kt : A1 = some Z → W p l e R s m args below meth c H locs cells slots Q (F0 m tgt ls rest)) (kf : B1 = some Z → W p l e R s m args below meth c H locs cells slots Q (F0 m (pc + 3) ls rest)) : W p l e R s m args below meth c H locs cells slots Q (F0 m pc ls (.int x :: rest)) := lv_if_eq E.1.1 E.1.2.1 d ht (fun h => kt (by rw [if_pos h] at hf; exact hf)) (fun h => kf (by rw [if_neg h] at hf; exact hf))
theorem g_if_ne (E : En p R s m args c cc nL own D cI cB ad st A cells slots) {x : Int32} {off : Int} {tgt : Nat} (d : decode cc pc = .ok (.ifCond .ne off, 3)) (ht : (pc : Int) + off = (tgt : Int)) {A1 B1 : Res} (hf : (if x = 0 then A1 else B1) = some Z) (kt : B1 = some Z → W p l e R s m args below meth c H locs cells slots Q (F0 m tgt ls rest)) (kf : A1 = some Z → W p l e R s m args below meth c H locs cells slots Q (F0 m (pc + 3) ls rest)) : W p l e R s m args below meth c H locs cells slots Q (F0 m pc ls (.int x :: rest)) := lv_if_ne E.1.1 E.1.2.1 d ht (fun h => kt (by rw [if_neg h] at hf; exact hf)) (fun h => kf (by rw [if_pos h] at hf; exact hf))
theorem g_if_lt (E : En p R s m args c cc nL own D cI cB ad st A cells slots) {x : Int32} {off : Int} {tgt : Nat} (d : decode cc pc = .ok (.ifCond .lt off, 3)) (ht : (pc : Int) + off = (tgt : Int)) {A1 B1 : Res} (hf : (if x < 0 then A1 else B1) = some Z) (kt : A1 = some Z → W p l e R s m args below meth c H locs cells slots Q (F0 m tgt ls rest)) (kf : B1 = some Z → W p l e R s m args below meth c H locs cells slots Q (F0 m (pc + 3) ls rest)) : W p l e R s m args below meth c H locs cells slots Q (F0 m pc ls (.int x :: rest)) := lv_if_lt E.1.1 E.1.2.1 d ht (fun h => kt (by rw [if_pos h] at hf; exact hf)) (fun h => kf (by rw [if_neg h] at hf; exact hf))
theorem g_if_ge (E : En p R s m args c cc nL own D cI cB ad st A cells slots) {x : Int32} {off : Int} {tgt : Nat} (d : decode cc pc = .ok (.ifCond .ge off, 3)) (ht : (pc : Int) + off = (tgt : Int)) {A1 B1 : Res} (hf : (if 0 ≤ x then A1 else B1) = some Z) (kt : A1 = some Z → W p l e R s m args below meth c H locs cells slots Q (F0 m tgt ls rest)) (kf : B1 = some Z → W p l e R s m args below meth c H locs cells slots Q (F0 m (pc + 3) ls rest)) : W p l e R s m args below meth c H locs cells slots Q (F0 m pc ls (.int x :: rest)) := lv_if_ge E.1.1 E.1.2.1 d ht (fun h => kt (by rw [if_pos h] at hf; exact hf)) (fun h => kf (by rw [if_neg h] at hf; exact hf))
theorem g_if_gt (E : En p R s m args c cc nL own D cI cB ad st A cells slots) {x : Int32} {off : Int} {tgt : Nat} (d : decode cc pc = .ok (.ifCond .gt off, 3)) (ht : (pc : Int) + off = (tgt : Int)) {A1 B1 : Res} (hf : (if 0 < x then A1 else B1) = some Z) (kt : A1 = some Z → W p l e R s m args below meth c H locs cells slots Q (F0 m tgt ls rest)) (kf : B1 = some Z → W p l e R s m args below meth c H locs cells slots Q (F0 m (pc + 3) ls rest)) : W p l e R s m args below meth c H locs cells slots Q (F0 m pc ls (.int x :: rest)) := lv_if_gt E.1.1 E.1.2.1 d ht (fun h => kt (by rw [if_pos h] at hf; exact hf)) (fun h => kf (by rw [if_neg h] at hf; exact hf))
theorem g_if_le (E : En p R s m args c cc nL own D cI cB ad st A cells slots) {x : Int32} {off : Int} {tgt : Nat} (d : decode cc pc = .ok (.ifCond .le off, 3)) (ht : (pc : Int) + off = (tgt : Int)) {A1 B1 : Res} (hf : (if x ≤ 0 then A1 else B1) = some Z) (kt : A1 = some Z → W p l e R s m args below meth c H locs cells slots Q (F0 m tgt ls rest)) (kf : B1 = some Z → W p l e R s m args below meth c H locs cells slots Q (F0 m (pc + 3) ls rest)) : W p l e R s m args below meth c H locs cells slots Q (F0 m pc ls (.int x :: rest)) := lv_if_le E.1.1 E.1.2.1 d ht (fun h => kt (by rw [if_pos h] at hf; exact hf)) (fun h => kf (by rw [if_neg h] at hf; exact hf))
theorem g_icmp_eq (E : En p R s m args c cc nL own D cI cB ad st A cells slots) {x y : Int32} {off : Int} {tgt : Nat} (d : decode cc pc = .ok (.if_icmp .eq off, 3)) (ht : (pc : Int) + off = (tgt : Int)) {A1 B1 : Res} (hf : (if x = y then A1 else B1) = some Z) (kt : A1 = some Z → W p l e R s m args below meth c H locs cells slots Q (F0 m tgt ls rest)) (kf : B1 = some Z → W p l e R s m args below meth c H locs cells slots Q (F0 m (pc + 3) ls rest)) : W p l e R s m args below meth c H locs cells slots Q (F0 m pc ls (.int y :: .int x :: rest)) := lv_icmp_eq E.1.1 E.1.2.1 d ht (fun h => kt (by rw [if_pos h] at hf; exact hf)) (fun h => kf (by rw [if_neg h] at hf; exact hf))
theorem g_icmp_ne (E : En p R s m args c cc nL own D cI cB ad st A cells slots) {x y : Int32} {off : Int} {tgt : Nat} (d : decode cc pc = .ok (.if_icmp .ne off, 3)) (ht : (pc : Int) + off = (tgt : Int)) {A1 B1 : Res} (hf : (if x = y then A1 else B1) = some Z) (kt : B1 = some Z → W p l e R s m args below meth c H locs cells slots Q (F0 m tgt ls rest)) (kf : A1 = some Z → W p l e R s m args below meth c H locs cells slots Q (F0 m (pc + 3) ls rest)) : W p l e R s m args below meth c H locs cells slots Q (F0 m pc ls (.int y :: .int x :: rest)) := lv_icmp_ne E.1.1 E.1.2.1 d ht (fun h => kt (by rw [if_neg h] at hf; exact hf)) (fun h => kf (by rw [if_pos h] at hf; exact hf))
theorem g_icmp_lt (E : En p R s m args c cc nL own D cI cB ad st A cells slots) {x y : Int32} {off : Int} {tgt : Nat} (d : decode cc pc = .ok (.if_icmp .lt off, 3)) (ht : (pc : Int) + off = (tgt : Int)) {A1 B1 : Res} (hf : (if x < y then A1 else B1) = some Z) (kt : A1 = some Z → W p l e R s m args below meth c H locs cells slots Q (F0 m tgt ls rest)) (kf : B1 = some Z → W p l e R s m args below meth c H locs cells slots Q (F0 m (pc + 3) ls rest)) : W p l e R s m args below meth c H locs cells slots Q (F0 m pc ls (.int y :: .int x :: rest)) := lv_icmp_lt E.1.1 E.1.2.1 d ht (fun h => kt (by rw [if_pos h] at hf; exact hf)) (fun h => kf (by rw [if_neg h] at hf; exact hf))
theorem g_icmp_ge (E : En p R s m args c cc nL own D cI cB ad st A cells slots) {x y : Int32} {off : Int} {tgt : Nat} (d : decode cc pc = .ok (.if_icmp .ge off, 3)) (ht : (pc : Int) + off = (tgt : Int)) {A1 B1 : Res} (hf : (if y ≤ x then A1 else B1) = some Z) (kt : A1 = some Z → W p l e R s m args below meth c H locs cells slots Q (F0 m tgt ls rest)) (kf : B1 = some Z → W p l e R s m args below meth c H locs cells slots Q (F0 m (pc + 3) ls rest)) : W p l e R s m args below meth c H locs cells slots Q (F0 m pc ls (.int y :: .int x :: rest)) := lv_icmp_ge E.1.1 E.1.2.1 d ht (fun h => kt (by rw [if_pos h] at hf; exact hf)) (fun h => kf (by rw [if_neg h] at hf; exact hf))
theorem g_icmp_gt (E : En p R s m args c cc nL own D cI cB ad st A cells slots) {x y : Int32} {off : Int} {tgt : Nat} (d : decode cc pc = .ok (.if_icmp .gt off, 3)) (ht : (pc : Int) + off = (tgt : Int)) {A1 B1 : Res} (hf : (if y < x then A1 else B1) = some Z) (kt : A1 = some Z → W p l e R s m args below meth c H locs cells slots Q (F0 m tgt ls rest)) (kf : B1 = some Z → W p l e R s m args below meth c H locs cells slots Q (F0 m (pc + 3) ls rest)) : W p l e R s m args below meth c H locs cells slots Q (F0 m pc ls (.int y :: .int x :: rest)) := lv_icmp_gt E.1.1 E.1.2.1 d ht (fun h => kt (by rw [if_pos h] at hf; exact hf)) (fun h => kf (by rw [if_neg h] at hf; exact hf))
theorem g_icmp_le (E : En p R s m args c cc nL own D cI cB ad st A cells slots) {x y : Int32} {off : Int} {tgt : Nat} (d : decode cc pc = .ok (.if_icmp .le off, 3)) (ht : (pc : Int) + off = (tgt : Int)) {A1 B1 : Res} (hf : (if x ≤ y then A1 else B1) = some Z) (kt : A1 = some Z → W p l e R s m args below meth c H locs cells slots Q (F0 m tgt ls rest)) (kf : B1 = some Z → W p l e R s m args below meth c H locs cells slots Q (F0 m (pc + 3) ls rest)) : W p l e R s m args below meth c H locs cells slots Q (F0 m pc ls (.int y :: .int x :: rest)) := lv_icmp_le E.1.1 E.1.2.1 d ht (fun h => kt (by rw [if_pos h] at hf; exact hf)) (fun h => kf (by rw [if_neg h] at hf; exact hf))
theorem g_iinc (E : En p R s m args c cc nL own D cI cB ad st A cells slots) {i k : Nat} {n : Int} {x t : Int32} {lv : List (Nat × Value)} (lv' : Int32 → List (Nat × Value)) (d : decode cc pc = .ok (.iinc i n, 3)) (h : lv_has ls nL lv) (hk : lv[k]? = some (i, .int x)) (ht : Int32.ofInt n = t) (hn : i < nL) (hlv : ∀ z : Int32, (i, Value.int z) :: lv.filter (fun q => !(q.1 == i) && !(q.1 + 1 == i && q.2.category == 2)) = lv' z) {K : Int32 → Res} (hf : nm (x + t) K = some Z) (kk : ∀ z : Int32, K z = some Z → ∀ ls' : Array Slot, lv_has ls' nL (lv' z) → W p l e R s m args below meth c H locs cells slots Q (F0 m (pc + 3) ls' rest)) : W p l e R s m args below meth c H locs cells slots Q (F0 m pc ls rest) :=
  lv_iinc (v := x + t) (lv' := lv' (x + t)) E.1.1 E.1.2.1 d h hk (by rw [ht]) hn (hlv _) (fun ls' h' => kk _ hf ls' h')
theorem ti_ne {x v : Int32} {n : Int} (hv : v.toInt = n) (h : ¬ x = v) : ¬ x.toInt = n := fun q => h (Int32.toInt_inj.mp (q.trans hv.symm))
theorem g_tabIn (E : En p R s m args c cc nL own D cI cB ad st A cells slots) {dflt lo hi : Int} {offs : Array Int} {len : Nat} {x : Int32} {off : Int} {tgt : Nat} (d : decode cc pc = .ok (.tableswitch dflt lo hi offs, len)) {v : Int32} {n : Int} (hx : x = v) (hv : v.toInt = n) (h1 : lo ≤ n) (h2 : n ≤ hi) (ho : offs[(n - lo).toNat]? = some off) (ht : (pc : Int) + off = (tgt : Int)) (k : W p l e R s m args below meth c H locs cells slots Q (F0 m tgt ls rest)) : W p l e R s m args below meth c H locs cells slots Q (F0 m pc ls (.int x :: rest)) := by
  subst hx
  subst hv
  exact lv_tableIn E.1.1 E.1.2.1 d (Int.not_lt.mpr h1) (Int.not_lt.mpr h2) ho ht k
theorem Wd_obj {k ci : Nat} {fl : List (Option Nat)} (h : shp[k]? = some (.inl (ci, fl))) : (Wd cI cB ad σ)[k]? = some (ad k, .inr (ci, flv ad (σ k) 0 fl)) := Wd_get h
theorem Wd_arr {k n : Nat} {b : Bool} (h : shp[k]? = some (.inr (b, n))) : (Wd cI cB ad σ)[k]? = some (ad k, .inl (if b = true then cB else cI, n, .inl (σ k))) := Wd_get h
theorem g_geti (E : En p R s m args c cc nL own D cI cB ad st A cells slots) (Y : Wo D cI cB ad A σ s H locs) (k j : Nat) {ci N : Nat} {C : String} {T : u_T} {fl : List (Option Nat)} (h1 : shp[k]? = some (.inl (ci, fl))) (h2 : fl[j]? = some none) (h3 : vwCl[ci]? = some (C, T, N)) (h4 : j < N) (hin : ∀ w ∈ u_ws C T N, w ∈ ALL) {idx : Nat} (hw : Cond.fieldLink own idx (T j).1 (T j).2.1 (T j).2.2.1 ∈ ALL) (d : decode cc pc = .ok (.getfield idx, 3)) {K : Int32 → Res} (hf : nm (σ k j) K = some Z) (kk : ∀ z : Int32, K z = some Z → W p l e R s m args below meth c H locs cells slots Q (F0 m (pc + 3) ls (.int z :: rest))) : W p l e R s m args below meth c H locs cells slots Q (F0 m pc ls (.ref (ad k) :: rest)) :=
  va_get (v := .int (σ k j)) E.1.1 E.1.2.1 E.1.2.2.2.2 hin E.1.2.2.2.1 E.2.1 Y.1 k (Wd_obj h1) h3 j h4 (E.1.2.2.2.2 _ hw) (fun _ h => h) (by rw [flv_int fl 0 j h2, Nat.zero_add]) d (kk _ hf)
theorem g_getr (E : En p R s m args c cc nL own D cI cB ad st A cells slots) (Y : Wo D cI cB ad A σ s H locs) (k j r : Nat) {ci N : Nat} {C : String} {T : u_T} {fl : List (Option Nat)} (h1 : shp[k]? = some (.inl (ci, fl))) (h2 : fl[j]? = some (some r)) (h3 : vwCl[ci]? = some (C, T, N)) (h4 : j < N) (hin : ∀ w ∈ u_ws C T N, w ∈ ALL) {idx : Nat} (hw : Cond.fieldLink own idx (T j).1 (T j).2.1 (T j).2.2.1 ∈ ALL) (d : decode cc pc = .ok (.getfield idx, 3)) (kk : W p l e R s m args below meth c H locs cells slots Q (F0 m (pc + 3) ls (.ref (ad r) :: rest))) : W p l e R s m args below meth c H locs cells slots Q (F0 m pc ls (.ref (ad k) :: rest)) :=
  va_get (v := .ref (ad r)) E.1.1 E.1.2.1 E.1.2.2.2.2 hin E.1.2.2.2.1 E.2.1 Y.1 k (Wd_obj h1) h3 j h4 (E.1.2.2.2.2 _ hw) (fun _ h => h) (flv_ref fl 0 j r h2) d kk
theorem g_put (E : En p R s m args c cc nL own D cI cB ad st A cells slots) (Y : Wo D cI cB ad A σ s H locs) (k j : Nat) {ci N : Nat} {C : String} {T : u_T} {fl : List (Option Nat)} (h1 : shp[k]? = some (.inl (ci, fl))) (h2 : fl[j]? = some none) (h3 : vwCl[ci]? = some (C, T, N)) (h4 : j < N) (hin : ∀ w ∈ u_ws C T N, w ∈ ALL) (ty0 : Nat → FieldType) (hty : ∀ k, k < N → parseFieldDescriptor (T k).2.2.1 = some (ty0 k)) (hnm : ∀ a, a < N → ∀ b, b < N → a ≠ b → (T a).2.1 ≠ (T b).2.1) {idx : Nat} (hw : Cond.fieldLink own idx (T j).1 (T j).2.1 (T j).2.2.1 ∈ ALL) (hfin : (T j).2.2.2 = false) {v : Int32} (hn : narrow (ty0 j) (.int v) = .int v) (hfit : fits (ty0 j) (.int v) = true) (d : decode cc pc = .ok (.putfield idx, 3)) {K : Mem → Res} (hf : nm (mset σ k j v) K = some Z) (kk : ∀ (σ1 : Mem) (H1 : Heap) (locs1 : List Loc), K σ1 = some Z → Wo D cI cB ad A σ1 s H1 locs1 → W p l e R s m args below meth c H1 locs1 cells slots Q (F0 m (pc + 3) ls rest)) : W p l e R s m args below meth c H locs cells slots Q (F0 m pc ls (.int v :: .ref (ad k) :: rest)) := by
  have hl : j < (flv ad (σ k) 0 fl).length := by rw [flv_len]; exact (List.getElem?_eq_some_iff.mp h2).1
  have e : (Wd cI cB ad σ).set k (ad k, .inr (ci, (flv ad (σ k) 0 fl).set j (.int v))) = Wd cI cB ad (mset σ k j v) := by
    rw [flv_set fl 0 j h2, Nat.zero_add]
    exact Wd_row h1 (upd (σ k) j v)
  exact va_put E.1.1 E.1.2.1 E.1.2.2.2.2 hin ty0 hty hnm E.1.2.2.2.1 E.2.1 Y.1 (Wd_D E.2.2.2.1 E.2.2.2.2.1) Y.2 k (Wd_obj h1) h3 j h4 (E.1.2.2.2.2 _ hw) (fun _ h => h) hfin (hty j h4) hn hfit hl d (fun H1 locs1 hP _ hS => kk _ H1 locs1 hf ⟨by rw [← e]; exact hP, hS⟩)
theorem g_iald (E : En p R s m args c cc nL own D cI cB ad st A cells slots) (Y : Wo D cI cB ad A σ s H locs) (k : Nat) {n : Nat} (h1 : shp[k]? = some (.inr (false, n))) {i : Int32} (d : decode cc pc = .ok (.iaload, 1)) {K : Int32 → Res} (hf : gi i n (nm (σ k i.toNatClampNeg) K) = some Z) (kk : ∀ z : Int32, K z = some Z → W p l e R s m args below meth c H locs cells slots Q (F0 m (pc + 1) ls (.int z :: rest))) : W p l e R s m args below meth c H locs cells slots Q (F0 m pc ls (.int i :: .ref (ad k) :: rest)) :=
  va_iald E.1.1 E.1.2.1 E.2.1 Y.1 k 0 (cA := cI) (Wd_arr h1) rfl (gi_some hf).1 d (kk _ (gi_some hf).2)
theorem g_bald (E : En p R s m args c cc nL own D cI cB ad st A cells slots) (Y : Wo D cI cB ad A σ s H locs) (k : Nat) {n : Nat} (h1 : shp[k]? = some (.inr (true, n))) {i : Int32} (d : decode cc pc = .ok (.baload, 1)) {K : Int32 → Res} (hf : gi i n (nm (σ k i.toNatClampNeg) K) = some Z) (kk : ∀ z : Int32, K z = some Z → W p l e R s m args below meth c H locs cells slots Q (F0 m (pc + 1) ls (.int z :: rest))) : W p l e R s m args below meth c H locs cells slots Q (F0 m pc ls (.int i :: .ref (ad k) :: rest)) :=
  va_bald E.1.1 E.1.2.1 E.2.1 Y.1 k 1 (cA := cB) (Wd_arr h1) rfl (gi_some hf).1 d (kk _ (gi_some hf).2)
theorem g_iast (E : En p R s m args c cc nL own D cI cB ad st A cells slots) (Y : Wo D cI cB ad A σ s H locs) (k : Nat) {n : Nat} (h1 : shp[k]? = some (.inr (false, n))) {i x : Int32} (d : decode cc pc = .ok (.iastore, 1)) {K : Mem → Res} (hf : gi i n (nm (mset σ k i.toNatClampNeg x) K) = some Z) (kk : ∀ (σ1 : Mem) (H1 : Heap) (locs1 : List Loc), K σ1 = some Z → Wo D cI cB ad A σ1 s H1 locs1 → W p l e R s m args below meth c H1 locs1 cells slots Q (F0 m (pc + 1) ls rest)) : W p l e R s m args below meth c H locs cells slots Q (F0 m pc ls (.int x :: .int i :: .ref (ad k) :: rest)) := by
  have e : (Wd cI cB ad σ).set k (ad k, .inl (cI, n, .inl (upd (σ k) i.toNatClampNeg x))) = Wd cI cB ad (mset σ k i.toNatClampNeg x) := Wd_row h1 _
  exact va_iast E.1.1 E.1.2.1 E.2.1 Y.1 (Wd_D E.2.2.2.1 E.2.2.2.2.1) Y.2 k 0 (cA := cI) (Wd_arr h1) rfl (gi_some hf).1 d (fun H1 locs1 hP _ hS => kk _ H1 locs1 (gi_some hf).2 ⟨by rw [← e]; exact hP, hS⟩)
theorem g_bast (E : En p R s m args c cc nL own D cI cB ad st A cells slots) (Y : Wo D cI cB ad A σ s H locs) (k : Nat) {n : Nat} (h1 : shp[k]? = some (.inr (true, n))) {i x : Int32} (d : decode cc pc = .ok (.bastore, 1)) {K : Mem → Res} (hf : gi i n (nm (mset σ k i.toNatClampNeg x.toInt8.toInt32) K) = some Z) (kk : ∀ (σ1 : Mem) (H1 : Heap) (locs1 : List Loc), K σ1 = some Z → Wo D cI cB ad A σ1 s H1 locs1 → W p l e R s m args below meth c H1 locs1 cells slots Q (F0 m (pc + 1) ls rest)) : W p l e R s m args below meth c H locs cells slots Q (F0 m pc ls (.int x :: .int i :: .ref (ad k) :: rest)) := by
  have e : (Wd cI cB ad σ).set k (ad k, .inl (cB, n, .inl (upd (σ k) i.toNatClampNeg (vp_nar .byte x)))) = Wd cI cB ad (mset σ k i.toNatClampNeg x.toInt8.toInt32) := Wd_row h1 _
  exact va_bast E.1.1 E.1.2.1 E.2.1 Y.1 (Wd_D E.2.2.2.1 E.2.2.2.2.1) Y.2 k 1 (cA := cB) (Wd_arr h1) rfl (gi_some hf).1 d (fun H1 locs1 hP _ hS => kk _ H1 locs1 (gi_some hf).2 ⟨by rw [← e]; exact hP, hS⟩)
theorem g_alen (E : En p R s m args c cc nL own D cI cB ad st A cells slots) (Y : Wo D cI cB ad A σ s H locs) (k : Nat) {n : Nat} {b : Bool} {ty : FieldType} (t0 : Nat) (h1 : shp[k]? = some (.inr (b, n))) (ht : (tys2 cI cB)[t0]? = some (if b = true then cB else cI, ty)) {v : Int32} (hv : Int32.ofNat n = v) (d : decode cc pc = .ok (.arraylength, 1)) (kk : W p l e R s m args below meth c H locs cells slots Q (F0 m (pc + 1) ls (.int v :: rest))) : W p l e R s m args below meth c H locs cells slots Q (F0 m pc ls (.ref (ad k) :: rest)) :=
  va_alen E.1.1 E.1.2.1 E.2.1 Y.1 k t0 (Wd_arr h1) ht hv d kk
/-- System.arraycopy between two rows -/
def okc (b : Bool) (sp dp n : Int32) (n0 n1 : Nat) (f : Nat → Int32) : Bool := decide (¬ sp < 0 ∧ ¬ dp < 0 ∧ ¬ n < 0 ∧ sp.toNatClampNeg + n.toNatClampNeg ≤ n0 ∧ dp.toNatClampNeg + n.toNatClampNeg ≤ n1) && (List.range n.toNatClampNeg).all (fun i => fits (if b = true then .byte else .int) (.int (f (sp.toNatClampNeg + i))))
theorem g_copy (E : En p R s m args c cc nL own D cI cB ad st A cells slots) (Y : Wo D cI cB ad A σ s H locs) (hl : ls.size = nL) (k0 k1 t0 : Nat) {b : Bool} {n0 n1 : Nat} (h0 : shp[k0]? = some (.inr (b, n0))) (h1 : shp[k1]? = some (.inr (b, n1))) (ht : (tys2 cI cB)[t0]? = some (if b = true then cB else cI, if b = true then .byte else .int)) {idx : Nat} (w1 : Cond.methodLink own idx arraycopyName ∈ ALL) (w2 : Cond.native arraycopyName ∈ ALL) (w3 : Cond.static arraycopyName ∈ ALL) (w4 : Cond.initialized "java/lang/System" ∈ ALL) {sp dp n : Int32} (hfr : 1 ≤ R.frames) (hlo : (rest.map fun v => v.category).sum + (nativeFrameWords "java/lang/System" "arraycopy" 5 + 11) ≤ R.locals) (d : decode cc pc = .ok (.invokestatic idx, 3)) {K : Mem → Res} (hf : gt (okc b sp dp n n0 n1 (σ k0)) (nm (mrow σ k1 (va_cpy (σ k0) (σ k1) sp.toNatClampNeg dp.toNatClampNeg n.toNatClampNeg)) K) = some Z) (kk : ∀ (σ1 : Mem) (H1 : Heap) (locs1 : List Loc), K σ1 = some Z → Wo D cI cB ad A σ1 s H1 locs1 → W p l e R s m args below meth c H1 locs1 cells slots Q (F0 m (pc + 3) ls rest)) : W p l e R s m args below meth c H locs cells slots Q (F0 m pc ls (.int n :: .int dp :: .ref (ad k1) :: .int sp :: .ref (ad k0) :: rest)) := by
  obtain ⟨hok, hf⟩ := gt_some hf
  unfold okc at hok
  rw [Bool.and_eq_true, decide_eq_true_eq] at hok
  obtain ⟨⟨a1, a2, a3, a4, a5⟩, a6⟩ := hok
  have hall : ∀ i, i < n.toNatClampNeg → fits (if b = true then .byte else .int) (.int (σ k0 (sp.toNatClampNeg + i))) = true := fun i hi => List.all_eq_true.mp a6 i (List.mem_range.mpr hi)
  have e : (Wd cI cB ad σ).set k1 (ad k1, .inl (if b = true then cB else cI, n1, .inl (va_cpy (σ k0) (σ k1) sp.toNatClampNeg dp.toNatClampNeg n.toNatClampNeg))) = Wd cI cB ad (mrow σ k1 (va_cpy (σ k0) (σ k1) sp.toNatClampNeg dp.toNatClampNeg n.toNatClampNeg)) := Wd_row h1 _
  exact va_copyi E.1.1 E.1.2.1 (E.1.2.2.1.trans hl.symm) E.1.2.2.2.1 (E.1.2.2.2.2 _ w1) (E.1.2.2.2.2 _ w2) (E.1.2.2.2.2 _ w3) (E.1.2.2.2.2 _ w4) E.2.1 Y.1 (Wd_D E.2.2.2.1 E.2.2.2.2.1) Y.2 k0 k1 t0 t0 (Wd_arr h0) (Wd_arr h1) ht ht (by cases b <;> rfl) a1 a2 a3 a4 a5 hall hfr hlo d (fun H1 locs1 hP _ hS => kk _ H1 locs1 hf ⟨by rw [← e]; exact hP, hS⟩)
theorem g_mmax (E : En p R s m args c cc nL own D cI cB ad st A cells slots) (hl : ls.size = nL) {idx : Nat} (w1 : Cond.methodLink own idx Lib.Math.max.name ∈ ALL) (w2 : Cond.static Lib.Math.max.name ∈ ALL) (w3 : Cond.initialized "java/lang/Math" ∈ ALL) (w4 : Cond.code Lib.Math.max.name Lib.Math.max.code 2 (some .int) ∈ ALL) (hfr : 1 ≤ R.frames) (hlo : (rest.map fun v => v.category).sum + 13 ≤ R.locals) {x y : Int32} (d : decode cc pc = .ok (.invokestatic idx, 3)) {K : Int32 → Res} (hf : nm (if x < y then y else x) K = some Z) (kk : ∀ z : Int32, K z = some Z → W p l e R s m args below meth c H locs cells slots Q (F0 m (pc + 3) ls (.int z :: rest))) : W p l e R s m args below meth c H locs cells slots Q (F0 m pc ls (.int y :: .int x :: rest)) :=
  va_mmax E.1.1 E.1.2.1 (E.1.2.2.1.trans hl.symm) E.1.2.2.2.1 (E.1.2.2.2.2 _ w1) (E.1.2.2.2.2 _ w2) (E.1.2.2.2.2 _ w3) (E.1.2.2.2.2 _ w4) hfr hlo E.2.2.2.2.2.1 E.2.2.2.2.2.2 d (kk _ hf)
theorem g_mmin (E : En p R s m args c cc nL own D cI cB ad st A cells slots) (hl : ls.size = nL) {idx : Nat} (w1 : Cond.methodLink own idx Lib.Math.min.name ∈ ALL) (w2 : Cond.static Lib.Math.min.name ∈ ALL) (w3 : Cond.initialized "java/lang/Math" ∈ ALL) (w4 : Cond.code Lib.Math.min.name Lib.Math.min.code 2 (some .int) ∈ ALL) (hfr : 1 ≤ R.frames) (hlo : (rest.map fun v => v.category).sum + 13 ≤ R.locals) {x y : Int32} (d : decode cc pc = .ok (.invokestatic idx, 3)) {K : Int32 → Res} (hf : nm (if y < x then y else x) K = some Z) (kk : ∀ z : Int32, K z = some Z → W p l e R s m args below meth c H locs cells slots Q (F0 m (pc + 3) ls (.int z :: rest))) : W p l e R s m args below meth c H locs cells slots Q (F0 m pc ls (.int y :: .int x :: rest)) :=
  va_mmin E.1.1 E.1.2.1 (E.1.2.2.1.trans hl.symm) E.1.2.2.2.1 (E.1.2.2.2.2 _ w1) (E.1.2.2.2.2 _ w2) (E.1.2.2.2.2 _ w3) (E.1.2.2.2.2 _ w4) hfr hlo E.2.2.2.2.2.1 E.2.2.2.2.2.2 d (kk _ hf)
theorem g_mabs (E : En p R s m args c cc nL own D cI cB ad st A cells slots) (hl : ls.size = nL) {idx : Nat} (w1 : Cond.methodLink own idx Lib.Math.abs.name ∈ ALL) (w2 : Cond.static Lib.Math.abs.name ∈ ALL) (w3 : Cond.initialized "java/lang/Math" ∈ ALL) (w4 : Cond.code Lib.Math.abs.name Lib.Math.abs.code 1 (some .int) ∈ ALL) (hfr : 1 ≤ R.frames) (hlo : (rest.map fun v => v.category).sum + 13 ≤ R.locals) {x : Int32} (d : decode cc pc = .ok (.invokestatic idx, 3)) {K : Int32 → Res} (hf : nm (if 0 ≤ x then x else 0 - x) K = some Z) (kk : ∀ z : Int32, K z = some Z → W p l e R s m args below meth c H locs cells slots Q (F0 m (pc + 3) ls (.int z :: rest))) : W p l e R s m args below meth c H locs cells slots Q (F0 m pc ls (.int x :: rest)) :=
  va_mabs E.1.1 E.1.2.1 (E.1.2.2.1.trans hl.symm) E.1.2.2.2.1 (E.1.2.2.2.2 _ w1) (E.1.2.2.2.2 _ w2) (E.1.2.2.2.2 _ w3) (E.1.2.2.2.2 _ w4) hfr hlo E.2.2.2.2.2.1 E.2.2.2.2.2.2 d (kk _ hf)
theorem g_gets0 (E : En p R s m args c cc nL own D cI cB ad st A cells slots) (Y : Wo D cI cB ad A σ s H locs) {idx : Nat} (hw : Cond.fieldLink own idx "OffForSecond" "ABOVE" "[I" ∈ ALL) (d : decode cc pc = .ok (.getstatic idx, 3)) (kk : W p l e R s m args below meth c H locs cells slots Q (F0 m (pc + 3) ls (.ref (st 0) :: rest))) : W p l e R s m args below meth c H locs cells slots Q (F0 m pc ls rest) :=
  va_gets E.1.1 E.1.2.1 E.2.2.1.1.1 Y.2 E.1.2.2.2.1 (E.1.2.2.2.2 _ hw) (fun _ h => h) d kk
theorem g_getsN0 (E : En p R s m args c cc nL "OffForSecond$Throat" D cI cB ad st A cells slots) (Y : Wo D cI cB ad A σ s H locs) (d : decode cc pc = .ok (.getstatic 54, 3)) (kk : W p l e R s m args below meth c H locs cells slots Q (F0 m (pc + 3) ls (.ref (st 0) :: rest))) : W p l e R s m args below meth c H locs cells slots Q (F0 m pc ls rest) :=
  va_getsN E.1.1 E.1.2.1 E.2.2.1.1.1 Y.2 E.1.2.2.2.1 (va_Nw.use rfl E.2.2.1.2.2.2.2.2) (fun _ h => h) d kk
theorem g_getsN1 (E : En p R s m args c cc nL "OffForSecond$Throat" D cI cB ad st A cells slots) (Y : Wo D cI cB ad A σ s H locs) (d : decode cc pc = .ok (.getstatic 51, 3)) (kk : W p l e R s m args below meth c H locs cells slots Q (F0 m (pc + 3) ls (.ref (st 1) :: rest))) : W p l e R s m args below meth c H locs cells slots Q (F0 m pc ls rest) :=
  va_getsN E.1.1 E.1.2.1 E.2.2.1.2.1.1 Y.2 E.1.2.2.2.1 (va_Nw.use rfl E.2.2.1.2.2.2.2.1) (fun _ h => h) d kk
theorem g_getsN2 (E : En p R s m args c cc nL "OffForSecond$Reader" D cI cB ad st A cells slots) (Y : Wo D cI cB ad A σ s H locs) (d : decode cc pc = .ok (.getstatic 66, 3)) (kk : W p l e R s m args below meth c H locs cells slots Q (F0 m (pc + 3) ls (.ref (st 2) :: rest))) : W p l e R s m args below meth c H locs cells slots Q (F0 m pc ls rest) :=
  va_getsN E.1.1 E.1.2.1 E.2.2.1.2.2.1.1 Y.2 E.1.2.2.2.1 (va_Nw.use rfl E.2.2.1.2.2.2.1) (fun _ h => h) d kk
theorem g_ti0 (E : En p R s m args c cc nL own D cI cB ad st A cells slots) (Y : Wo D cI cB ad A σ s H locs) {i : Int32} (d : decode cc pc = .ok (.iaload, 1)) {K : Int32 → Res} (hf : gi i 7 (nm (tA i.toNatClampNeg) K) = some Z) (kk : ∀ z : Int32, K z = some Z → W p l e R s m args below meth c H locs cells slots Q (F0 m (pc + 1) ls (.int z :: rest))) : W p l e R s m args below meth c H locs cells slots Q (F0 m pc ls (.int i :: .ref (st 0) :: rest)) :=
  va_ti E.1.1 E.1.2.1 E.2.2.1.1.2 Y.2 (gi_some hf).1 rfl d (kk _ (gi_some hf).2)
theorem g_ti1 (E : En p R s m args c cc nL own D cI cB ad st A cells slots) (Y : Wo D cI cB ad A σ s H locs) {i : Int32} (d : decode cc pc = .ok (.iaload, 1)) {K : Int32 → Res} (hf : gi i 28 (nm (tB i.toNatClampNeg) K) = some Z) (kk : ∀ z : Int32, K z = some Z → W p l e R s m args below meth c H locs cells slots Q (F0 m (pc + 1) ls (.int z :: rest))) : W p l e R s m args below meth c H locs cells slots Q (F0 m pc ls (.int i :: .ref (st 1) :: rest)) :=
  va_ti E.1.1 E.1.2.1 E.2.2.1.2.1.2 Y.2 (gi_some hf).1 rfl d (kk _ (gi_some hf).2)
theorem g_tc2 (E : En p R s m args c cc nL own D cI cB ad st A cells slots) (Y : Wo D cI cB ad A σ s H locs) {i : Int32} (d : decode cc pc = .ok (.caload, 1)) {K : Int32 → Res} (hf : gi i 6 (nm (tN i.toNatClampNeg) K) = some Z) (kk : ∀ z : Int32, K z = some Z → W p l e R s m args below meth c H locs cells slots Q (F0 m (pc + 1) ls (.int z :: rest))) : W p l e R s m args below meth c H locs cells slots Q (F0 m pc ls (.int i :: .ref (st 2) :: rest)) :=
  va_tc E.1.1 E.1.2.1 E.2.2.1.2.2.1.2 Y.2 (gi_some hf).1 rfl d (kk _ (gi_some hf).2)
theorem WP_of (hE : En p R s m args c cc nL own D cI cB ad st A cells slots) (Y : Wo D cI cB ad A σ s H locs) {U : State} (hU : U.heap = H) (hW : s.WarmedH U.vm) : WP D cI cB ad st σ U :=
  ⟨by rw [hU]; exact Y.1, va_K.moved hW.alike hE.2.1, hE.2.2.1.to hW (fun a h1 h2 => by rw [hU]; exact Y.2.2.1 a h1 h2) (fun q h => by obtain ⟨k, h1, h2⟩ := h; rw [h2]; exact hE.2.2.2.2.1 k h1)⟩
/-- what is said of a callee, once: its words, its name -/
def OV (y : MethodName) (b : ByteArray) (mL : Nat) (ret : Option FieldType) (C : String) (n : Nat) : Prop := Cond.instanceMethod y ∈ ALL ∧ Cond.selects C y y ∈ ALL ∧ Cond.initialized C ∈ ALL ∧ Cond.code y b mL ret ∈ ALL ∧ (y.cls = C ∧ y.cls ≠ "java/lang/invoke/MethodHandle" ∧ y.cls ≠ "java/lang/invoke/VarHandle" ∧ (parseMethodDescriptor y.desc).map (fun d => d.parameters.length) = some n)
def OS (y : MethodName) (b : ByteArray) (mL : Nat) (ret : Option FieldType) (n : Nat) : Prop := Cond.static y ∈ ALL ∧ Cond.initialized y.cls ∈ ALL ∧ Cond.code y b mL ret ∈ ALL ∧ (y.cls ≠ "java/lang/invoke/MethodHandle" ∧ y.cls ≠ "java/lang/invoke/VarHandle" ∧ (parseMethodDescriptor y.desc).map (fun d => d.parameters.length) = some n)
theorem OV_good {y : MethodName} {b : ByteArray} {mL n idx : Nat} {ret : Option FieldType} {C : String} (o : OV y b mL ret C n) (hl : Cond.methodLink own idx y ∈ ALL) : GoodIn ALL (wsV own idx C y (.code y b mL ret :: ALL)) :=
  ALL_in (own := own) (idx := idx) (w := .methodLink own idx y) (pre := [.methodLink own idx y, .instanceMethod y, .selects C y y, .initialized C]) (fun w hw => by
    simp only [List.mem_cons, List.not_mem_nil, or_false] at hw
    rcases hw with h | h | h | h <;> rw [h]
    · exact hl
    · exact o.1
    · exact o.2.1
    · exact o.2.2.1) o.2.2.2.1
theorem OS_good {y : MethodName} {b : ByteArray} {mL n idx : Nat} {ret : Option FieldType} (o : OS y b mL ret n) (hl : Cond.methodLink own idx y ∈ ALL) : GoodIn ALL (va_wsS own idx y (.code y b mL ret :: ALL)) :=
  ALL_in (own := own) (idx := idx) (w := .methodLink own idx y) (pre := [.methodLink own idx y, .static y, .initialized y.cls]) (fun w hw => by
    simp only [List.mem_cons, List.not_mem_nil, or_false] at hw
    rcases hw with h | h | h <;> rw [h]
    · exact hl
    · exact o.1
    · exact o.2.1) o.2.2.1
theorem g_callVi (E : En p R s m args c cc nL own D cI cB ad st A cells slots) (Y : Wo D cI cB ad A σ s H locs) {y : MethodName} {b : ByteArray} {mL n d idx : Nat} {rt : FieldType} (k : Nat) {ci N : Nat} {C : String} {T : u_T} {fl : List (Option Nat)} (h1 : shp[k]? = some (.inl (ci, fl))) (h3 : vwCl[ci]? = some (C, T, N)) (o : OV y b mL (some rt) C n) (hl : Cond.methodLink own idx y ∈ ALL) (As : List Value) {av : (Nat → Nat) → List Value} (hav : av ad = .ref (ad k) :: As) (hn : As.length = n) (hR : (rmd d).frames + 1 ≤ R.frames ∧ 8 + (mL + 11) + (rmd d).locals ≤ R.locals) (hz : ls.size = nL) {stk : List Value} (hst : stk = As.reverse ++ .ref (ad k) :: rest) (hW : (rest.map fun v => v.category).sum ≤ 8) (dc : decode cc pc = .ok (.invokevirtual idx, 3)) {F : Res} {K : Int32 → Mem → Res} (hC : ∀ z : Int32 × Mem, F = some z → CT l y b mL (some rt) d av σ z) (hf : bd F K = some Z) (kk : ∀ (r : Int32) (σ1 : Mem) (H1 : Heap) (locs1 : List Loc), K r σ1 = some Z → Wo D cI cB ad A σ1 s H1 locs1 → W p l e R s m args below meth c H1 locs1 cells slots Q (F0 m (pc + 3) ls (.int r :: rest))) : W p l e R s m args below meth c H locs cells slots Q (F0 m pc ls stk) := by
  obtain ⟨z, hz1, hK⟩ := bd_some hf
  have hM := hC z hz1 D cI cB ad st E.2.2.2.1
  have hbl : FrameBlind (va_Pc (av ad) (fun U => WP D cI cB ad st σ U)) := fun a U g mk q => ⟨q.1, WP.blind q.2⟩
  have hAA : ∀ q, AA ad q → A q := fun q h => by
    obtain ⟨k', h1', h2'⟩ := h
    rw [h2']
    exact E.2.2.2.2.1 k' h1'
  exact va_calli (A1 := AA ad) (free := AA ad) (a := (Value.ref (ad k) :: As).toArray) (va_runV (As := As) (rest := rest) E.1 hM (cwV n E.1.2.2.2.2 (OV_good o hl) rfl rfl rfl o.2.2.2.2 hR) ⟨hbl, va_recv E.2.1 Y.1 h3 (Wd_obj h1), fun U hU hW => ⟨by rw [hav], WP_of E Y hU hW⟩⟩ rfl hn hz hst (lv_room hW) dc ⟨E.2.2.2.2.2.1, E.2.2.2.2.2.2⟩) Y.2 (fun q _ h => hAA q h) hAA (fun r u t H1 locs1 ht hvm hw hB hz1 hk1 hS => by rw [hw]; exact kk z.1 z.2 H1 locs1 hK ⟨by rw [← ht]; exact hB.1, hS⟩)
theorem g_callVv (E : En p R s m args c cc nL own D cI cB ad st A cells slots) (Y : Wo D cI cB ad A σ s H locs) {y : MethodName} {b : ByteArray} {mL n d idx : Nat} (k : Nat) {ci N : Nat} {C : String} {T : u_T} {fl : List (Option Nat)} (h1 : shp[k]? = some (.inl (ci, fl))) (h3 : vwCl[ci]? = some (C, T, N)) (o : OV y b mL none C n) (hl : Cond.methodLink own idx y ∈ ALL) (As : List Value) {av : (Nat → Nat) → List Value} (hav : av ad = .ref (ad k) :: As) (hn : As.length = n) (hR : (rmd d).frames + 1 ≤ R.frames ∧ 8 + (mL + 11) + (rmd d).locals ≤ R.locals) (hz : ls.size = nL) {stk : List Value} (hst : stk = As.reverse ++ .ref (ad k) :: rest) (hW : (rest.map fun v => v.category).sum ≤ 8) (dc : decode cc pc = .ok (.invokevirtual idx, 3)) {F : Res} {K : Int32 → Mem → Res} (hC : ∀ z : Int32 × Mem, F = some z → CV l y b mL d av σ z) (hf : bd F K = some Z) (kk : ∀ (r : Int32) (σ1 : Mem) (H1 : Heap) (locs1 : List Loc), K r σ1 = some Z → Wo D cI cB ad A σ1 s H1 locs1 → W p l e R s m args below meth c H1 locs1 cells slots Q (F0 m (pc + 3) ls rest)) : W p l e R s m args below meth c H locs cells slots Q (F0 m pc ls stk) := by
  obtain ⟨z, hz1, hK⟩ := bd_some hf
  have hM := hC z hz1 D cI cB ad st E.2.2.2.1
  have hbl : FrameBlind (va_Pc (av ad) (fun U => WP D cI cB ad st σ U)) := fun a U g mk q => ⟨q.1, WP.blind q.2⟩
  have hAA : ∀ q, AA ad q → A q := fun q h => by
    obtain ⟨k', h1', h2'⟩ := h
    rw [h2']
    exact E.2.2.2.2.1 k' h1'
  exact va_callv (A1 := AA ad) (free := AA ad) (a := (Value.ref (ad k) :: As).toArray) (va_runV (As := As) (rest := rest) E.1 hM (cwV n E.1.2.2.2.2 (OV_good o hl) rfl rfl rfl o.2.2.2.2 hR) ⟨hbl, va_recv E.2.1 Y.1 h3 (Wd_obj h1), fun U hU hW => ⟨by rw [hav], WP_of E Y hU hW⟩⟩ rfl hn hz hst (lv_room hW) dc ⟨E.2.2.2.2.2.1, E.2.2.2.2.2.2⟩) Y.2 (fun q _ h => hAA q h) hAA (fun u t H1 locs1 ht hvm hw hB hz1 hk1 hS => kk z.1 z.2 H1 locs1 hK ⟨by rw [← ht]; exact hB.1, hS⟩)
theorem g_callSi (E : En p R s m args c cc nL own D cI cB ad st A cells slots) (Y : Wo D cI cB ad A σ s H locs) {y : MethodName} {b : ByteArray} {mL n d idx : Nat} {rt : FieldType} (o : OS y b mL (some rt) n) (hl : Cond.methodLink own idx y ∈ ALL) (As : List Value) {av : (Nat → Nat) → List Value} (hav : av ad = As) (hn : As.length = n) (hR : (rmd d).frames + 1 ≤ R.frames ∧ 8 + (mL + 11) + (rmd d).locals ≤ R.locals) (hz : ls.size = nL) {stk : List Value} (hst : stk = As.reverse ++ rest) (hW : (rest.map fun v => v.category).sum ≤ 8) (dc : decode cc pc = .ok (.invokestatic idx, 3)) {F : Res} {K : Int32 → Mem → Res} (hC : ∀ z : Int32 × Mem, F = some z → CT l y b mL (some rt) d av σ z) (hf : bd F K = some Z) (kk : ∀ (r : Int32) (σ1 : Mem) (H1 : Heap) (locs1 : List Loc), K r σ1 = some Z → Wo D cI cB ad A σ1 s H1 locs1 → W p l e R s m args below meth c H1 locs1 cells slots Q (F0 m (pc + 3) ls (.int r :: rest))) : W p l e R s m args below meth c H locs cells slots Q (F0 m pc ls stk) := by
  obtain ⟨z, hz1, hK⟩ := bd_some hf
  have hM := hC z hz1 D cI cB ad st E.2.2.2.1
  have hbl : FrameBlind (va_Pc (av ad) (fun U => WP D cI cB ad st σ U)) := fun a U g mk q => ⟨q.1, WP.blind q.2⟩
  have hAA : ∀ q, AA ad q → A q := fun q h => by
    obtain ⟨k', h1', h2'⟩ := h
    rw [h2']
    exact E.2.2.2.2.1 k' h1'
  exact va_calli (A1 := AA ad) (free := AA ad) (a := (As).toArray) (va_runS (As := As) (rest := rest) E.1 hM (va_cwS n E.1.2.2.2.2 (OS_good o hl) rfl rfl rfl o.2.2.2 hR) ⟨hbl, fun U hU hW => ⟨by rw [hav], WP_of E Y hU hW⟩⟩ rfl hn hz hst (lv_room hW) dc ⟨E.2.2.2.2.2.1, E.2.2.2.2.2.2⟩) Y.2 (fun q _ h => hAA q h) hAA (fun r u t H1 locs1 ht hvm hw hB hz1 hk1 hS => by rw [hw]; exact kk z.1 z.2 H1 locs1 hK ⟨by rw [← ht]; exact hB.1, hS⟩)
theorem g_callSv (E : En p R s m args c cc nL own D cI cB ad st A cells slots) (Y : Wo D cI cB ad A σ s H locs) {y : MethodName} {b : ByteArray} {mL n d idx : Nat} (o : OS y b mL none n) (hl : Cond.methodLink own idx y ∈ ALL) (As : List Value) {av : (Nat → Nat) → List Value} (hav : av ad = As) (hn : As.length = n) (hR : (rmd d).frames + 1 ≤ R.frames ∧ 8 + (mL + 11) + (rmd d).locals ≤ R.locals) (hz : ls.size = nL) {stk : List Value} (hst : stk = As.reverse ++ rest) (hW : (rest.map fun v => v.category).sum ≤ 8) (dc : decode cc pc = .ok (.invokestatic idx, 3)) {F : Res} {K : Int32 → Mem → Res} (hC : ∀ z : Int32 × Mem, F = some z → CV l y b mL d av σ z) (hf : bd F K = some Z) (kk : ∀ (r : Int32) (σ1 : Mem) (H1 : Heap) (locs1 : List Loc), K r σ1 = some Z → Wo D cI cB ad A σ1 s H1 locs1 → W p l e R s m args below meth c H1 locs1 cells slots Q (F0 m (pc + 3) ls rest)) : W p l e R s m args below meth c H locs cells slots Q (F0 m pc ls stk) := by
  obtain ⟨z, hz1, hK⟩ := bd_some hf
  have hM := hC z hz1 D cI cB ad st E.2.2.2.1
  have hbl : FrameBlind (va_Pc (av ad) (fun U => WP D cI cB ad st σ U)) := fun a U g mk q => ⟨q.1, WP.blind q.2⟩
  have hAA : ∀ q, AA ad q → A q := fun q h => by
    obtain ⟨k', h1', h2'⟩ := h
    rw [h2']
    exact E.2.2.2.2.1 k' h1'
  exact va_callv (A1 := AA ad) (free := AA ad) (a := (As).toArray) (va_runS (As := As) (rest := rest) E.1 hM (va_cwS n E.1.2.2.2.2 (OS_good o hl) rfl rfl rfl o.2.2.2 hR) ⟨hbl, fun U hU hW => ⟨by rw [hav], WP_of E Y hU hW⟩⟩ rfl hn hz hst (lv_room hW) dc ⟨E.2.2.2.2.2.1, E.2.2.2.2.2.2⟩) Y.2 (fun q _ h => hAA q h) hAA (fun u t H1 locs1 ht hvm hw hB hz1 hk1 hS => kk z.1 z.2 H1 locs1 hK ⟨by rw [← ht]; exact hB.1, hS⟩)
theorem g_iret (E : En p R s m args c cc nL own D cI cB ad st (AA ad) 0 0) (Y : Wo D cI cB ad (AA ad) σ s H locs) (hr : meth.sig.returnType = some .int) (hk : meth.locks = false) {v : Int32} (d : decode cc pc = .ok (.ireturn, 1)) (hf : some (v, σ) = some Z) : W p l e R s m args below meth c H locs 0 0 (MQ below (va_Qi (fun (r : Int32) (_ : Unit) => r = Z.1) (fun _ t => WP D cI cB ad st Z.2 t) (AA ad)) args s 0 0 (AA ad)) (F0 m pc ls [.int v]) := by
  cases hf
  exact W.iret (v := v) E.1.1 E.1.2.1 hr (fun t ht hW => ⟨⟨v, (), rfl, rfl, WP_of E Y ht hW⟩, Y.2.F ht⟩) Y.2.2.2 d hk
theorem nar01 {v : Int32} (h : v = 0 ∨ v = 1) : narrow .boolean (.int v) = .int v := by rcases h with h | h <;> subst h <;> rfl
theorem fit01 {v : Int32} (h : v = 0 ∨ v = 1) : fits .boolean (.int v) = true := by rcases h with h | h <;> subst h <;> rfl
theorem g_zret (E : En p R s m args c cc nL own D cI cB ad st (AA ad) 0 0) (Y : Wo D cI cB ad (AA ad) σ s H locs) (hr : meth.sig.returnType = some .boolean) (hk : meth.locks = false) {v : Int32} (d : decode cc pc = .ok (.ireturn, 1)) (hf : gb v (some (v, σ)) = some Z) : W p l e R s m args below meth c H locs 0 0 (MQ below (va_Qi (fun (r : Int32) (_ : Unit) => r = Z.1) (fun _ t => WP D cI cB ad st Z.2 t) (AA ad)) args s 0 0 (AA ad)) (F0 m pc ls [.int v]) := by
  obtain ⟨h01, hf⟩ := gb_some hf
  cases hf
  exact W.zret (v := v) (ty := .boolean) E.1.1 E.1.2.1 hr (nar01 h01) (fun t ht hW => ⟨⟨v, (), rfl, rfl, WP_of E Y ht hW⟩, Y.2.F ht⟩) Y.2.2.2 d hk
theorem g_vret (E : En p R s m args c cc nL own D cI cB ad st (AA ad) 0 0) (Y : Wo D cI cB ad (AA ad) σ s H locs) (hr : meth.sig.returnType = none) (hk : meth.locks = false) (d : decode cc pc = .ok (.return_, 1)) (hf : some (0, σ) = some Z) : W p l e R s m args below meth c H locs 0 0 (MQ below (va_Qv (fun (_ : Unit) => True) (fun _ t => WP D cI cB ad st Z.2 t) (AA ad)) args s 0 0 (AA ad)) (F0 m pc ls []) := by
  cases hf
  exact W.vret E.1.1 E.1.2.1 hr (fun t ht hW => ⟨⟨(), rfl, trivial, WP_of E Y ht hW⟩, Y.2.F ht⟩) Y.2.2.2 d hk
end GR
/-- a method's start -/
theorem g_openT {l : Launch} {y : MethodName} {b : ByteArray} {mL d : Nat} {ret : Option FieldType} {av : (Nat → Nat) → List Value} {σ : Mem} {Z : Int32 × Mem} (own : String) (hy : plainName y.cls = true) (hown : y.cls = own) (hlen : ∀ ad : Nat → Nat, (lg_sl (av ad)).length ≤ mL)
    (body : ∀ (p : Program) (e : Env) (s : State) (m : MethodId) (below : List Frame) (meth : Method) (c : Code) (D : va_G) (cI cB : ClassId) (ad st : Nat → Nat) (ls : Array Slot), En p (rmd d) s m (av ad).toArray c b mL own D cI cB ad st (AA ad) 0 0 → Wo D cI cB ad (AA ad) σ s s.heap [] → meth.sig.returnType = ret → meth.locks = false → lv_has ls mL (lv_args 0 (av ad)) →
      W p l e (rmd d) s m (av ad).toArray below meth c s.heap [] 0 0 (MQ below (va_Qi (fun (r : Int32) (_ : Unit) => r = Z.1) (fun _ t => WP D cI cB ad st Z.2 t) (AA ad)) (av ad).toArray s 0 0 (AA ad)) (F0 m 0 ls [])) : CT l y b mL ret d av σ Z := by
  intro D cI cB ad st hI
  refine Met.ofW (cc := b) (maxL := mL) (ret := ret) hy rfl ?_
  intro p e s m args below meth c s₁ B hml hv
  obtain ⟨rfl, hP, hK, hS⟩ := hv
  have hts := atoms_spec (ws := .code y b mL ret :: ALL) B.pre
  have ho : s.vm.findClass own = some m.cls := by rw [← hown]; exact findClass_of_methodNamed B.named
  have hl := lv_entry (av ad) (n := mL) (hlen ad)
  rw [lg_entry_eq]
  exact body p e s m below meth c D cI cB ad st _ ⟨⟨B.exec, B.bytes, hml, ho, fun w hw => hts w (List.mem_cons_of_mem _ hw)⟩, hK, hS, hI, fun k hk => ⟨k, hk, rfl⟩, Nat.le_refl 0, Nat.le_refl 0⟩ ⟨hP, va_S.rf⟩ B.returns B.notSynchronized hl
theorem g_openV {l : Launch} {y : MethodName} {b : ByteArray} {mL d : Nat} {av : (Nat → Nat) → List Value} {σ : Mem} {Z : Int32 × Mem} (own : String) (hy : plainName y.cls = true) (hown : y.cls = own) (hlen : ∀ ad : Nat → Nat, (lg_sl (av ad)).length ≤ mL)
    (body : ∀ (p : Program) (e : Env) (s : State) (m : MethodId) (below : List Frame) (meth : Method) (c : Code) (D : va_G) (cI cB : ClassId) (ad st : Nat → Nat) (ls : Array Slot), En p (rmd d) s m (av ad).toArray c b mL own D cI cB ad st (AA ad) 0 0 → Wo D cI cB ad (AA ad) σ s s.heap [] → meth.sig.returnType = none → meth.locks = false → lv_has ls mL (lv_args 0 (av ad)) →
      W p l e (rmd d) s m (av ad).toArray below meth c s.heap [] 0 0 (MQ below (va_Qv (fun (_ : Unit) => True) (fun _ t => WP D cI cB ad st Z.2 t) (AA ad)) (av ad).toArray s 0 0 (AA ad)) (F0 m 0 ls [])) : CV l y b mL d av σ Z := by
  intro D cI cB ad st hI
  refine Met.ofW (cc := b) (maxL := mL) (ret := none) hy rfl ?_
  intro p e s m args below meth c s₁ B hml hv
  obtain ⟨rfl, hP, hK, hS⟩ := hv
  have hts := atoms_spec (ws := .code y b mL none :: ALL) B.pre
  have ho : s.vm.findClass own = some m.cls := by rw [← hown]; exact findClass_of_methodNamed B.named
  have hl := lv_entry (av ad) (n := mL) (hlen ad)
  rw [lg_entry_eq]
  exact body p e s m below meth c D cI cB ad st _ ⟨⟨B.exec, B.bytes, hml, ho, fun w hw => hts w (List.mem_cons_of_mem _ hw)⟩, hK, hS, hI, fun k hk => ⟨k, hk, rfl⟩, Nat.le_refl 0, Nat.le_refl 0⟩ ⟨hP, va_S.rf⟩ B.returns B.notSynchronized hl
end
