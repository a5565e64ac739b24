/-! names, fields, types, codes: as the printed NAMES of this claim has them (its law and pool left out); the words of all methods in one list -/
def RX0 : String := "OffForSecond$Pitches"
def TX0 : u_T := fun k => match k with
  | 0 => ("OffForSecond$Pitches", "kind", "[I", true)
  | 1 => ("OffForSecond$Pitches", "m", "[I", true)
  | 2 => ("OffForSecond$Pitches", "weight", "[I", true)
  | 3 => ("OffForSecond$Pitches", "thrown", "[I", true)
  | _ => ("OffForSecond$Pitches", "size", "I", false)
def tyX0 : Nat → FieldType := fun k => match k with
  | 0 => .array .int
  | 1 => .array .int
  | 2 => .array .int
  | 3 => .array .int
  | _ => .int
abbrev wsX00 : List Cond := u_ws RX0 TX0 5
theorem nmX0 : ∀ a, a < 5 → ∀ b, b < 5 → a ≠ b → (TX0 a).2.1 ≠ (TX0 b).2.1 := by decide +kernel
theorem tyX0_ok : ∀ k, k < 5 → parseFieldDescriptor (TX0 k).2.2.1 = some (tyX0 k) := by decide +kernel
abbrev cX0_init : ByteArray := prog_2_method_1_code
def yX0_init : MethodName := ⟨RX0, "<init>", "()V"⟩
abbrev cX0_add : ByteArray := prog_2_method_2_code
def yX0_add : MethodName := ⟨RX0, "add", "(II)I"⟩
abbrev cX0_allWeights : ByteArray := prog_2_method_3_code
def yX0_allWeights : MethodName := ⟨RX0, "allWeights", "()I"⟩
abbrev cX0_byWeight : ByteArray := prog_2_method_4_code
def yX0_byWeight : MethodName := ⟨RX0, "byWeight", "(I)I"⟩
abbrev cX0_takes : ByteArray := prog_2_method_5_code
def yX0_takes : MethodName := ⟨RX0, "takes", "(LOffForSecond$Pitches;)V"⟩
def RX1 : String := "OffForSecond$Reader"
def TX1 : u_T := fun k => match k with
  | 0 => ("OffForSecond$Reader", "draft", "LOffForSecond$Text;", true)
  | 1 => ("OffForSecond$Reader", "signs", "[I", true)
  | 2 => ("OffForSecond$Reader", "height", "I", false)
  | 3 => ("OffForSecond$Reader", "open", "I", false)
  | 4 => ("OffForSecond$Reader", "groups", "I", false)
  | 5 => ("OffForSecond$Reader", "digits", "I", false)
  | _ => ("OffForSecond$Reader", "wantsOne", "Z", false)
def tyX1 : Nat → FieldType := fun k => match k with
  | 0 => .object "OffForSecond$Text"
  | 1 => .array .int
  | 2 => .int
  | 3 => .int
  | 4 => .int
  | 5 => .int
  | _ => .boolean
abbrev wsX10 : List Cond := u_ws RX1 TX1 7
theorem nmX1 : ∀ a, a < 7 → ∀ b, b < 7 → a ≠ b → (TX1 a).2.1 ≠ (TX1 b).2.1 := by decide +kernel
theorem tyX1_ok : ∀ k, k < 7 → parseFieldDescriptor (TX1 k).2.2.1 = some (tyX1 k) := by decide +kernel
abbrev cX1_init : ByteArray := prog_3_method_1_code
def yX1_init : MethodName := ⟨RX1, "<init>", "()V"⟩
abbrev cX1_faultOf : ByteArray := prog_3_method_2_code
def yX1_faultOf : MethodName := ⟨RX1, "faultOf", "([BII)I"⟩
abbrev cX1_begins : ByteArray := prog_3_method_3_code
def yX1_begins : MethodName := ⟨RX1, "begins", "(II)Z"⟩
abbrev cX1_continues : ByteArray := prog_3_method_4_code
def yX1_continues : MethodName := ⟨RX1, "continues", "(I)Z"⟩
abbrev cX1_lengthens : ByteArray := prog_3_method_5_code
def yX1_lengthens : MethodName := ⟨RX1, "lengthens", "(I)Z"⟩
abbrev cX1_closes : ByteArray := prog_3_method_6_code
def yX1_closes : MethodName := ⟨RX1, "closes", "()Z"⟩
abbrev cX1_settle : ByteArray := prog_3_method_7_code
def yX1_settle : MethodName := ⟨RX1, "settle", "(I)V"⟩
abbrev cX1_park : ByteArray := prog_3_method_8_code
def yX1_park : MethodName := ⟨RX1, "park", "(I)V"⟩
abbrev cX1_isNumeral : ByteArray := prog_3_method_9_code
def yX1_isNumeral : MethodName := ⟨RX1, "isNumeral", "(I)Z"⟩
abbrev cX1_rankOf : ByteArray := prog_3_method_10_code
def yX1_rankOf : MethodName := ⟨RX1, "rankOf", "(I)I"⟩
def RX2 : String := "OffForSecond$Runners"
def TX2 : u_T := fun k => match k with
  | 0 => ("OffForSecond$Runners", "start", "[I", true)
  | 1 => ("OffForSecond$Runners", "pace", "[I", true)
  | 2 => ("OffForSecond$Runners", "lead", "[I", true)
  | 3 => ("OffForSecond$Runners", "stolen", "[I", true)
  | 4 => ("OffForSecond$Runners", "caught", "[I", true)
  | _ => ("OffForSecond$Runners", "size", "I", false)
def tyX2 : Nat → FieldType := fun k => match k with
  | 0 => .array .int
  | 1 => .array .int
  | 2 => .array .int
  | 3 => .array .int
  | 4 => .array .int
  | _ => .int
abbrev wsX20 : List Cond := u_ws RX2 TX2 6
theorem nmX2 : ∀ a, a < 6 → ∀ b, b < 6 → a ≠ b → (TX2 a).2.1 ≠ (TX2 b).2.1 := by decide +kernel
theorem tyX2_ok : ∀ k, k < 6 → parseFieldDescriptor (TX2 k).2.2.1 = some (tyX2 k) := by decide +kernel
abbrev cX2_init : ByteArray := prog_4_method_1_code
def yX2_init : MethodName := ⟨RX2, "<init>", "()V"⟩
abbrev cX2_add : ByteArray := prog_4_method_2_code
def yX2_add : MethodName := ⟨RX2, "add", "(II)I"⟩
abbrev cX2_runFrom : ByteArray := prog_4_method_3_code
def yX2_runFrom : MethodName := ⟨RX2, "runFrom", "(II)I"⟩
abbrev cX2_backFrom : ByteArray := prog_4_method_4_code
def yX2_backFrom : MethodName := ⟨RX2, "backFrom", "(II)I"⟩
abbrev cX2_takes : ByteArray := prog_4_method_5_code
def yX2_takes : MethodName := ⟨RX2, "takes", "(LOffForSecond$Runners;)V"⟩
def RX3 : String := "OffForSecond$Scene"
def TX3 : u_T := fun k => match k with
  | 0 => ("OffForSecond$Scene", "pitches", "LOffForSecond$Pitches;", true)
  | 1 => ("OffForSecond$Scene", "runners", "LOffForSecond$Runners;", true)
  | 2 => ("OffForSecond$Scene", "airText", "LOffForSecond$Text;", true)
  | 3 => ("OffForSecond$Scene", "gainText", "LOffForSecond$Text;", true)
  | 4 => ("OffForSecond$Scene", "tape", "[B", true)
  | 5 => ("OffForSecond$Scene", "taped", "I", false)
  | 6 => ("OffForSecond$Scene", "waiting", "[I", true)
  | 7 => ("OffForSecond$Scene", "waits", "I", false)
  | 8 => ("OffForSecond$Scene", "lift", "I", false)
  | 9 => ("OffForSecond$Scene", "pop", "I", false)
  | 10 => ("OffForSecond$Scene", "wet", "I", false)
  | 11 => ("OffForSecond$Scene", "outs", "I", false)
  | 12 => ("OffForSecond$Scene", "innings", "I", false)
  | 13 => ("OffForSecond$Scene", "worth", "I", false)
  | _ => ("OffForSecond$Scene", "z", "I", false)
def tyX3 : Nat → FieldType := fun k => match k with
  | 0 => .object "OffForSecond$Pitches"
  | 1 => .object "OffForSecond$Runners"
  | 2 => .object "OffForSecond$Text"
  | 3 => .object "OffForSecond$Text"
  | 4 => .array .byte
  | 5 => .int
  | 6 => .array .int
  | 7 => .int
  | 8 => .int
  | 9 => .int
  | 10 => .int
  | 11 => .int
  | 12 => .int
  | 13 => .int
  | _ => .int
abbrev wsX30 : List Cond := u_ws RX3 TX3 15
theorem nmX3 : ∀ a, a < 15 → ∀ b, b < 15 → a ≠ b → (TX3 a).2.1 ≠ (TX3 b).2.1 := by decide +kernel
theorem tyX3_ok : ∀ k, k < 15 → parseFieldDescriptor (TX3 k).2.2.1 = some (tyX3 k) := by decide +kernel
abbrev cX3_init : ByteArray := prog_5_method_1_code
def yX3_init : MethodName := ⟨RX3, "<init>", "()V"⟩
abbrev cX3_takes : ByteArray := prog_5_method_2_code
def yX3_takes : MethodName := ⟨RX3, "takes", "(LOffForSecond$Scene;)V"⟩
abbrev cX3_change : ByteArray := prog_5_method_3_code
def yX3_change : MethodName := ⟨RX3, "change", "(II)I"⟩
abbrev cX3_textOf : ByteArray := prog_5_method_4_code
def yX3_textOf : MethodName := ⟨RX3, "textOf", "(I)LOffForSecond$Text;"⟩
abbrev cX3_gives : ByteArray := prog_5_method_5_code
def yX3_gives : MethodName := ⟨RX3, "gives", "(IIII)I"⟩
abbrev cX3_airByKind : ByteArray := prog_5_method_6_code
def yX3_airByKind : MethodName := ⟨RX3, "airByKind", "(I)I"⟩
abbrev cX3_air : ByteArray := prog_5_method_7_code
def yX3_air : MethodName := ⟨RX3, "air", "(I)I"⟩
abbrev cX3_costs : ByteArray := prog_5_method_8_code
def yX3_costs : MethodName := ⟨RX3, "costs", "(I)I"⟩
abbrev cX3_isPicked : ByteArray := prog_5_method_9_code
def yX3_isPicked : MethodName := ⟨RX3, "isPicked", "(II)Z"⟩
abbrev cX3_marginFrom : ByteArray := prog_5_method_10_code
def yX3_marginFrom : MethodName := ⟨RX3, "marginFrom", "(III)I"⟩
abbrev cX3_gainOf : ByteArray := prog_5_method_11_code
def yX3_gainOf : MethodName := ⟨RX3, "gainOf", "(I)I"⟩
abbrev cX3_gainFrom : ByteArray := prog_5_method_12_code
def yX3_gainFrom : MethodName := ⟨RX3, "gainFrom", "(III)I"⟩
abbrev cX3_weighedGains : ByteArray := prog_5_method_13_code
def yX3_weighedGains : MethodName := ⟨RX3, "weighedGains", "(II)I"⟩
abbrev cX3_safeWeights : ByteArray := prog_5_method_14_code
def yX3_safeWeights : MethodName := ⟨RX3, "safeWeights", "(II)I"⟩
abbrev cX3_safePitches : ByteArray := prog_5_method_15_code
def yX3_safePitches : MethodName := ⟨RX3, "safePitches", "(II)I"⟩
abbrev cX3_goes : ByteArray := prog_5_method_16_code
def yX3_goes : MethodName := ⟨RX3, "goes", "(II)Z"⟩
abbrev cX3_isOut : ByteArray := prog_5_method_17_code
def yX3_isOut : MethodName := ⟨RX3, "isOut", "(I)V"⟩
abbrev cX3_draw : ByteArray := prog_5_method_18_code
def yX3_draw : MethodName := ⟨RX3, "draw", "()I"⟩
abbrev cX3_isSafeByDraws : ByteArray := prog_5_method_19_code
def yX3_isSafeByDraws : MethodName := ⟨RX3, "isSafeByDraws", "()Z"⟩
abbrev cX3_held : ByteArray := prog_5_method_20_code
def yX3_held : MethodName := ⟨RX3, "held", "(III)I"⟩
abbrev cX3_oneMore : ByteArray := prog_5_method_21_code
def yX3_oneMore : MethodName := ⟨RX3, "oneMore", "(I)I"⟩
def RX4 : String := "OffForSecond$Sheets"
def TX4 : u_T := fun k => match k with
  | 0 => ("OffForSecond$Sheets", "bits", "[I", true)
  | 1 => ("OffForSecond$Sheets", "size", "[I", true)
  | _ => ("OffForSecond$Sheets", "numbers", "[I", true)
def tyX4 : Nat → FieldType := fun k => match k with
  | 0 => .array .int
  | 1 => .array .int
  | _ => .array .int
abbrev wsX40 : List Cond := u_ws RX4 TX4 3
theorem nmX4 : ∀ a, a < 3 → ∀ b, b < 3 → a ≠ b → (TX4 a).2.1 ≠ (TX4 b).2.1 := by decide +kernel
theorem tyX4_ok : ∀ k, k < 3 → parseFieldDescriptor (TX4 k).2.2.1 = some (tyX4 k) := by decide +kernel
abbrev cX4_init : ByteArray := prog_6_method_1_code
def yX4_init : MethodName := ⟨RX4, "<init>", "()V"⟩
abbrev cX4_isMissing : ByteArray := prog_6_method_2_code
def yX4_isMissing : MethodName := ⟨RX4, "isMissing", "(I)Z"⟩
abbrev cX4_lay : ByteArray := prog_6_method_3_code
def yX4_lay : MethodName := ⟨RX4, "lay", "(III)V"⟩
abbrev cX4_standsAt : ByteArray := prog_6_method_4_code
def yX4_standsAt : MethodName := ⟨RX4, "standsAt", "(III)Z"⟩
abbrev cX4_read : ByteArray := prog_6_method_5_code
def yX4_read : MethodName := ⟨RX4, "read", "(II)I"⟩
abbrev cX4_write : ByteArray := prog_6_method_6_code
def yX4_write : MethodName := ⟨RX4, "write", "(III)V"⟩
abbrev cX4_copy : ByteArray := prog_6_method_7_code
def yX4_copy : MethodName := ⟨RX4, "copy", "(IIIII)V"⟩
def RX5 : String := "OffForSecond$Text"
def TX5 : u_T := fun k => match k with
  | 0 => ("OffForSecond$Text", "steps", "[I", true)
  | 1 => ("OffForSecond$Text", "stack", "[I", true)
  | 2 => ("OffForSecond$Text", "size", "I", false)
  | _ => ("OffForSecond$Text", "isThere", "Z", false)
def tyX5 : Nat → FieldType := fun k => match k with
  | 0 => .array .int
  | 1 => .array .int
  | 2 => .int
  | _ => .boolean
abbrev wsX50 : List Cond := u_ws RX5 TX5 4
theorem nmX5 : ∀ a, a < 4 → ∀ b, b < 4 → a ≠ b → (TX5 a).2.1 ≠ (TX5 b).2.1 := by decide +kernel
theorem tyX5_ok : ∀ k, k < 4 → parseFieldDescriptor (TX5 k).2.2.1 = some (tyX5 k) := by decide +kernel
abbrev cX5_init : ByteArray := prog_7_method_1_code
def yX5_init : MethodName := ⟨RX5, "<init>", "()V"⟩
abbrev cX5_takes : ByteArray := prog_7_method_2_code
def yX5_takes : MethodName := ⟨RX5, "takes", "(LOffForSecond$Text;)V"⟩
abbrev cX5_add : ByteArray := prog_7_method_3_code
def yX5_add : MethodName := ⟨RX5, "add", "(I)V"⟩
abbrev cX5_work : ByteArray := prog_7_method_4_code
def yX5_work : MethodName := ⟨RX5, "work", "(III)I"⟩
abbrev cX5_named : ByteArray := prog_7_method_5_code
def yX5_named : MethodName := ⟨RX5, "named", "(IIII)I"⟩
abbrev cX5_joined : ByteArray := prog_7_method_6_code
def yX5_joined : MethodName := ⟨RX5, "joined", "(III)I"⟩
def RX6 : String := "OffForSecond$Throat"
def TX6 : u_T := fun k => match k with
  | 0 => ("OffForSecond$Throat", "trace", "[I", true)
  | 1 => ("OffForSecond$Throat", "traced", "I", false)
  | 2 => ("OffForSecond$Throat", "parted", "Z", false)
  | 3 => ("OffForSecond$Throat", "k", "I", false)
  | 4 => ("OffForSecond$Throat", "m", "I", false)
  | _ => ("OffForSecond$Throat", "kind", "I", false)
def tyX6 : Nat → FieldType := fun k => match k with
  | 0 => .array .int
  | 1 => .int
  | 2 => .boolean
  | 3 => .int
  | 4 => .int
  | _ => .int
abbrev wsX60 : List Cond := u_ws RX6 TX6 6
theorem nmX6 : ∀ a, a < 6 → ∀ b, b < 6 → a ≠ b → (TX6 a).2.1 ≠ (TX6 b).2.1 := by decide +kernel
theorem tyX6_ok : ∀ k, k < 6 → parseFieldDescriptor (TX6 k).2.2.1 = some (tyX6 k) := by decide +kernel
abbrev cX6_init : ByteArray := prog_8_method_1_code
def yX6_init : MethodName := ⟨RX6, "<init>", "()V"⟩
abbrev cX6_speak : ByteArray := prog_8_method_2_code
def yX6_speak : MethodName := ⟨RX6, "speak", "(IIIII)I"⟩
abbrev cX6_say : ByteArray := prog_8_method_3_code
def yX6_say : MethodName := ⟨RX6, "say", "(IIII)I"⟩
abbrev cX6_partsOfCurve : ByteArray := prog_8_method_4_code
def yX6_partsOfCurve : MethodName := ⟨RX6, "partsOfCurve", "(II)I"⟩
abbrev cX6_parts : ByteArray := prog_8_method_5_code
def yX6_parts : MethodName := ⟨RX6, "parts", "(I)I"⟩
abbrev cX6_begin : ByteArray := prog_8_method_6_code
def yX6_begin : MethodName := ⟨RX6, "begin", "(I)V"⟩
abbrev cX6_bodyOf : ByteArray := prog_8_method_7_code
def yX6_bodyOf : MethodName := ⟨RX6, "bodyOf", "(II)I"⟩
def RX7 : String := "OffForSecond"
def TX7 : u_T := fun k => match k with
  | 0 => ("OffForSecond", "scene", "LOffForSecond$Scene;", true)
  | 1 => ("OffForSecond", "kept", "LOffForSecond$Scene;", true)
  | 2 => ("OffForSecond", "reader", "LOffForSecond$Reader;", true)
  | 3 => ("OffForSecond", "sheets", "LOffForSecond$Sheets;", true)
  | 4 => ("OffForSecond", "throat", "LOffForSecond$Throat;", true)
  | 5 => ("OffForSecond", "errors", "[I", true)
  | _ => ("OffForSecond", "images", "I", false)
def tyX7 : Nat → FieldType := fun k => match k with
  | 0 => .object "OffForSecond$Scene"
  | 1 => .object "OffForSecond$Scene"
  | 2 => .object "OffForSecond$Reader"
  | 3 => .object "OffForSecond$Sheets"
  | 4 => .object "OffForSecond$Throat"
  | 5 => .array .int
  | _ => .int
abbrev wsX70 : List Cond := u_ws RX7 TX7 7
theorem nmX7 : ∀ a, a < 7 → ∀ b, b < 7 → a ≠ b → (TX7 a).2.1 ≠ (TX7 b).2.1 := by decide +kernel
theorem tyX7_ok : ∀ k, k < 7 → parseFieldDescriptor (TX7 k).2.2.1 = some (tyX7 k) := by decide +kernel
abbrev cX7_init : ByteArray := prog_1_method_1_code
def yX7_init : MethodName := ⟨RX7, "<init>", "()V"⟩
abbrev cX7_pitch : ByteArray := prog_1_method_2_code
def yX7_pitch : MethodName := ⟨RX7, "pitch", "(II)I"⟩
abbrev cX7_pitchIs : ByteArray := prog_1_method_3_code
def yX7_pitchIs : MethodName := ⟨RX7, "pitchIs", "(II)I"⟩
abbrev cX7_become : ByteArray := prog_1_method_4_code
def yX7_become : MethodName := ⟨RX7, "become", "(II)I"⟩
abbrev cX7_as : ByteArray := prog_1_method_5_code
def yX7_as : MethodName := ⟨RX7, "as", "(II)I"⟩
abbrev cX7_weighs : ByteArray := prog_1_method_6_code
def yX7_weighs : MethodName := ⟨RX7, "weighs", "(II)I"⟩
abbrev cX7_runner : ByteArray := prog_1_method_7_code
def yX7_runner : MethodName := ⟨RX7, "runner", "(II)I"⟩
abbrev cX7_runnerIs : ByteArray := prog_1_method_8_code
def yX7_runnerIs : MethodName := ⟨RX7, "runnerIs", "(II)I"⟩
abbrev cX7_leads : ByteArray := prog_1_method_9_code
def yX7_leads : MethodName := ⟨RX7, "leads", "(II)I"⟩
abbrev cX7_set : ByteArray := prog_1_method_10_code
def yX7_set : MethodName := ⟨RX7, "set", "(II)I"⟩
abbrev cX7_steal : ByteArray := prog_1_method_11_code
def yX7_steal : MethodName := ⟨RX7, "steal", "(II)I"⟩
abbrev cX7_over : ByteArray := prog_1_method_12_code
def yX7_over : MethodName := ⟨RX7, "over", "(I)I"⟩
abbrev cX7_feed : ByteArray := prog_1_method_13_code
def yX7_feed : MethodName := ⟨RX7, "feed", "(JI)I"⟩
abbrev cX7_text : ByteArray := prog_1_method_14_code
def yX7_text : MethodName := ⟨RX7, "text", "(I)I"⟩
abbrev cX7_untell : ByteArray := prog_1_method_15_code
def yX7_untell : MethodName := ⟨RX7, "untell", "(I)I"⟩
abbrev cX7_law : ByteArray := prog_1_method_16_code
def yX7_law : MethodName := ⟨RX7, "law", "(IIII)I"⟩
abbrev cX7_margin : ByteArray := prog_1_method_17_code
def yX7_margin : MethodName := ⟨RX7, "margin", "(III)I"⟩
abbrev cX7_leadFor : ByteArray := prog_1_method_18_code
def yX7_leadFor : MethodName := ⟨RX7, "leadFor", "(II)I"⟩
abbrev cX7_bestLead : ByteArray := prog_1_method_19_code
def yX7_bestLead : MethodName := ⟨RX7, "bestLead", "(II)I"⟩
abbrev cX7_odds : ByteArray := prog_1_method_20_code
def yX7_odds : MethodName := ⟨RX7, "odds", "(II)I"⟩
abbrev cX7_go : ByteArray := prog_1_method_21_code
def yX7_go : MethodName := ⟨RX7, "go", "(II)I"⟩
abbrev cX7_duel : ByteArray := prog_1_method_22_code
def yX7_duel : MethodName := ⟨RX7, "duel", "(IIII)I"⟩
abbrev cX7_surely : ByteArray := prog_1_method_23_code
def yX7_surely : MethodName := ⟨RX7, "surely", "(II)I"⟩
abbrev cX7_fits : ByteArray := prog_1_method_24_code
def yX7_fits : MethodName := ⟨RX7, "fits", "(III)I"⟩
abbrev cX7_loose : ByteArray := prog_1_method_25_code
def yX7_loose : MethodName := ⟨RX7, "loose", "(I)I"⟩
abbrev cX7_seed : ByteArray := prog_1_method_26_code
def yX7_seed : MethodName := ⟨RX7, "seed", "(I)I"⟩
abbrev cX7_voice : ByteArray := prog_1_method_27_code
def yX7_voice : MethodName := ⟨RX7, "voice", "(III)I"⟩
abbrev cX7_body : ByteArray := prog_1_method_28_code
def yX7_body : MethodName := ⟨RX7, "body", "(I)I"⟩
abbrev cX7_sheet : ByteArray := prog_1_method_29_code
def yX7_sheet : MethodName := ⟨RX7, "sheet", "(III)I"⟩
abbrev cX7_put : ByteArray := prog_1_method_30_code
def yX7_put : MethodName := ⟨RX7, "put", "(III)I"⟩
abbrev cX7_move : ByteArray := prog_1_method_31_code
def yX7_move : MethodName := ⟨RX7, "move", "(IIIII)I"⟩
abbrev cX7_weightsBy : ByteArray := prog_1_method_32_code
def yX7_weightsBy : MethodName := ⟨RX7, "weightsBy", "(I)I"⟩
abbrev cX7_judge : ByteArray := prog_1_method_33_code
def yX7_judge : MethodName := ⟨RX7, "judge", "(I)I"⟩
abbrev cX7_image : ByteArray := prog_1_method_34_code
def yX7_image : MethodName := ⟨RX7, "image", "()I"⟩
abbrev cX7_restore : ByteArray := prog_1_method_35_code
def yX7_restore : MethodName := ⟨RX7, "restore", "()I"⟩
abbrev cX7_tell : ByteArray := prog_1_method_36_code
def yX7_tell : MethodName := ⟨RX7, "tell", "(I)I"⟩
abbrev cX7_check : ByteArray := prog_1_method_37_code
def yX7_check : MethodName := ⟨RX7, "check", "()I"⟩
abbrev cX7_count : ByteArray := prog_1_method_38_code
def yX7_count : MethodName := ⟨RX7, "count", "(I)I"⟩
abbrev cX7_told : ByteArray := prog_1_method_39_code
def yX7_told : MethodName := ⟨RX7, "told", "(I)I"⟩
abbrev cX7_error : ByteArray := prog_1_method_40_code
def yX7_error : MethodName := ⟨RX7, "error", "(I)I"⟩
abbrev cX7_isPitch : ByteArray := prog_1_method_41_code
def yX7_isPitch : MethodName := ⟨RX7, "isPitch", "(I)Z"⟩
abbrev cX7_isRunner : ByteArray := prog_1_method_42_code
def yX7_isRunner : MethodName := ⟨RX7, "isRunner", "(I)Z"⟩
abbrev cX7_within : ByteArray := prog_1_method_43_code
def yX7_within : MethodName := ⟨RX7, "within", "(III)Z"⟩
abbrev cX7_isDigit : ByteArray := prog_1_method_44_code
def yX7_isDigit : MethodName := ⟨RX7, "isDigit", "(I)Z"⟩
abbrev cX7_isKindAndM : ByteArray := prog_1_method_45_code
def yX7_isKindAndM : MethodName := ⟨RX7, "isKindAndM", "(I)Z"⟩
abbrev cX7_isFeet : ByteArray := prog_1_method_46_code
def yX7_isFeet : MethodName := ⟨RX7, "isFeet", "(I)Z"⟩
abbrev cX7_isUse : ByteArray := prog_1_method_47_code
def yX7_isUse : MethodName := ⟨RX7, "isUse", "(I)Z"⟩
abbrev cX7_isSheet : ByteArray := prog_1_method_48_code
def yX7_isSheet : MethodName := ⟨RX7, "isSheet", "(I)Z"⟩
abbrev cX7_mostOfSetting : ByteArray := prog_1_method_49_code
def yX7_mostOfSetting : MethodName := ⟨RX7, "mostOfSetting", "(I)I"⟩
abbrev cX7_isUnder : ByteArray := prog_1_method_50_code
def yX7_isUnder : MethodName := ⟨RX7, "isUnder", "(II)Z"⟩
abbrev cX7_fitsFrom : ByteArray := prog_1_method_51_code
def yX7_fitsFrom : MethodName := ⟨RX7, "fitsFrom", "(III)Z"⟩
abbrev cX7_partOf : ByteArray := prog_1_method_52_code
def yX7_partOf : MethodName := ⟨RX7, "partOf", "(III)I"⟩
abbrev cX7_commonOf : ByteArray := prog_1_method_53_code
def yX7_commonOf : MethodName := ⟨RX7, "commonOf", "(II)I"⟩
def RX8 : String := "OffForSecondModel"
def TX8 : u_T := fun k => match k with
  | 0 => ("OffForSecondModel", "row", "[I", true)
  | 1 => ("OffForSecondModel", "kept", "[I", true)
  | 2 => ("OffForSecondModel", "images", "I", false)
  | 3 => ("OffForSecondModel", "errors", "[I", true)
  | 4 => ("OffForSecondModel", "bitsOf", "[I", true)
  | 5 => ("OffForSecondModel", "sizeOf", "[I", true)
  | 6 => ("OffForSecondModel", "cells", "[I", true)
  | 7 => ("OffForSecondModel", "act", "[I", true)
  | 8 => ("OffForSecondModel", "with", "[I", true)
  | 9 => ("OffForSecondModel", "facts", "[I", true)
  | 10 => ("OffForSecondModel", "pile", "[I", true)
  | 11 => ("OffForSecondModel", "laid", "I", false)
  | 12 => ("OffForSecondModel", "here", "I", false)
  | 13 => ("OffForSecondModel", "opened", "I", false)
  | 14 => ("OffForSecondModel", "bad", "Z", false)
  | 15 => ("OffForSecondModel", "using", "I", false)
  | 16 => ("OffForSecondModel", "trace", "[I", true)
  | 17 => ("OffForSecondModel", "traced", "I", false)
  | _ => ("OffForSecondModel", "isParted", "Z", false)
def tyX8 : Nat → FieldType := fun k => match k with
  | 0 => .array .int
  | 1 => .array .int
  | 2 => .int
  | 3 => .array .int
  | 4 => .array .int
  | 5 => .array .int
  | 6 => .array .int
  | 7 => .array .int
  | 8 => .array .int
  | 9 => .array .int
  | 10 => .array .int
  | 11 => .int
  | 12 => .int
  | 13 => .int
  | 14 => .boolean
  | 15 => .int
  | 16 => .array .int
  | 17 => .int
  | _ => .boolean
abbrev wsX80 : List Cond := u_ws RX8 TX8 19
theorem nmX8 : ∀ a, a < 19 → ∀ b, b < 19 → a ≠ b → (TX8 a).2.1 ≠ (TX8 b).2.1 := by decide +kernel
theorem tyX8_ok : ∀ k, k < 19 → parseFieldDescriptor (TX8 k).2.2.1 = some (tyX8 k) := by decide +kernel
abbrev cX8_init : ByteArray := prog_10_method_1_code
def yX8_init : MethodName := ⟨RX8, "<init>", "()V"⟩
abbrev cX8_error : ByteArray := prog_10_method_2_code
def yX8_error : MethodName := ⟨RX8, "error", "(I)I"⟩
abbrev cX8_in : ByteArray := prog_10_method_3_code
def yX8_in : MethodName := ⟨RX8, "in", "(III)Z"⟩
abbrev cX8_held : ByteArray := prog_10_method_4_code
def yX8_held : MethodName := ⟨RX8, "held", "(III)I"⟩
abbrev cX8_copyAll : ByteArray := prog_10_method_5_code
def yX8_copyAll : MethodName := ⟨RX8, "copyAll", "([I[I)V"⟩
abbrev cX8_isPitch : ByteArray := prog_10_method_6_code
def yX8_isPitch : MethodName := ⟨RX8, "isPitch", "(I)Z"⟩
abbrev cX8_isRunner : ByteArray := prog_10_method_7_code
def yX8_isRunner : MethodName := ⟨RX8, "isRunner", "(I)Z"⟩
abbrev cX8_isLead : ByteArray := prog_10_method_8_code
def yX8_isLead : MethodName := ⟨RX8, "isLead", "(I)Z"⟩
abbrev cX8_becomes : ByteArray := prog_10_method_9_code
def yX8_becomes : MethodName := ⟨RX8, "becomes", "(II)I"⟩
abbrev cX8_of : ByteArray := prog_10_method_10_code
def yX8_of : MethodName := ⟨RX8, "of", "(II)I"⟩
abbrev cX8_about : ByteArray := prog_10_method_11_code
def yX8_about : MethodName := ⟨RX8, "about", "(II)I"⟩
abbrev cX8_lets : ByteArray := prog_10_method_12_code
def yX8_lets : MethodName := ⟨RX8, "lets", "(III)V"⟩
abbrev cX8_plainAir : ByteArray := prog_10_method_13_code
def yX8_plainAir : MethodName := ⟨RX8, "plainAir", "(I)I"⟩
abbrev cX8_airOf : ByteArray := prog_10_method_14_code
def yX8_airOf : MethodName := ⟨RX8, "airOf", "(I)I"⟩
abbrev cX8_costsOf : ByteArray := prog_10_method_15_code
def yX8_costsOf : MethodName := ⟨RX8, "costsOf", "(I)I"⟩
abbrev cX8_runFrom : ByteArray := prog_10_method_16_code
def yX8_runFrom : MethodName := ⟨RX8, "runFrom", "(II)I"⟩
abbrev cX8_isPickedAt : ByteArray := prog_10_method_17_code
def yX8_isPickedAt : MethodName := ⟨RX8, "isPickedAt", "(II)Z"⟩
abbrev cX8_marginOf : ByteArray := prog_10_method_18_code
def yX8_marginOf : MethodName := ⟨RX8, "marginOf", "(III)I"⟩
abbrev cX8_isSafe : ByteArray := prog_10_method_19_code
def yX8_isSafe : MethodName := ⟨RX8, "isSafe", "(III)Z"⟩
abbrev cX8_gainOf : ByteArray := prog_10_method_20_code
def yX8_gainOf : MethodName := ⟨RX8, "gainOf", "(III)I"⟩
abbrev cX8_isKm : ByteArray := prog_10_method_21_code
def yX8_isKm : MethodName := ⟨RX8, "isKm", "(I)Z"⟩
abbrev cX8_pitch : ByteArray := prog_10_method_22_code
def yX8_pitch : MethodName := ⟨RX8, "pitch", "(II)I"⟩
abbrev cX8_pitchIs : ByteArray := prog_10_method_23_code
def yX8_pitchIs : MethodName := ⟨RX8, "pitchIs", "(II)I"⟩
abbrev cX8_become : ByteArray := prog_10_method_24_code
def yX8_become : MethodName := ⟨RX8, "become", "(II)I"⟩
abbrev cX8_as : ByteArray := prog_10_method_25_code
def yX8_as : MethodName := ⟨RX8, "as", "(II)I"⟩
abbrev cX8_weighs : ByteArray := prog_10_method_26_code
def yX8_weighs : MethodName := ⟨RX8, "weighs", "(II)I"⟩
abbrev cX8_runner : ByteArray := prog_10_method_27_code
def yX8_runner : MethodName := ⟨RX8, "runner", "(II)I"⟩
abbrev cX8_runnerIs : ByteArray := prog_10_method_28_code
def yX8_runnerIs : MethodName := ⟨RX8, "runnerIs", "(II)I"⟩
abbrev cX8_leads : ByteArray := prog_10_method_29_code
def yX8_leads : MethodName := ⟨RX8, "leads", "(II)I"⟩
abbrev cX8_set : ByteArray := prog_10_method_30_code
def yX8_set : MethodName := ⟨RX8, "set", "(II)I"⟩
abbrev cX8_more : ByteArray := prog_10_method_31_code
def yX8_more : MethodName := ⟨RX8, "more", "(I)V"⟩
abbrev cX8_isOut : ByteArray := prog_10_method_32_code
def yX8_isOut : MethodName := ⟨RX8, "isOut", "(I)V"⟩
abbrev cX8_goes : ByteArray := prog_10_method_33_code
def yX8_goes : MethodName := ⟨RX8, "goes", "(II)Z"⟩
abbrev cX8_steal : ByteArray := prog_10_method_34_code
def yX8_steal : MethodName := ⟨RX8, "steal", "(II)I"⟩
abbrev cX8_over : ByteArray := prog_10_method_35_code
def yX8_over : MethodName := ⟨RX8, "over", "(I)I"⟩
abbrev cX8_feed : ByteArray := prog_10_method_36_code
def yX8_feed : MethodName := ⟨RX8, "feed", "(JI)I"⟩
abbrev cX8_look : ByteArray := prog_10_method_37_code
def yX8_look : MethodName := ⟨RX8, "look", "()I"⟩
abbrev cX8_lays : ByteArray := prog_10_method_38_code
def yX8_lays : MethodName := ⟨RX8, "lays", "(II)V"⟩
abbrev cX8_nameOf : ByteArray := prog_10_method_39_code
def yX8_nameOf : MethodName := ⟨RX8, "nameOf", "(I)I"⟩
abbrev cX8_number : ByteArray := prog_10_method_40_code
def yX8_number : MethodName := ⟨RX8, "number", "()V"⟩
abbrev cX8_opens : ByteArray := prog_10_method_41_code
def yX8_opens : MethodName := ⟨RX8, "opens", "(I)V"⟩
abbrev cX8_one : ByteArray := prog_10_method_42_code
def yX8_one : MethodName := ⟨RX8, "one", "()V"⟩
abbrev cX8_times : ByteArray := prog_10_method_43_code
def yX8_times : MethodName := ⟨RX8, "times", "()V"⟩
abbrev cX8_sum : ByteArray := prog_10_method_44_code
def yX8_sum : MethodName := ⟨RX8, "sum", "()V"⟩
abbrev cX8_compares : ByteArray := prog_10_method_45_code
def yX8_compares : MethodName := ⟨RX8, "compares", "()V"⟩
abbrev cX8_all : ByteArray := prog_10_method_46_code
def yX8_all : MethodName := ⟨RX8, "all", "()V"⟩
abbrev cX8_any : ByteArray := prog_10_method_47_code
def yX8_any : MethodName := ⟨RX8, "any", "()V"⟩
abbrev cX8_text : ByteArray := prog_10_method_48_code
def yX8_text : MethodName := ⟨RX8, "text", "(I)I"⟩
abbrev cX8_untell : ByteArray := prog_10_method_49_code
def yX8_untell : MethodName := ⟨RX8, "untell", "(I)I"⟩
abbrev cX8_twoOf : ByteArray := prog_10_method_50_code
def yX8_twoOf : MethodName := ⟨RX8, "twoOf", "(III)I"⟩
abbrev cX8_works : ByteArray := prog_10_method_51_code
def yX8_works : MethodName := ⟨RX8, "works", "(I)I"⟩
abbrev cX8_gives : ByteArray := prog_10_method_52_code
def yX8_gives : MethodName := ⟨RX8, "gives", "(IIII)I"⟩
abbrev cX8_law : ByteArray := prog_10_method_53_code
def yX8_law : MethodName := ⟨RX8, "law", "(IIII)I"⟩
abbrev cX8_margin : ByteArray := prog_10_method_54_code
def yX8_margin : MethodName := ⟨RX8, "margin", "(III)I"⟩
abbrev cX8_leadFor : ByteArray := prog_10_method_55_code
def yX8_leadFor : MethodName := ⟨RX8, "leadFor", "(II)I"⟩
abbrev cX8_gainsFrom : ByteArray := prog_10_method_56_code
def yX8_gainsFrom : MethodName := ⟨RX8, "gainsFrom", "(II)I"⟩
abbrev cX8_bestLead : ByteArray := prog_10_method_57_code
def yX8_bestLead : MethodName := ⟨RX8, "bestLead", "(II)I"⟩
abbrev cX8_weights : ByteArray := prog_10_method_58_code
def yX8_weights : MethodName := ⟨RX8, "weights", "()I"⟩
abbrev cX8_partOf : ByteArray := prog_10_method_59_code
def yX8_partOf : MethodName := ⟨RX8, "partOf", "(III)I"⟩
abbrev cX8_odds : ByteArray := prog_10_method_60_code
def yX8_odds : MethodName := ⟨RX8, "odds", "(II)I"⟩
abbrev cX8_go : ByteArray := prog_10_method_61_code
def yX8_go : MethodName := ⟨RX8, "go", "(II)I"⟩
abbrev cX8_lesser : ByteArray := prog_10_method_62_code
def yX8_lesser : MethodName := ⟨RX8, "lesser", "(II)I"⟩
abbrev cX8_greater : ByteArray := prog_10_method_63_code
def yX8_greater : MethodName := ⟨RX8, "greater", "(II)I"⟩
abbrev cX8_duel : ByteArray := prog_10_method_64_code
def yX8_duel : MethodName := ⟨RX8, "duel", "(IIII)I"⟩
abbrev cX8_surely : ByteArray := prog_10_method_65_code
def yX8_surely : MethodName := ⟨RX8, "surely", "(II)I"⟩
abbrev cX8_isSo : ByteArray := prog_10_method_66_code
def yX8_isSo : MethodName := ⟨RX8, "isSo", "(III)Z"⟩
abbrev cX8_fits : ByteArray := prog_10_method_67_code
def yX8_fits : MethodName := ⟨RX8, "fits", "(III)I"⟩
abbrev cX8_draw : ByteArray := prog_10_method_68_code
def yX8_draw : MethodName := ⟨RX8, "draw", "()I"⟩
abbrev cX8_drawn : ByteArray := prog_10_method_69_code
def yX8_drawn : MethodName := ⟨RX8, "drawn", "()Z"⟩
abbrev cX8_loose : ByteArray := prog_10_method_70_code
def yX8_loose : MethodName := ⟨RX8, "loose", "(I)I"⟩
abbrev cX8_seed : ByteArray := prog_10_method_71_code
def yX8_seed : MethodName := ⟨RX8, "seed", "(I)I"⟩
abbrev cX8_begins : ByteArray := prog_10_method_72_code
def yX8_begins : MethodName := ⟨RX8, "begins", "(I)V"⟩
abbrev cX8_plainHisses : ByteArray := prog_10_method_73_code
def yX8_plainHisses : MethodName := ⟨RX8, "plainHisses", "(II)I"⟩
abbrev cX8_curveHisses : ByteArray := prog_10_method_74_code
def yX8_curveHisses : MethodName := ⟨RX8, "curveHisses", "(II)I"⟩
abbrev cX8_hisses : ByteArray := prog_10_method_75_code
def yX8_hisses : MethodName := ⟨RX8, "hisses", "(II)I"⟩
abbrev cX8_plainDrops : ByteArray := prog_10_method_76_code
def yX8_plainDrops : MethodName := ⟨RX8, "plainDrops", "(II)I"⟩
abbrev cX8_hardDrops : ByteArray := prog_10_method_77_code
def yX8_hardDrops : MethodName := ⟨RX8, "hardDrops", "(II)I"⟩
abbrev cX8_drops : ByteArray := prog_10_method_78_code
def yX8_drops : MethodName := ⟨RX8, "drops", "(II)I"⟩
abbrev cX8_plainThuds : ByteArray := prog_10_method_79_code
def yX8_plainThuds : MethodName := ⟨RX8, "plainThuds", "(II)I"⟩
abbrev cX8_thuds : ByteArray := prog_10_method_80_code
def yX8_thuds : MethodName := ⟨RX8, "thuds", "(II)I"⟩
abbrev cX8_plainParts : ByteArray := prog_10_method_81_code
def yX8_plainParts : MethodName := ⟨RX8, "plainParts", "(II)I"⟩
abbrev cX8_partsBy : ByteArray := prog_10_method_82_code
def yX8_partsBy : MethodName := ⟨RX8, "partsBy", "(II)I"⟩
abbrev cX8_voice : ByteArray := prog_10_method_83_code
def yX8_voice : MethodName := ⟨RX8, "voice", "(III)I"⟩
abbrev cX8_body : ByteArray := prog_10_method_84_code
def yX8_body : MethodName := ⟨RX8, "body", "(I)I"⟩
abbrev cX8_isSheet : ByteArray := prog_10_method_85_code
def yX8_isSheet : MethodName := ⟨RX8, "isSheet", "(I)Z"⟩
abbrev cX8_sheet : ByteArray := prog_10_method_86_code
def yX8_sheet : MethodName := ⟨RX8, "sheet", "(III)I"⟩
abbrev cX8_notThere : ByteArray := prog_10_method_87_code
def yX8_notThere : MethodName := ⟨RX8, "notThere", "(I)I"⟩
abbrev cX8_put : ByteArray := prog_10_method_88_code
def yX8_put : MethodName := ⟨RX8, "put", "(III)I"⟩
abbrev cX8_notMoved : ByteArray := prog_10_method_89_code
def yX8_notMoved : MethodName := ⟨RX8, "notMoved", "(IIIII)I"⟩
abbrev cX8_move : ByteArray := prog_10_method_90_code
def yX8_move : MethodName := ⟨RX8, "move", "(IIIII)I"⟩
abbrev cX8_weightsBy : ByteArray := prog_10_method_91_code
def yX8_weightsBy : MethodName := ⟨RX8, "weightsBy", "(I)I"⟩
abbrev cX8_judge : ByteArray := prog_10_method_92_code
def yX8_judge : MethodName := ⟨RX8, "judge", "(I)I"⟩
abbrev cX8_image : ByteArray := prog_10_method_93_code
def yX8_image : MethodName := ⟨RX8, "image", "()I"⟩
abbrev cX8_restore : ByteArray := prog_10_method_94_code
def yX8_restore : MethodName := ⟨RX8, "restore", "()I"⟩
abbrev cX8_tell : ByteArray := prog_10_method_95_code
def yX8_tell : MethodName := ⟨RX8, "tell", "(I)I"⟩
abbrev cX8_check : ByteArray := prog_10_method_96_code
def yX8_check : MethodName := ⟨RX8, "check", "()I"⟩
abbrev cX8_count : ByteArray := prog_10_method_97_code
def yX8_count : MethodName := ⟨RX8, "count", "(I)I"⟩
abbrev cX8_told : ByteArray := prog_10_method_98_code
def yX8_told : MethodName := ⟨RX8, "told", "(I)I"⟩
def RJ6 : String := "java/lang/Integer"
def TJ6 : u_T := fun k => match k with
  | _ => ("", "", "", false)
def tyJ6 : Nat → FieldType := fun k => match k with
  | _ => .int
abbrev wsJ60 : List Cond := u_ws RJ6 TJ6 0
theorem nmJ6 : ∀ a, a < 0 → ∀ b, b < 0 → a ≠ b → (TJ6 a).2.1 ≠ (TJ6 b).2.1 := by decide +kernel
theorem tyJ6_ok : ∀ k, k < 0 → parseFieldDescriptor (TJ6 k).2.2.1 = some (tyJ6 k) := by decide +kernel
abbrev cJ6_bitCount_0f7a4 : ByteArray := prog_11_method_49_code
def yJ6_bitCount_0f7a4 : MethodName := ⟨RJ6, "bitCount", "(I)I"⟩
def RJ9 : String := "java/lang/Math"
def TJ9 : u_T := fun k => match k with
  | _ => ("", "", "", false)
def tyJ9 : Nat → FieldType := fun k => match k with
  | _ => .int
abbrev wsJ90 : List Cond := u_ws RJ9 TJ9 0
theorem nmJ9 : ∀ a, a < 0 → ∀ b, b < 0 → a ≠ b → (TJ9 a).2.1 ≠ (TJ9 b).2.1 := by decide +kernel
theorem tyJ9_ok : ∀ k, k < 0 → parseFieldDescriptor (TJ9 k).2.2.1 = some (tyJ9 k) := by decide +kernel
abbrev cJ9_abs_0f7a4 : ByteArray := prog_12_method_59_code
def yJ9_abs_0f7a4 : MethodName := ⟨RJ9, "abs", "(I)I"⟩
abbrev cJ9_max_7cf53 : ByteArray := prog_12_method_65_code
def yJ9_max_7cf53 : MethodName := ⟨RJ9, "max", "(II)I"⟩
abbrev cJ9_min_7cf53 : ByteArray := prog_12_method_69_code
def yJ9_min_7cf53 : MethodName := ⟨RJ9, "min", "(II)I"⟩
def RJ10 : String := "java/lang/System"
def TJ10 : u_T := fun k => match k with
  | _ => ("", "", "", false)
def tyJ10 : Nat → FieldType := fun k => match k with
  | _ => .int
abbrev wsJ100 : List Cond := u_ws RJ10 TJ10 0
theorem nmJ10 : ∀ a, a < 0 → ∀ b, b < 0 → a ≠ b → (TJ10 a).2.1 ≠ (TJ10 b).2.1 := by decide +kernel
theorem tyJ10_ok : ∀ k, k < 0 → parseFieldDescriptor (TJ10 k).2.2.1 = some (tyJ10 k) := by decide +kernel
abbrev vwCl : List vw_C := [(RX0, TX0, 5), (RX1, TX1, 7), (RX2, TX2, 6), (RX3, TX3, 15), (RX4, TX4, 3), (RX5, TX5, 4), (RX6, TX6, 6), (RX7, TX7, 7), (RX8, TX8, 19)]
def AL_u : List Cond := wsX00 ++ wsX10 ++ wsX20 ++ wsX30 ++ wsX40 ++ wsX50 ++ wsX60 ++ wsX70 ++ wsX80
def AL_0 : List Cond := [.arrayClass .byte, .arrayClass .int, .classLink RX1 9 RX5, .classLink RX3 18 RX2, .classLink RX3 25 RX5, .classLink RX3 9 RX0, .classLink RX7 19 RX1, .classLink RX7 26 RX4, .classLink RX7 33 RX6, .classLink RX7 7 RX3, .code Lib.Math.abs.name Lib.Math.abs.code 1 (some .int), .code Lib.Math.max.name Lib.Math.max.code 2 (some .int), .code Lib.Math.min.name Lib.Math.min.code 2 (some .int), .code objectInit ⟨#[0xb1]⟩ 1 none, .code yJ6_bitCount_0f7a4 cJ6_bitCount_0f7a4 1 (some .int), .code yX0_add cX0_add 4 (some .int), .code yX0_allWeights cX0_allWeights 3 (some .int), .code yX0_byWeight cX0_byWeight 4 (some .int), .code yX0_init cX0_init 1 none, .code yX0_takes cX0_takes 2 none, .code yX1_begins cX1_begins 4 (some .boolean), .code yX1_closes cX1_closes 1 (some .boolean), .code yX1_continues cX1_continues 3 (some .boolean), .code yX1_faultOf cX1_faultOf 7 (some .int), .code yX1_init cX1_init 1 none]
def AL_1 : List Cond := [.code yX1_isNumeral cX1_isNumeral 1 (some .boolean), .code yX1_lengthens cX1_lengthens 3 (some .boolean), .code yX1_park cX1_park 2 none, .code yX1_rankOf cX1_rankOf 1 (some .int), .code yX1_settle cX1_settle 2 none, .code yX2_add cX2_add 4 (some .int), .code yX2_backFrom cX2_backFrom 3 (some .int), .code yX2_init cX2_init 1 none, .code yX2_runFrom cX2_runFrom 3 (some .int), .code yX2_takes cX2_takes 2 none, .code yX3_air cX3_air 2 (some .int), .code yX3_airByKind cX3_airByKind 4 (some .int), .code yX3_change cX3_change 4 (some .int), .code yX3_costs cX3_costs 2 (some .int), .code yX3_draw cX3_draw 1 (some .int), .code yX3_gainFrom cX3_gainFrom 4 (some .int), .code yX3_gainOf cX3_gainOf 2 (some .int), .code yX3_gives cX3_gives 6 (some .int), .code yX3_goes cX3_goes 4 (some .boolean), .code yX3_held cX3_held 3 (some .int), .code yX3_init cX3_init 1 none, .code yX3_isOut cX3_isOut 2 none, .code yX3_isPicked cX3_isPicked 3 (some .boolean), .code yX3_isSafeByDraws cX3_isSafeByDraws 4 (some .boolean), .code yX3_marginFrom cX3_marginFrom 4 (some .int)]
def AL_2 : List Cond := [.code yX3_oneMore cX3_oneMore 1 (some .int), .code yX3_safePitches cX3_safePitches 5 (some .int), .code yX3_safeWeights cX3_safeWeights 5 (some .int), .code yX3_takes cX3_takes 2 none, .code yX3_textOf cX3_textOf 2 (some (.object "OffForSecond$Text")), .code yX3_weighedGains cX3_weighedGains 5 (some .int), .code yX4_copy cX4_copy 6 none, .code yX4_init cX4_init 1 none, .code yX4_isMissing cX4_isMissing 2 (some .boolean), .code yX4_lay cX4_lay 5 none, .code yX4_read cX4_read 3 (some .int), .code yX4_standsAt cX4_standsAt 4 (some .boolean), .code yX4_write cX4_write 5 none, .code yX5_add cX5_add 2 none, .code yX5_init cX5_init 1 none, .code yX5_joined cX5_joined 3 (some .int), .code yX5_named cX5_named 4 (some .int), .code yX5_takes cX5_takes 2 none, .code yX5_work cX5_work 7 (some .int), .code yX6_begin cX6_begin 2 none, .code yX6_bodyOf cX6_bodyOf 5 (some .int), .code yX6_init cX6_init 1 none, .code yX6_parts cX6_parts 3 (some .int), .code yX6_partsOfCurve cX6_partsOfCurve 4 (some .int), .code yX6_say cX6_say 7 (some .int)]
def AL_3 : List Cond := [.code yX6_speak cX6_speak 6 (some .int), .code yX7_as cX7_as 3 (some .int), .code yX7_become cX7_become 4 (some .int), .code yX7_bestLead cX7_bestLead 7 (some .int), .code yX7_body cX7_body 2 (some .int), .code yX7_check cX7_check 3 (some .int), .code yX7_commonOf cX7_commonOf 6 (some .int), .code yX7_count cX7_count 2 (some .int), .code yX7_duel cX7_duel 12 (some .int), .code yX7_error cX7_error 2 (some .int), .code yX7_feed cX7_feed 5 (some .int), .code yX7_fits cX7_fits 7 (some .int), .code yX7_fitsFrom cX7_fitsFrom 7 (some .boolean), .code yX7_go cX7_go 4 (some .int), .code yX7_image cX7_image 1 (some .int), .code yX7_init cX7_init 1 none, .code yX7_isDigit cX7_isDigit 1 (some .boolean), .code yX7_isFeet cX7_isFeet 1 (some .boolean), .code yX7_isKindAndM cX7_isKindAndM 1 (some .boolean), .code yX7_isPitch cX7_isPitch 2 (some .boolean), .code yX7_isRunner cX7_isRunner 2 (some .boolean), .code yX7_isSheet cX7_isSheet 1 (some .boolean), .code yX7_isUnder cX7_isUnder 4 (some .boolean), .code yX7_isUse cX7_isUse 1 (some .boolean), .code yX7_judge cX7_judge 4 (some .int)]
def AL_4 : List Cond := [.code yX7_law cX7_law 5 (some .int), .code yX7_leadFor cX7_leadFor 4 (some .int), .code yX7_leads cX7_leads 4 (some .int), .code yX7_loose cX7_loose 4 (some .int), .code yX7_margin cX7_margin 4 (some .int), .code yX7_mostOfSetting cX7_mostOfSetting 1 (some .int), .code yX7_move cX7_move 6 (some .int), .code yX7_odds cX7_odds 4 (some .int), .code yX7_over cX7_over 2 (some .int), .code yX7_partOf cX7_partOf 4 (some .int), .code yX7_pitch cX7_pitch 3 (some .int), .code yX7_pitchIs cX7_pitchIs 3 (some .int), .code yX7_put cX7_put 4 (some .int), .code yX7_restore cX7_restore 1 (some .int), .code yX7_runner cX7_runner 3 (some .int), .code yX7_runnerIs cX7_runnerIs 4 (some .int), .code yX7_seed cX7_seed 3 (some .int), .code yX7_set cX7_set 3 (some .int), .code yX7_sheet cX7_sheet 4 (some .int), .code yX7_steal cX7_steal 3 (some .int), .code yX7_surely cX7_surely 4 (some .int), .code yX7_tell cX7_tell 2 (some .int), .code yX7_text cX7_text 3 (some .int), .code yX7_told cX7_told 2 (some .int), .code yX7_untell cX7_untell 4 (some .int)]
def AL_5 : List Cond := [.code yX7_voice cX7_voice 5 (some .int), .code yX7_weighs cX7_weighs 4 (some .int), .code yX7_weightsBy cX7_weightsBy 5 (some .int), .code yX7_within cX7_within 3 (some .boolean), .code yX8_about cX8_about 3 (some .int), .code yX8_airOf cX8_airOf 2 (some .int), .code yX8_all cX8_all 1 none, .code yX8_any cX8_any 1 none, .code yX8_as cX8_as 5 (some .int), .code yX8_become cX8_become 3 (some .int), .code yX8_becomes cX8_becomes 4 (some .int), .code yX8_begins cX8_begins 2 none, .code yX8_bestLead cX8_bestLead 8 (some .int), .code yX8_body cX8_body 2 (some .int), .code yX8_check cX8_check 3 (some .int), .code yX8_compares cX8_compares 2 none, .code yX8_copyAll cX8_copyAll 3 none, .code yX8_costsOf cX8_costsOf 2 (some .int), .code yX8_count cX8_count 2 (some .int), .code yX8_curveHisses cX8_curveHisses 3 (some .int), .code yX8_draw cX8_draw 1 (some .int), .code yX8_drawn cX8_drawn 6 (some .boolean), .code yX8_drops cX8_drops 3 (some .int), .code yX8_duel cX8_duel 11 (some .int), .code yX8_error cX8_error 2 (some .int)]
def AL_6 : List Cond := [.code yX8_feed cX8_feed 5 (some .int), .code yX8_fits cX8_fits 8 (some .int), .code yX8_gainOf cX8_gainOf 5 (some .int), .code yX8_gainsFrom cX8_gainsFrom 5 (some .int), .code yX8_gives cX8_gives 7 (some .int), .code yX8_go cX8_go 4 (some .int), .code yX8_goes cX8_goes 5 (some .boolean), .code yX8_greater cX8_greater 2 (some .int), .code yX8_hardDrops cX8_hardDrops 3 (some .int), .code yX8_held cX8_held 3 (some .int), .code yX8_hisses cX8_hisses 3 (some .int), .code yX8_image cX8_image 1 (some .int), .code yX8_in cX8_in 3 (some .boolean), .code yX8_init cX8_init 1 none, .code yX8_isKm cX8_isKm 1 (some .boolean), .code yX8_isLead cX8_isLead 1 (some .boolean), .code yX8_isOut cX8_isOut 2 none, .code yX8_isPickedAt cX8_isPickedAt 3 (some .boolean), .code yX8_isPitch cX8_isPitch 2 (some .boolean), .code yX8_isRunner cX8_isRunner 2 (some .boolean), .code yX8_isSafe cX8_isSafe 4 (some .boolean), .code yX8_isSheet cX8_isSheet 1 (some .boolean), .code yX8_isSo cX8_isSo 6 (some .boolean), .code yX8_judge cX8_judge 4 (some .int), .code yX8_law cX8_law 5 (some .int)]
def AL_7 : List Cond := [.code yX8_lays cX8_lays 3 none, .code yX8_leadFor cX8_leadFor 4 (some .int), .code yX8_leads cX8_leads 3 (some .int), .code yX8_lesser cX8_lesser 2 (some .int), .code yX8_lets cX8_lets 4 none, .code yX8_look cX8_look 1 (some .int), .code yX8_loose cX8_loose 4 (some .int), .code yX8_margin cX8_margin 4 (some .int), .code yX8_marginOf cX8_marginOf 4 (some .int), .code yX8_more cX8_more 2 none, .code yX8_move cX8_move 9 (some .int), .code yX8_nameOf cX8_nameOf 2 (some .int), .code yX8_notMoved cX8_notMoved 7 (some .int), .code yX8_notThere cX8_notThere 2 (some .int), .code yX8_number cX8_number 3 none, .code yX8_odds cX8_odds 6 (some .int), .code yX8_of cX8_of 3 (some .int), .code yX8_one cX8_one 3 none, .code yX8_opens cX8_opens 2 none, .code yX8_over cX8_over 3 (some .int), .code yX8_partOf cX8_partOf 6 (some .int), .code yX8_partsBy cX8_partsBy 4 (some .int), .code yX8_pitch cX8_pitch 4 (some .int), .code yX8_pitchIs cX8_pitchIs 3 (some .int), .code yX8_plainAir cX8_plainAir 4 (some .int)]
def AL_8 : List Cond := [.code yX8_plainDrops cX8_plainDrops 3 (some .int), .code yX8_plainHisses cX8_plainHisses 3 (some .int), .code yX8_plainParts cX8_plainParts 4 (some .int), .code yX8_plainThuds cX8_plainThuds 3 (some .int), .code yX8_put cX8_put 5 (some .int), .code yX8_restore cX8_restore 1 (some .int), .code yX8_runFrom cX8_runFrom 3 (some .int), .code yX8_runner cX8_runner 4 (some .int), .code yX8_runnerIs cX8_runnerIs 4 (some .int), .code yX8_seed cX8_seed 2 (some .int), .code yX8_set cX8_set 4 (some .int), .code yX8_sheet cX8_sheet 5 (some .int), .code yX8_steal cX8_steal 3 (some .int), .code yX8_sum cX8_sum 2 none, .code yX8_surely cX8_surely 7 (some .int), .code yX8_tell cX8_tell 2 (some .int), .code yX8_text cX8_text 4 (some .int), .code yX8_thuds cX8_thuds 3 (some .int), .code yX8_times cX8_times 2 none, .code yX8_told cX8_told 2 (some .int), .code yX8_twoOf cX8_twoOf 3 (some .int), .code yX8_untell cX8_untell 2 (some .int), .code yX8_voice cX8_voice 5 (some .int), .code yX8_weighs cX8_weighs 3 (some .int), .code yX8_weights cX8_weights 3 (some .int)]
def AL_9 : List Cond := [.code yX8_weightsBy cX8_weightsBy 4 (some .int), .code yX8_works cX8_works 5 (some .int), .constant RJ6 265 (1431655765), .constant RJ6 266 (858993459), .constant RJ6 267 (252645135), .constant RX3 156 (1103515245), .constant RX4 21 (65535), .constant RX7 299 (-1000000000), .constant RX8 185 (-1000000002), .constant RX8 192 (-1000000003), .constant RX8 208 (1103515245), .constant RX8 255 (-1000000006), .constant RX8 43 (-1000000000), .constant RX8 77 (-1000000001), .constant RX8 81 (-1000000004), .constant RX8 91 (-1000000005), .constantLong RX8 125 (255), .fieldLink RX0 15 "OffForSecond$Pitches" "m" "[I", .fieldLink RX0 18 "OffForSecond$Pitches" "weight" "[I", .fieldLink RX0 21 "OffForSecond$Pitches" "thrown" "[I", .fieldLink RX0 24 "OffForSecond$Pitches" "size" "I", .fieldLink RX0 9 "OffForSecond$Pitches" "kind" "[I", .fieldLink RX1 12 "OffForSecond$Reader" "draft" "LOffForSecond$Text;", .fieldLink RX1 18 "OffForSecond$Reader" "signs" "[I", .fieldLink RX1 22 "OffForSecond$Reader" "height" "I"]
def AL_10 : List Cond := [.fieldLink RX1 26 "OffForSecond$Reader" "open" "I", .fieldLink RX1 29 "OffForSecond$Reader" "groups" "I", .fieldLink RX1 32 "OffForSecond$Reader" "digits" "I", .fieldLink RX1 35 "OffForSecond$Reader" "wantsOne" "Z", .fieldLink RX1 39 "OffForSecond$Text" "size" "I", .fieldLink RX1 42 "OffForSecond$Text" "isThere" "Z", .fieldLink RX1 81 "OffForSecond$Text" "steps" "[I", .fieldLink RX2 15 "OffForSecond$Runners" "pace" "[I", .fieldLink RX2 18 "OffForSecond$Runners" "lead" "[I", .fieldLink RX2 21 "OffForSecond$Runners" "stolen" "[I", .fieldLink RX2 24 "OffForSecond$Runners" "caught" "[I", .fieldLink RX2 27 "OffForSecond$Runners" "size" "I", .fieldLink RX2 9 "OffForSecond$Runners" "start" "[I", .fieldLink RX3 101 "OffForSecond$Pitches" "kind" "[I", .fieldLink RX3 104 "OffForSecond$Pitches" "thrown" "[I", .fieldLink RX3 12 "OffForSecond$Scene" "pitches" "LOffForSecond$Pitches;", .fieldLink RX3 131 "OffForSecond$Pitches" "size" "I", .fieldLink RX3 134 "OffForSecond$Pitches" "weight" "[I", .fieldLink RX3 140 "OffForSecond$Runners" "lead" "[I", .fieldLink RX3 150 "OffForSecond$Runners" "stolen" "[I", .fieldLink RX3 153 "OffForSecond$Runners" "caught" "[I", .fieldLink RX3 161 "OffForSecond$Runners" "size" "I", .fieldLink RX3 21 "OffForSecond$Scene" "runners" "LOffForSecond$Runners;", .fieldLink RX3 28 "OffForSecond$Scene" "airText" "LOffForSecond$Text;", .fieldLink RX3 32 "OffForSecond$Scene" "gainText" "LOffForSecond$Text;"]
def AL_11 : List Cond := [.fieldLink RX3 35 "OffForSecond$Scene" "tape" "[B", .fieldLink RX3 39 "OffForSecond$Scene" "taped" "I", .fieldLink RX3 43 "OffForSecond$Scene" "waiting" "[I", .fieldLink RX3 47 "OffForSecond$Scene" "waits" "I", .fieldLink RX3 50 "OffForSecond$Scene" "lift" "I", .fieldLink RX3 53 "OffForSecond$Scene" "pop" "I", .fieldLink RX3 56 "OffForSecond$Scene" "wet" "I", .fieldLink RX3 59 "OffForSecond$Scene" "outs" "I", .fieldLink RX3 62 "OffForSecond$Scene" "innings" "I", .fieldLink RX3 65 "OffForSecond$Scene" "worth" "I", .fieldLink RX3 68 "OffForSecond$Scene" "z" "I", .fieldLink RX3 87 "OffForSecond$Text" "isThere" "Z", .fieldLink RX3 98 "OffForSecond$Pitches" "m" "[I", .fieldLink RX4 15 "OffForSecond$Sheets" "size" "[I", .fieldLink RX4 18 "OffForSecond$Sheets" "numbers" "[I", .fieldLink RX4 9 "OffForSecond$Sheets" "bits" "[I", .fieldLink RX5 15 "OffForSecond$Text" "stack" "[I", .fieldLink RX5 18 "OffForSecond$Text" "size" "I", .fieldLink RX5 22 "OffForSecond$Text" "isThere" "Z", .fieldLink RX5 9 "OffForSecond$Text" "steps" "[I", .fieldLink RX6 15 "OffForSecond$Throat" "traced" "I", .fieldLink RX6 19 "OffForSecond$Throat" "parted" "Z", .fieldLink RX6 23 "OffForSecond$Throat" "k" "I", .fieldLink RX6 26 "OffForSecond$Throat" "m" "I", .fieldLink RX6 29 "OffForSecond$Throat" "kind" "I"]
def AL_12 : List Cond := [.fieldLink RX6 9 "OffForSecond$Throat" "trace" "[I", .fieldLink RX7 10 "OffForSecond" "scene" "LOffForSecond$Scene;", .fieldLink RX7 101 "OffForSecond$Scene" "runners" "LOffForSecond$Runners;", .fieldLink RX7 105 "OffForSecond$Runners" "size" "I", .fieldLink RX7 112 "OffForSecond$Runners" "lead" "[I", .fieldLink RX7 115 "OffForSecond$Runners" "start" "[I", .fieldLink RX7 118 "OffForSecond$Runners" "pace" "[I", .fieldLink RX7 121 "OffForSecond$Runners" "stolen" "[I", .fieldLink RX7 124 "OffForSecond$Runners" "caught" "[I", .fieldLink RX7 149 "OffForSecond$Scene" "taped" "I", .fieldLink RX7 152 "OffForSecond$Scene" "tape" "[B", .fieldLink RX7 16 "OffForSecond" "kept" "LOffForSecond$Scene;", .fieldLink RX7 167 "OffForSecond$Reader" "draft" "LOffForSecond$Text;", .fieldLink RX7 177 "OffForSecond$Text" "isThere" "Z", .fieldLink RX7 22 "OffForSecond" "reader" "LOffForSecond$Reader;", .fieldLink RX7 234 "OffForSecond$Scene" "z" "I", .fieldLink RX7 241 "OffForSecond$Throat" "parted" "Z", .fieldLink RX7 244 "OffForSecond$Throat" "traced" "I", .fieldLink RX7 247 "OffForSecond$Throat" "trace" "[I", .fieldLink RX7 260 "OffForSecond$Sheets" "bits" "[I", .fieldLink RX7 267 "OffForSecond$Sheets" "size" "[I", .fieldLink RX7 275 "OffForSecond$Scene" "innings" "I", .fieldLink RX7 278 "OffForSecond$Scene" "waits" "I", .fieldLink RX7 281 "OffForSecond$Scene" "waiting" "[I", .fieldLink RX7 284 "OffForSecond$Scene" "outs" "I"]
def AL_13 : List Cond := [.fieldLink RX7 287 "OffForSecond$Scene" "worth" "I", .fieldLink RX7 29 "OffForSecond" "sheets" "LOffForSecond$Sheets;", .fieldLink RX7 290 "OffForSecond$Scene" "lift" "I", .fieldLink RX7 293 "OffForSecond$Scene" "pop" "I", .fieldLink RX7 296 "OffForSecond$Scene" "wet" "I", .fieldLink RX7 300 "OffForSecond" "ABOVE" "[I", .fieldLink RX7 36 "OffForSecond" "throat" "LOffForSecond$Throat;", .fieldLink RX7 40 "OffForSecond" "errors" "[I", .fieldLink RX7 44 "OffForSecond" "images" "I", .fieldLink RX7 59 "OffForSecond$Scene" "pitches" "LOffForSecond$Pitches;", .fieldLink RX7 63 "OffForSecond$Pitches" "size" "I", .fieldLink RX7 75 "OffForSecond$Pitches" "kind" "[I", .fieldLink RX7 78 "OffForSecond$Pitches" "m" "[I", .fieldLink RX7 81 "OffForSecond$Pitches" "weight" "[I", .fieldLink RX7 84 "OffForSecond$Pitches" "thrown" "[I", .fieldLink RX8 127 "OffForSecondModel" "here" "I", .fieldLink RX8 13 "OffForSecondModel" "kept" "[I", .fieldLink RX8 131 "OffForSecondModel" "laid" "I", .fieldLink RX8 134 "OffForSecondModel" "using" "I", .fieldLink RX8 141 "OffForSecondModel" "bad" "Z", .fieldLink RX8 149 "OffForSecondModel" "opened" "I", .fieldLink RX8 16 "OffForSecondModel" "errors" "[I", .fieldLink RX8 19 "OffForSecondModel" "bitsOf" "[I", .fieldLink RX8 216 "OffForSecondModel" "traced" "I", .fieldLink RX8 22 "OffForSecondModel" "sizeOf" "[I"]
def AL_14 : List Cond := [.fieldLink RX8 243 "OffForSecondModel" "isParted" "Z", .fieldLink RX8 25 "OffForSecondModel" "cells" "[I", .fieldLink RX8 267 "OffForSecondModel" "images" "I", .fieldLink RX8 28 "OffForSecondModel" "act" "[I", .fieldLink RX8 31 "OffForSecondModel" "with" "[I", .fieldLink RX8 34 "OffForSecondModel" "facts" "[I", .fieldLink RX8 37 "OffForSecondModel" "pile" "[I", .fieldLink RX8 40 "OffForSecondModel" "trace" "[I", .fieldLink RX8 9 "OffForSecondModel" "row" "[I", .initialized "java/lang/Math", .initialized "java/lang/System", .initialized RJ6, .initialized RX0, .initialized RX1, .initialized RX2, .initialized RX3, .initialized RX4, .initialized RX5, .initialized RX6, .initialized RX7, .initialized RX8, .instanceMethod objectInit, .instanceMethod yX0_add, .instanceMethod yX0_allWeights, .instanceMethod yX0_byWeight]
def AL_15 : List Cond := [.instanceMethod yX0_init, .instanceMethod yX0_takes, .instanceMethod yX1_begins, .instanceMethod yX1_closes, .instanceMethod yX1_continues, .instanceMethod yX1_faultOf, .instanceMethod yX1_init, .instanceMethod yX1_lengthens, .instanceMethod yX1_park, .instanceMethod yX1_settle, .instanceMethod yX2_add, .instanceMethod yX2_backFrom, .instanceMethod yX2_init, .instanceMethod yX2_runFrom, .instanceMethod yX2_takes, .instanceMethod yX3_air, .instanceMethod yX3_airByKind, .instanceMethod yX3_change, .instanceMethod yX3_costs, .instanceMethod yX3_draw, .instanceMethod yX3_gainFrom, .instanceMethod yX3_gainOf, .instanceMethod yX3_gives, .instanceMethod yX3_goes, .instanceMethod yX3_init]
def AL_16 : List Cond := [.instanceMethod yX3_isOut, .instanceMethod yX3_isPicked, .instanceMethod yX3_isSafeByDraws, .instanceMethod yX3_marginFrom, .instanceMethod yX3_safePitches, .instanceMethod yX3_safeWeights, .instanceMethod yX3_takes, .instanceMethod yX3_textOf, .instanceMethod yX3_weighedGains, .instanceMethod yX4_copy, .instanceMethod yX4_init, .instanceMethod yX4_isMissing, .instanceMethod yX4_lay, .instanceMethod yX4_read, .instanceMethod yX4_standsAt, .instanceMethod yX4_write, .instanceMethod yX5_add, .instanceMethod yX5_init, .instanceMethod yX5_takes, .instanceMethod yX5_work, .instanceMethod yX6_begin, .instanceMethod yX6_init, .instanceMethod yX6_parts, .instanceMethod yX6_partsOfCurve, .instanceMethod yX6_say]
def AL_17 : List Cond := [.instanceMethod yX6_speak, .instanceMethod yX7_as, .instanceMethod yX7_become, .instanceMethod yX7_bestLead, .instanceMethod yX7_body, .instanceMethod yX7_check, .instanceMethod yX7_count, .instanceMethod yX7_duel, .instanceMethod yX7_error, .instanceMethod yX7_feed, .instanceMethod yX7_fits, .instanceMethod yX7_fitsFrom, .instanceMethod yX7_go, .instanceMethod yX7_image, .instanceMethod yX7_init, .instanceMethod yX7_isPitch, .instanceMethod yX7_isRunner, .instanceMethod yX7_judge, .instanceMethod yX7_law, .instanceMethod yX7_leadFor, .instanceMethod yX7_leads, .instanceMethod yX7_loose, .instanceMethod yX7_margin, .instanceMethod yX7_move, .instanceMethod yX7_odds]
def AL_18 : List Cond := [.instanceMethod yX7_over, .instanceMethod yX7_pitch, .instanceMethod yX7_pitchIs, .instanceMethod yX7_put, .instanceMethod yX7_restore, .instanceMethod yX7_runner, .instanceMethod yX7_runnerIs, .instanceMethod yX7_seed, .instanceMethod yX7_set, .instanceMethod yX7_sheet, .instanceMethod yX7_steal, .instanceMethod yX7_surely, .instanceMethod yX7_tell, .instanceMethod yX7_text, .instanceMethod yX7_told, .instanceMethod yX7_untell, .instanceMethod yX7_voice, .instanceMethod yX7_weighs, .instanceMethod yX7_weightsBy, .instanceMethod yX8_about, .instanceMethod yX8_airOf, .instanceMethod yX8_all, .instanceMethod yX8_any, .instanceMethod yX8_as, .instanceMethod yX8_become]
def AL_19 : List Cond := [.instanceMethod yX8_becomes, .instanceMethod yX8_begins, .instanceMethod yX8_bestLead, .instanceMethod yX8_body, .instanceMethod yX8_check, .instanceMethod yX8_compares, .instanceMethod yX8_costsOf, .instanceMethod yX8_count, .instanceMethod yX8_curveHisses, .instanceMethod yX8_draw, .instanceMethod yX8_drawn, .instanceMethod yX8_drops, .instanceMethod yX8_duel, .instanceMethod yX8_error, .instanceMethod yX8_feed, .instanceMethod yX8_fits, .instanceMethod yX8_gainOf, .instanceMethod yX8_gainsFrom, .instanceMethod yX8_gives, .instanceMethod yX8_go, .instanceMethod yX8_goes, .instanceMethod yX8_hardDrops, .instanceMethod yX8_hisses, .instanceMethod yX8_image, .instanceMethod yX8_init]
def AL_20 : List Cond := [.instanceMethod yX8_isOut, .instanceMethod yX8_isPickedAt, .instanceMethod yX8_isPitch, .instanceMethod yX8_isRunner, .instanceMethod yX8_isSafe, .instanceMethod yX8_isSo, .instanceMethod yX8_judge, .instanceMethod yX8_law, .instanceMethod yX8_lays, .instanceMethod yX8_leadFor, .instanceMethod yX8_leads, .instanceMethod yX8_lets, .instanceMethod yX8_look, .instanceMethod yX8_loose, .instanceMethod yX8_margin, .instanceMethod yX8_marginOf, .instanceMethod yX8_more, .instanceMethod yX8_move, .instanceMethod yX8_nameOf, .instanceMethod yX8_notMoved, .instanceMethod yX8_notThere, .instanceMethod yX8_number, .instanceMethod yX8_odds, .instanceMethod yX8_of, .instanceMethod yX8_one]
def AL_21 : List Cond := [.instanceMethod yX8_opens, .instanceMethod yX8_over, .instanceMethod yX8_partsBy, .instanceMethod yX8_pitch, .instanceMethod yX8_pitchIs, .instanceMethod yX8_plainAir, .instanceMethod yX8_plainDrops, .instanceMethod yX8_plainHisses, .instanceMethod yX8_plainParts, .instanceMethod yX8_plainThuds, .instanceMethod yX8_put, .instanceMethod yX8_restore, .instanceMethod yX8_runFrom, .instanceMethod yX8_runner, .instanceMethod yX8_runnerIs, .instanceMethod yX8_seed, .instanceMethod yX8_set, .instanceMethod yX8_sheet, .instanceMethod yX8_steal, .instanceMethod yX8_sum, .instanceMethod yX8_surely, .instanceMethod yX8_tell, .instanceMethod yX8_text, .instanceMethod yX8_thuds, .instanceMethod yX8_times]
def AL_22 : List Cond := [.instanceMethod yX8_told, .instanceMethod yX8_untell, .instanceMethod yX8_voice, .instanceMethod yX8_weighs, .instanceMethod yX8_weights, .instanceMethod yX8_weightsBy, .instanceMethod yX8_works, .instantiable RX0 5, .instantiable RX1 7, .instantiable RX2 6, .instantiable RX3 15, .instantiable RX4 3, .instantiable RX5 4, .instantiable RX6 6, .instantiable RX7 7, .instantiable RX8 19, .methodLink RX0 28 arraycopyName, .methodLink RX0 3 objectInit, .methodLink RX1 3 objectInit, .methodLink RX1 45 yX1_begins, .methodLink RX1 49 yX1_continues, .methodLink RX1 53 yX1_settle, .methodLink RX1 57 yX1_park, .methodLink RX1 60 yX1_isNumeral, .methodLink RX1 63 yX5_add]
def AL_23 : List Cond := [.methodLink RX1 70 yX1_lengthens, .methodLink RX1 73 yX1_closes, .methodLink RX1 77 yX1_rankOf, .methodLink RX2 3 objectInit, .methodLink RX2 31 arraycopyName, .methodLink RX3 107 yX3_airByKind, .methodLink RX3 111 yX3_gives, .methodLink RX3 115 yX2_backFrom, .methodLink RX3 119 yX3_air, .methodLink RX3 122 yX2_runFrom, .methodLink RX3 125 yX3_marginFrom, .methodLink RX3 128 yX3_gainOf, .methodLink RX3 137 yX3_gainFrom, .methodLink RX3 143 yX3_oneMore, .methodLink RX3 146 yX3_isOut, .methodLink RX3 157 yX0_allWeights, .methodLink RX3 162 yX3_draw, .methodLink RX3 165 yX0_byWeight, .methodLink RX3 168 yX3_isPicked, .methodLink RX3 172 yX3_goes, .methodLink RX3 175 Lib.Math.min.name, .methodLink RX3 180 Lib.Math.max.name, .methodLink RX3 3 objectInit, .methodLink RX3 71 yX0_takes, .methodLink RX3 75 yX2_takes]
def AL_24 : List Cond := [.methodLink RX3 78 yX5_takes, .methodLink RX3 81 arraycopyName, .methodLink RX3 91 yX5_work, .methodLink RX3 95 yX3_held, .methodLink RX4 22 arraycopyName, .methodLink RX4 3 objectInit, .methodLink RX5 26 arraycopyName, .methodLink RX5 3 objectInit, .methodLink RX5 32 yX5_named, .methodLink RX5 36 yX5_joined, .methodLink RX6 3 objectInit, .methodLink RX6 32 yX6_say, .methodLink RX6 36 yX6_bodyOf, .methodLink RX6 40 yX6_begin, .methodLink RX6 44 yX6_parts, .methodLink RX6 48 yX6_partsOfCurve, .methodLink RX7 1 objectInit, .methodLink RX7 108 yX2_add, .methodLink RX7 109 yX7_isRunner, .methodLink RX7 127 yX2_runFrom, .methodLink RX7 130 yX3_isPicked, .methodLink RX7 133 yX7_isFeet, .methodLink RX7 136 yX7_mostOfSetting, .methodLink RX7 139 yX3_change, .methodLink RX7 142 yX3_goes]
def AL_25 : List Cond := [.methodLink RX7 145 yX3_isOut, .methodLink RX7 156 yX7_isUse, .methodLink RX7 159 yX1_faultOf, .methodLink RX7 163 yX3_textOf, .methodLink RX7 171 yX5_takes, .methodLink RX7 181 yX3_gives, .methodLink RX7 185 yX3_marginFrom, .methodLink RX7 189 yX3_weighedGains, .methodLink RX7 192 yX0_allWeights, .methodLink RX7 196 yX3_safeWeights, .methodLink RX7 199 yX7_partOf, .methodLink RX7 202 yX3_gainFrom, .methodLink RX7 205 Lib.Math.min.name, .methodLink RX7 210 Lib.Math.max.name, .methodLink RX7 213 yX3_safePitches, .methodLink RX7 216 yJ6_bitCount_0f7a4, .methodLink RX7 221 yX7_isSheet, .methodLink RX7 224 yX4_isMissing, .methodLink RX7 227 yX7_fitsFrom, .methodLink RX7 230 yX3_isSafeByDraws, .methodLink RX7 237 yX6_speak, .methodLink RX7 250 yX4_lay, .methodLink RX7 254 yX4_standsAt, .methodLink RX7 257 yX4_write, .methodLink RX7 263 yX4_copy]
def AL_26 : List Cond := [.methodLink RX7 269 yX4_read, .methodLink RX7 272 yX3_takes, .methodLink RX7 303 Lib.Math.abs.name, .methodLink RX7 306 yX7_commonOf, .methodLink RX7 48 yX7_isKindAndM, .methodLink RX7 52 yX7_isDigit, .methodLink RX7 55 yX7_error, .methodLink RX7 68 yX0_add, .methodLink RX7 72 yX7_isPitch, .methodLink RX7 87 yX3_air, .methodLink RX7 90 yX3_costs, .methodLink RX7 93 yX7_within, .methodLink RX7 97 yX7_isUnder, .methodLink RX8 103 yX8_isLead, .methodLink RX8 106 yX8_held, .methodLink RX8 109 yX8_more, .methodLink RX8 113 yX8_isSafe, .methodLink RX8 116 yX8_gainOf, .methodLink RX8 119 yX8_isOut, .methodLink RX8 122 yX8_goes, .methodLink RX8 137 yX8_look, .methodLink RX8 145 yX8_lays, .methodLink RX8 152 yX8_one, .methodLink RX8 155 yX8_any, .methodLink RX8 158 yX8_nameOf]
def AL_27 : List Cond := [.methodLink RX8 161 yX8_opens, .methodLink RX8 164 yX8_number, .methodLink RX8 167 yX8_times, .methodLink RX8 170 yX8_sum, .methodLink RX8 173 yX8_compares, .methodLink RX8 176 yX8_all, .methodLink RX8 179 yX8_twoOf, .methodLink RX8 182 yX8_works, .methodLink RX8 186 yX8_gainsFrom, .methodLink RX8 189 yX8_weights, .methodLink RX8 193 yX8_partOf, .methodLink RX8 196 yX8_lesser, .methodLink RX8 199 yX8_greater, .methodLink RX8 202 yX8_isSheet, .methodLink RX8 205 yX8_isSo, .methodLink RX8 209 yX8_draw, .methodLink RX8 212 yX8_drawn, .methodLink RX8 219 yX8_begins, .methodLink RX8 222 yX8_plainHisses, .methodLink RX8 225 yX8_curveHisses, .methodLink RX8 228 yX8_hisses, .methodLink RX8 231 yX8_plainDrops, .methodLink RX8 234 yX8_hardDrops, .methodLink RX8 237 yX8_drops, .methodLink RX8 240 yX8_plainThuds]
def AL_28 : List Cond := [.methodLink RX8 246 yX8_plainParts, .methodLink RX8 249 yX8_thuds, .methodLink RX8 252 yX8_partsBy, .methodLink RX8 256 yX8_notThere, .methodLink RX8 259 yX8_notMoved, .methodLink RX8 263 yX8_copyAll, .methodLink RX8 3 objectInit, .methodLink RX8 44 yX8_in, .methodLink RX8 48 yX8_of, .methodLink RX8 52 yX8_plainAir, .methodLink RX8 56 yX8_gives, .methodLink RX8 60 yX8_about, .methodLink RX8 63 yX8_airOf, .methodLink RX8 66 yX8_runFrom, .methodLink RX8 69 yX8_marginOf, .methodLink RX8 73 yX8_isKm, .methodLink RX8 78 yX8_error, .methodLink RX8 82 yX8_isPitch, .methodLink RX8 85 yX8_costsOf, .methodLink RX8 88 yX8_becomes, .methodLink RX8 92 yX8_lets, .methodLink RX8 96 yX8_isRunner, .methodLink RX8 99 yX8_isPickedAt, .native arraycopyName, .selects RX0 yX0_add yX0_add]
def AL_29 : List Cond := [.selects RX0 yX0_allWeights yX0_allWeights, .selects RX0 yX0_byWeight yX0_byWeight, .selects RX0 yX0_takes yX0_takes, .selects RX1 yX1_begins yX1_begins, .selects RX1 yX1_closes yX1_closes, .selects RX1 yX1_continues yX1_continues, .selects RX1 yX1_faultOf yX1_faultOf, .selects RX1 yX1_lengthens yX1_lengthens, .selects RX1 yX1_park yX1_park, .selects RX1 yX1_settle yX1_settle, .selects RX2 yX2_add yX2_add, .selects RX2 yX2_backFrom yX2_backFrom, .selects RX2 yX2_runFrom yX2_runFrom, .selects RX2 yX2_takes yX2_takes, .selects RX3 yX3_air yX3_air, .selects RX3 yX3_airByKind yX3_airByKind, .selects RX3 yX3_change yX3_change, .selects RX3 yX3_costs yX3_costs, .selects RX3 yX3_draw yX3_draw, .selects RX3 yX3_gainFrom yX3_gainFrom, .selects RX3 yX3_gainOf yX3_gainOf, .selects RX3 yX3_gives yX3_gives, .selects RX3 yX3_goes yX3_goes, .selects RX3 yX3_isOut yX3_isOut, .selects RX3 yX3_isPicked yX3_isPicked]
def AL_30 : List Cond := [.selects RX3 yX3_isSafeByDraws yX3_isSafeByDraws, .selects RX3 yX3_marginFrom yX3_marginFrom, .selects RX3 yX3_safePitches yX3_safePitches, .selects RX3 yX3_safeWeights yX3_safeWeights, .selects RX3 yX3_takes yX3_takes, .selects RX3 yX3_textOf yX3_textOf, .selects RX3 yX3_weighedGains yX3_weighedGains, .selects RX4 yX4_copy yX4_copy, .selects RX4 yX4_isMissing yX4_isMissing, .selects RX4 yX4_lay yX4_lay, .selects RX4 yX4_read yX4_read, .selects RX4 yX4_standsAt yX4_standsAt, .selects RX4 yX4_write yX4_write, .selects RX5 yX5_add yX5_add, .selects RX5 yX5_takes yX5_takes, .selects RX5 yX5_work yX5_work, .selects RX6 yX6_begin yX6_begin, .selects RX6 yX6_parts yX6_parts, .selects RX6 yX6_partsOfCurve yX6_partsOfCurve, .selects RX6 yX6_say yX6_say, .selects RX6 yX6_speak yX6_speak, .selects RX7 yX7_as yX7_as, .selects RX7 yX7_become yX7_become, .selects RX7 yX7_bestLead yX7_bestLead, .selects RX7 yX7_body yX7_body]
def AL_31 : List Cond := [.selects RX7 yX7_check yX7_check, .selects RX7 yX7_count yX7_count, .selects RX7 yX7_duel yX7_duel, .selects RX7 yX7_error yX7_error, .selects RX7 yX7_feed yX7_feed, .selects RX7 yX7_fits yX7_fits, .selects RX7 yX7_fitsFrom yX7_fitsFrom, .selects RX7 yX7_go yX7_go, .selects RX7 yX7_image yX7_image, .selects RX7 yX7_isPitch yX7_isPitch, .selects RX7 yX7_isRunner yX7_isRunner, .selects RX7 yX7_judge yX7_judge, .selects RX7 yX7_law yX7_law, .selects RX7 yX7_leadFor yX7_leadFor, .selects RX7 yX7_leads yX7_leads, .selects RX7 yX7_loose yX7_loose, .selects RX7 yX7_margin yX7_margin, .selects RX7 yX7_move yX7_move, .selects RX7 yX7_odds yX7_odds, .selects RX7 yX7_over yX7_over, .selects RX7 yX7_pitch yX7_pitch, .selects RX7 yX7_pitchIs yX7_pitchIs, .selects RX7 yX7_put yX7_put, .selects RX7 yX7_restore yX7_restore, .selects RX7 yX7_runner yX7_runner]
def AL_32 : List Cond := [.selects RX7 yX7_runnerIs yX7_runnerIs, .selects RX7 yX7_seed yX7_seed, .selects RX7 yX7_set yX7_set, .selects RX7 yX7_sheet yX7_sheet, .selects RX7 yX7_steal yX7_steal, .selects RX7 yX7_surely yX7_surely, .selects RX7 yX7_tell yX7_tell, .selects RX7 yX7_text yX7_text, .selects RX7 yX7_told yX7_told, .selects RX7 yX7_untell yX7_untell, .selects RX7 yX7_voice yX7_voice, .selects RX7 yX7_weighs yX7_weighs, .selects RX7 yX7_weightsBy yX7_weightsBy, .selects RX8 yX8_about yX8_about, .selects RX8 yX8_airOf yX8_airOf, .selects RX8 yX8_all yX8_all, .selects RX8 yX8_any yX8_any, .selects RX8 yX8_as yX8_as, .selects RX8 yX8_become yX8_become, .selects RX8 yX8_becomes yX8_becomes, .selects RX8 yX8_begins yX8_begins, .selects RX8 yX8_bestLead yX8_bestLead, .selects RX8 yX8_body yX8_body, .selects RX8 yX8_check yX8_check, .selects RX8 yX8_compares yX8_compares]
def AL_33 : List Cond := [.selects RX8 yX8_costsOf yX8_costsOf, .selects RX8 yX8_count yX8_count, .selects RX8 yX8_curveHisses yX8_curveHisses, .selects RX8 yX8_draw yX8_draw, .selects RX8 yX8_drawn yX8_drawn, .selects RX8 yX8_drops yX8_drops, .selects RX8 yX8_duel yX8_duel, .selects RX8 yX8_error yX8_error, .selects RX8 yX8_feed yX8_feed, .selects RX8 yX8_fits yX8_fits, .selects RX8 yX8_gainOf yX8_gainOf, .selects RX8 yX8_gainsFrom yX8_gainsFrom, .selects RX8 yX8_gives yX8_gives, .selects RX8 yX8_go yX8_go, .selects RX8 yX8_goes yX8_goes, .selects RX8 yX8_hardDrops yX8_hardDrops, .selects RX8 yX8_hisses yX8_hisses, .selects RX8 yX8_image yX8_image, .selects RX8 yX8_isOut yX8_isOut, .selects RX8 yX8_isPickedAt yX8_isPickedAt, .selects RX8 yX8_isPitch yX8_isPitch, .selects RX8 yX8_isRunner yX8_isRunner, .selects RX8 yX8_isSafe yX8_isSafe, .selects RX8 yX8_isSo yX8_isSo, .selects RX8 yX8_judge yX8_judge]
def AL_34 : List Cond := [.selects RX8 yX8_law yX8_law, .selects RX8 yX8_lays yX8_lays, .selects RX8 yX8_leadFor yX8_leadFor, .selects RX8 yX8_leads yX8_leads, .selects RX8 yX8_lets yX8_lets, .selects RX8 yX8_look yX8_look, .selects RX8 yX8_loose yX8_loose, .selects RX8 yX8_margin yX8_margin, .selects RX8 yX8_marginOf yX8_marginOf, .selects RX8 yX8_more yX8_more, .selects RX8 yX8_move yX8_move, .selects RX8 yX8_nameOf yX8_nameOf, .selects RX8 yX8_notMoved yX8_notMoved, .selects RX8 yX8_notThere yX8_notThere, .selects RX8 yX8_number yX8_number, .selects RX8 yX8_odds yX8_odds, .selects RX8 yX8_of yX8_of, .selects RX8 yX8_one yX8_one, .selects RX8 yX8_opens yX8_opens, .selects RX8 yX8_over yX8_over, .selects RX8 yX8_partsBy yX8_partsBy, .selects RX8 yX8_pitch yX8_pitch, .selects RX8 yX8_pitchIs yX8_pitchIs, .selects RX8 yX8_plainAir yX8_plainAir, .selects RX8 yX8_plainDrops yX8_plainDrops]
def AL_35 : List Cond := [.selects RX8 yX8_plainHisses yX8_plainHisses, .selects RX8 yX8_plainParts yX8_plainParts, .selects RX8 yX8_plainThuds yX8_plainThuds, .selects RX8 yX8_put yX8_put, .selects RX8 yX8_restore yX8_restore, .selects RX8 yX8_runFrom yX8_runFrom, .selects RX8 yX8_runner yX8_runner, .selects RX8 yX8_runnerIs yX8_runnerIs, .selects RX8 yX8_seed yX8_seed, .selects RX8 yX8_set yX8_set, .selects RX8 yX8_sheet yX8_sheet, .selects RX8 yX8_steal yX8_steal, .selects RX8 yX8_sum yX8_sum, .selects RX8 yX8_surely yX8_surely, .selects RX8 yX8_tell yX8_tell, .selects RX8 yX8_text yX8_text, .selects RX8 yX8_thuds yX8_thuds, .selects RX8 yX8_times yX8_times, .selects RX8 yX8_told yX8_told, .selects RX8 yX8_untell yX8_untell, .selects RX8 yX8_voice yX8_voice, .selects RX8 yX8_weighs yX8_weighs, .selects RX8 yX8_weights yX8_weights, .selects RX8 yX8_weightsBy yX8_weightsBy, .selects RX8 yX8_works yX8_works]
def AL_36 : List Cond := [.static Lib.Math.abs.name, .static Lib.Math.max.name, .static Lib.Math.min.name, .static arraycopyName, .static yJ6_bitCount_0f7a4, .static yX1_isNumeral, .static yX1_rankOf, .static yX3_held, .static yX3_oneMore, .static yX5_joined, .static yX5_named, .static yX6_bodyOf, .static yX7_commonOf, .static yX7_isDigit, .static yX7_isFeet, .static yX7_isKindAndM, .static yX7_isSheet, .static yX7_isUnder, .static yX7_isUse, .static yX7_mostOfSetting, .static yX7_partOf, .static yX7_within, .static yX8_copyAll, .static yX8_greater, .static yX8_held]
def AL_37 : List Cond := [.static yX8_in, .static yX8_isKm, .static yX8_isLead, .static yX8_isSheet, .static yX8_lesser, .static yX8_partOf, .static yX8_twoOf]
def ALL : List Cond := AL_u ++ (AL_0 ++ (AL_1 ++ (AL_2 ++ (AL_3 ++ (AL_4 ++ (AL_5 ++ (AL_6 ++ (AL_7 ++ (AL_8 ++ (AL_9 ++ (AL_10 ++ (AL_11 ++ (AL_12 ++ (AL_13 ++ (AL_14 ++ (AL_15 ++ (AL_16 ++ (AL_17 ++ (AL_18 ++ (AL_19 ++ (AL_20 ++ (AL_21 ++ (AL_22 ++ (AL_23 ++ (AL_24 ++ (AL_25 ++ (AL_26 ++ (AL_27 ++ (AL_28 ++ (AL_29 ++ (AL_30 ++ (AL_31 ++ (AL_32 ++ (AL_33 ++ (AL_34 ++ (AL_35 ++ (AL_36 ++ (AL_37))))))))))))))))))))))))))))))))))))))
set_option maxRecDepth 100000 in
theorem ALL_good : ALL.all goodWord = true := by decide +kernel
theorem AL_inu : ∀ w ∈ AL_u, w ∈ ALL := fun _ h => List.mem_append_left _ h
theorem AL_in0 : ∀ w ∈ AL_0, w ∈ ALL := fun _ h => List.mem_append_right _ (List.mem_append_left _ h)
theorem AL_in1 : ∀ w ∈ AL_1, w ∈ ALL := fun _ h => List.mem_append_right _ (List.mem_append_right _ (List.mem_append_left _ h))
theorem AL_in2 : ∀ w ∈ AL_2, w ∈ ALL := fun _ h => List.mem_append_right _ (List.mem_append_right _ (List.mem_append_right _ (List.mem_append_left _ h)))
theorem AL_in3 : ∀ w ∈ AL_3, w ∈ ALL := fun _ h => List.mem_append_right _ (List.mem_append_right _ (List.mem_append_right _ (List.mem_append_right _ (List.mem_append_left _ h))))
theorem AL_in4 : ∀ w ∈ AL_4, w ∈ ALL := fun _ h => List.mem_append_right _ (List.mem_append_right _ (List.mem_append_right _ (List.mem_append_right _ (List.mem_append_right _ (List.mem_append_left _ h)))))
theorem AL_in5 : ∀ w ∈ AL_5, w ∈ ALL := fun _ h => List.mem_append_right _ (List.mem_append_right _ (List.mem_append_right _ (List.mem_append_right _ (List.mem_append_right _ (List.mem_append_right _ (List.mem_append_left _ h))))))
theorem AL_in6 : ∀ w ∈ AL_6, w ∈ ALL := fun _ h => List.mem_append_right _ (List.mem_append_right _ (List.mem_append_right _ (List.mem_append_right _ (List.mem_append_right _ (List.mem_append_right _ (List.mem_append_right _ (List.mem_append_left _ h)))))))
theorem AL_in7 : ∀ w ∈ AL_7, w ∈ ALL := fun _ h => List.mem_append_right _ (List.mem_append_right _ (List.mem_append_right _ (List.mem_append_right _ (List.mem_append_right _ (List.mem_append_right _ (List.mem_append_right _ (List.mem_append_right _ (List.mem_append_left _ h))))))))
theorem AL_in8 : ∀ w ∈ AL_8, w ∈ ALL := fun _ h => List.mem_append_right _ (List.mem_append_right _ (List.mem_append_right _ (List.mem_append_right _ (List.mem_append_right _ (List.mem_append_right _ (List.mem_append_right _ (List.mem_append_right _ (List.mem_append_right _ (List.mem_append_left _ h)))))))))
theorem AL_in9 : ∀ w ∈ AL_9, w ∈ ALL := fun _ h => List.mem_append_right _ (List.mem_append_right _ (List.mem_append_right _ (List.mem_append_right _ (List.mem_append_right _ (List.mem_append_right _ (List.mem_append_right _ (List.mem_append_right _ (List.mem_append_right _ (List.mem_append_right _ (List.mem_append_left _ h))))))))))
theorem AL_in10 : ∀ w ∈ AL_10, w ∈ ALL := fun _ h => List.mem_append_right _ (List.mem_append_right _ (List.mem_append_right _ (List.mem_append_right _ (List.mem_append_right _ (List.mem_append_right _ (List.mem_append_right _ (List.mem_append_right _ (List.mem_append_right _ (List.mem_append_right _ (List.mem_append_right _ (List.mem_append_left _ h)))))))))))
theorem AL_in11 : ∀ w ∈ AL_11, w ∈ ALL := fun _ h => List.mem_append_right _ (List.mem_append_right _ (List.mem_append_right _ (List.mem_append_right _ (List.mem_append_right _ (List.mem_append_right _ (List.mem_append_right _ (List.mem_append_right _ (List.mem_append_right _ (List.mem_append_right _ (List.mem_append_right _ (List.mem_append_right _ (List.mem_append_left _ h))))))))))))
theorem AL_in12 : ∀ w ∈ AL_12, w ∈ ALL := fun _ h => List.mem_append_right _ (List.mem_append_right _ (List.mem_append_right _ (List.mem_append_right _ (List.mem_append_right _ (List.mem_append_right _ (List.mem_append_right _ (List.mem_append_right _ (List.mem_append_right _ (List.mem_append_right _ (List.mem_append_right _ (List.mem_append_right _ (List.mem_append_right _ (List.mem_append_left _ h)))))))))))))
theorem AL_in13 : ∀ w ∈ AL_13, w ∈ ALL := fun _ h => List.mem_append_right _ (List.mem_append_right _ (List.mem_append_right _ (List.mem_append_right _ (List.mem_append_right _ (List.mem_append_right _ (List.mem_append_right _ (List.mem_append_right _ (List.mem_append_right _ (List.mem_append_right _ (List.mem_append_right _ (List.mem_append_right _ (List.mem_append_right _ (List.mem_append_right _ (List.mem_append_left _ h))))))))))))))
theorem AL_in14 : ∀ w ∈ AL_14, w ∈ ALL := fun _ h => List.mem_append_right _ (List.mem_append_right _ (List.mem_append_right _ (List.mem_append_right _ (List.mem_append_right _ (List.mem_append_right _ (List.mem_append_right _ (List.mem_append_right _ (List.mem_append_right _ (List.mem_append_right _ (List.mem_append_right _ (List.mem_append_right _ (List.mem_append_right _ (List.mem_append_right _ (List.mem_append_right _ (List.mem_append_left _ h)))))))))))))))
theorem AL_in15 : ∀ w ∈ AL_15, w ∈ ALL := fun _ h => List.mem_append_right _ (List.mem_append_right _ (List.mem_append_right _ (List.mem_append_right _ (List.mem_append_right _ (List.mem_append_right _ (List.mem_append_right _ (List.mem_append_right _ (List.mem_append_right _ (List.mem_append_right _ (List.mem_append_right _ (List.mem_append_right _ (List.mem_append_right _ (List.mem_append_right _ (List.mem_append_right _ (List.mem_append_right _ (List.mem_append_left _ h))))))))))))))))
theorem AL_in16 : ∀ w ∈ AL_16, w ∈ ALL := fun _ h => List.mem_append_right _ (List.mem_append_right _ (List.mem_append_right _ (List.mem_append_right _ (List.mem_append_right _ (List.mem_append_right _ (List.mem_append_right _ (List.mem_append_right _ (List.mem_append_right _ (List.mem_append_right _ (List.mem_append_right _ (List.mem_append_right _ (List.mem_append_right _ (List.mem_append_right _ (List.mem_append_right _ (List.mem_append_right _ (List.mem_append_right _ (List.mem_append_left _ h)))))))))))))))))
theorem AL_in17 : ∀ w ∈ AL_17, w ∈ ALL := fun _ h => List.mem_append_right _ (List.mem_append_right _ (List.mem_append_right _ (List.mem_append_right _ (List.mem_append_right _ (List.mem_append_right _ (List.mem_append_right _ (List.mem_append_right _ (List.mem_append_right _ (List.mem_append_right _ (List.mem_append_right _ (List.mem_append_right _ (List.mem_append_right _ (List.mem_append_right _ (List.mem_append_right _ (List.mem_append_right _ (List.mem_append_right _ (List.mem_append_right _ (List.mem_append_left _ h))))))))))))))))))
theorem AL_in18 : ∀ w ∈ AL_18, w ∈ ALL := fun _ h => List.mem_append_right _ (List.mem_append_right _ (List.mem_append_right _ (List.mem_append_right _ (List.mem_append_right _ (List.mem_append_right _ (List.mem_append_right _ (List.mem_append_right _ (List.mem_append_right _ (List.mem_append_right _ (List.mem_append_right _ (List.mem_append_right _ (List.mem_append_right _ (List.mem_append_right _ (List.mem_append_right _ (List.mem_append_right _ (List.mem_append_right _ (List.mem_append_right _ (List.mem_append_right _ (List.mem_append_left _ h)))))))))))))))))))
theorem AL_in19 : ∀ w ∈ AL_19, w ∈ ALL := fun _ h => List.mem_append_right _ (List.mem_append_right _ (List.mem_append_right _ (List.mem_append_right _ (List.mem_append_right _ (List.mem_append_right _ (List.mem_append_right _ (List.mem_append_right _ (List.mem_append_right _ (List.mem_append_right _ (List.mem_append_right _ (List.mem_append_right _ (List.mem_append_right _ (List.mem_append_right _ (List.mem_append_right _ (List.mem_append_right _ (List.mem_append_right _ (List.mem_append_right _ (List.mem_append_right _ (List.mem_append_right _ (List.mem_append_left _ h))))))))))))))))))))
theorem AL_in20 : ∀ w ∈ AL_20, w ∈ ALL := fun _ h => List.mem_append_right _ (List.mem_append_right _ (List.mem_append_right _ (List.mem_append_right _ (List.mem_append_right _ (List.mem_append_right _ (List.mem_append_right _ (List.mem_append_right _ (List.mem_append_right _ (List.mem_append_right _ (List.mem_append_right _ (List.mem_append_right _ (List.mem_append_right _ (List.mem_append_right _ (List.mem_append_right _ (List.mem_append_right _ (List.mem_append_right _ (List.mem_append_right _ (List.mem_append_right _ (List.mem_append_right _ (List.mem_append_right _ (List.mem_append_left _ h)))))))))))))))))))))
theorem AL_in21 : ∀ w ∈ AL_21, w ∈ ALL := fun _ h => List.mem_append_right _ (List.mem_append_right _ (List.mem_append_right _ (List.mem_append_right _ (List.mem_append_right _ (List.mem_append_right _ (List.mem_append_right _ (List.mem_append_right _ (List.mem_append_right _ (List.mem_append_right _ (List.mem_append_right _ (List.mem_append_right _ (List.mem_append_right _ (List.mem_append_right _ (List.mem_append_right _ (List.mem_append_right _ (List.mem_append_right _ (List.mem_append_right _ (List.mem_append_right _ (List.mem_append_right _ (List.mem_append_right _ (List.mem_append_right _ (List.mem_append_left _ h))))))))))))))))))))))
theorem AL_in22 : ∀ w ∈ AL_22, w ∈ ALL := fun _ h => List.mem_append_right _ (List.mem_append_right _ (List.mem_append_right _ (List.mem_append_right _ (List.mem_append_right _ (List.mem_append_right _ (List.mem_append_right _ (List.mem_append_right _ (List.mem_append_right _ (List.mem_append_right _ (List.mem_append_right _ (List.mem_append_right _ (List.mem_append_right _ (List.mem_append_right _ (List.mem_append_right _ (List.mem_append_right _ (List.mem_append_right _ (List.mem_append_right _ (List.mem_append_right _ (List.mem_append_right _ (List.mem_append_right _ (List.mem_append_right _ (List.mem_append_right _ (List.mem_append_left _ h)))))))))))))))))))))))
theorem AL_in23 : ∀ w ∈ AL_23, w ∈ ALL := fun _ h => List.mem_append_right _ (List.mem_append_right _ (List.mem_append_right _ (List.mem_append_right _ (List.mem_append_right _ (List.mem_append_right _ (List.mem_append_right _ (List.mem_append_right _ (List.mem_append_right _ (List.mem_append_right _ (List.mem_append_right _ (List.mem_append_right _ (List.mem_append_right _ (List.mem_append_right _ (List.mem_append_right _ (List.mem_append_right _ (List.mem_append_right _ (List.mem_append_right _ (List.mem_append_right _ (List.mem_append_right _ (List.mem_append_right _ (List.mem_append_right _ (List.mem_append_right _ (List.mem_append_right _ (List.mem_append_left _ h))))))))))))))))))))))))
theorem AL_in24 : ∀ w ∈ AL_24, w ∈ ALL := fun _ h => List.mem_append_right _ (List.mem_append_right _ (List.mem_append_right _ (List.mem_append_right _ (List.mem_append_right _ (List.mem_append_right _ (List.mem_append_right _ (List.mem_append_right _ (List.mem_append_right _ (List.mem_append_right _ (List.mem_append_right _ (List.mem_append_right _ (List.mem_append_right _ (List.mem_append_right _ (List.mem_append_right _ (List.mem_append_right _ (List.mem_append_right _ (List.mem_append_right _ (List.mem_append_right _ (List.mem_append_right _ (List.mem_append_right _ (List.mem_append_right _ (List.mem_append_right _ (List.mem_append_right _ (List.mem_append_right _ (List.mem_append_left _ h)))))))))))))))))))))))))
theorem AL_in25 : ∀ w ∈ AL_25, w ∈ ALL := fun _ h => List.mem_append_right _ (List.mem_append_right _ (List.mem_append_right _ (List.mem_append_right _ (List.mem_append_right _ (List.mem_append_right _ (List.mem_append_right _ (List.mem_append_right _ (List.mem_append_right _ (List.mem_append_right _ (List.mem_append_right _ (List.mem_append_right _ (List.mem_append_right _ (List.mem_append_right _ (List.mem_append_right _ (List.mem_append_right _ (List.mem_append_right _ (List.mem_append_right _ (List.mem_append_right _ (List.mem_append_right _ (List.mem_append_right _ (List.mem_append_right _ (List.mem_append_right _ (List.mem_append_right _ (List.mem_append_right _ (List.mem_append_right _ (List.mem_append_left _ h))))))))))))))))))))))))))
theorem AL_in26 : ∀ w ∈ AL_26, w ∈ ALL := fun _ h => List.mem_append_right _ (List.mem_append_right _ (List.mem_append_right _ (List.mem_append_right _ (List.mem_append_right _ (List.mem_append_right _ (List.mem_append_right _ (List.mem_append_right _ (List.mem_append_right _ (List.mem_append_right _ (List.mem_append_right _ (List.mem_append_right _ (List.mem_append_right _ (List.mem_append_right _ (List.mem_append_right _ (List.mem_append_right _ (List.mem_append_right _ (List.mem_append_right _ (List.mem_append_right _ (List.mem_append_right _ (List.mem_append_right _ (List.mem_append_right _ (List.mem_append_right _ (List.mem_append_right _ (List.mem_append_right _ (List.mem_append_right _ (List.mem_append_right _ (List.mem_append_left _ h)))))))))))))))))))))))))))
theorem AL_in27 : ∀ w ∈ AL_27, w ∈ ALL := fun _ h => List.mem_append_right _ (List.mem_append_right _ (List.mem_append_right _ (List.mem_append_right _ (List.mem_append_right _ (List.mem_append_right _ (List.mem_append_right _ (List.mem_append_right _ (List.mem_append_right _ (List.mem_append_right _ (List.mem_append_right _ (List.mem_append_right _ (List.mem_append_right _ (List.mem_append_right _ (List.mem_append_right _ (List.mem_append_right _ (List.mem_append_right _ (List.mem_append_right _ (List.mem_append_right _ (List.mem_append_right _ (List.mem_append_right _ (List.mem_append_right _ (List.mem_append_right _ (List.mem_append_right _ (List.mem_append_right _ (List.mem_append_right _ (List.mem_append_right _ (List.mem_append_right _ (List.mem_append_left _ h))))))))))))))))))))))))))))
theorem AL_in28 : ∀ w ∈ AL_28, w ∈ ALL := fun _ h => List.mem_append_right _ (List.mem_append_right _ (List.mem_append_right _ (List.mem_append_right _ (List.mem_append_right _ (List.mem_append_right _ (List.mem_append_right _ (List.mem_append_right _ (List.mem_append_right _ (List.mem_append_right _ (List.mem_append_right _ (List.mem_append_right _ (List.mem_append_right _ (List.mem_append_right _ (List.mem_append_right _ (List.mem_append_right _ (List.mem_append_right _ (List.mem_append_right _ (List.mem_append_right _ (List.mem_append_right _ (List.mem_append_right _ (List.mem_append_right _ (List.mem_append_right _ (List.mem_append_right _ (List.mem_append_right _ (List.mem_append_right _ (List.mem_append_right _ (List.mem_append_right _ (List.mem_append_right _ (List.mem_append_left _ h)))))))))))))))))))))))))))))
theorem AL_in29 : ∀ w ∈ AL_29, w ∈ ALL := fun _ h => List.mem_append_right _ (List.mem_append_right _ (List.mem_append_right _ (List.mem_append_right _ (List.mem_append_right _ (List.mem_append_right _ (List.mem_append_right _ (List.mem_append_right _ (List.mem_append_right _ (List.mem_append_right _ (List.mem_append_right _ (List.mem_append_right _ (List.mem_append_right _ (List.mem_append_right _ (List.mem_append_right _ (List.mem_append_right _ (List.mem_append_right _ (List.mem_append_right _ (List.mem_append_right _ (List.mem_append_right _ (List.mem_append_right _ (List.mem_append_right _ (List.mem_append_right _ (List.mem_append_right _ (List.mem_append_right _ (List.mem_append_right _ (List.mem_append_right _ (List.mem_append_right _ (List.mem_append_right _ (List.mem_append_right _ (List.mem_append_left _ h))))))))))))))))))))))))))))))
theorem AL_in30 : ∀ w ∈ AL_30, w ∈ ALL := fun _ h => List.mem_append_right _ (List.mem_append_right _ (List.mem_append_right _ (List.mem_append_right _ (List.mem_append_right _ (List.mem_append_right _ (List.mem_append_right _ (List.mem_append_right _ (List.mem_append_right _ (List.mem_append_right _ (List.mem_append_right _ (List.mem_append_right _ (List.mem_append_right _ (List.mem_append_right _ (List.mem_append_right _ (List.mem_append_right _ (List.mem_append_right _ (List.mem_append_right _ (List.mem_append_right _ (List.mem_append_right _ (List.mem_append_right _ (List.mem_append_right _ (List.mem_append_right _ (List.mem_append_right _ (List.mem_append_right _ (List.mem_append_right _ (List.mem_append_right _ (List.mem_append_right _ (List.mem_append_right _ (List.mem_append_right _ (List.mem_append_right _ (List.mem_append_left _ h)))))))))))))))))))))))))))))))
theorem AL_in31 : ∀ w ∈ AL_31, w ∈ ALL := fun _ h => List.mem_append_right _ (List.mem_append_right _ (List.mem_append_right _ (List.mem_append_right _ (List.mem_append_right _ (List.mem_append_right _ (List.mem_append_right _ (List.mem_append_right _ (List.mem_append_right _ (List.mem_append_right _ (List.mem_append_right _ (List.mem_append_right _ (List.mem_append_right _ (List.mem_append_right _ (List.mem_append_right _ (List.mem_append_right _ (List.mem_append_right _ (List.mem_append_right _ (List.mem_append_right _ (List.mem_append_right _ (List.mem_append_right _ (List.mem_append_right _ (List.mem_append_right _ (List.mem_append_right _ (List.mem_append_right _ (List.mem_append_right _ (List.mem_append_right _ (List.mem_append_right _ (List.mem_append_right _ (List.mem_append_right _ (List.mem_append_right _ (List.mem_append_right _ (List.mem_append_left _ h))))))))))))))))))))))))))))))))
theorem AL_in32 : ∀ w ∈ AL_32, w ∈ ALL := fun _ h => List.mem_append_right _ (List.mem_append_right _ (List.mem_append_right _ (List.mem_append_right _ (List.mem_append_right _ (List.mem_append_right _ (List.mem_append_right _ (List.mem_append_right _ (List.mem_append_right _ (List.mem_append_right _ (List.mem_append_right _ (List.mem_append_right _ (List.mem_append_right _ (List.mem_append_right _ (List.mem_append_right _ (List.mem_append_right _ (List.mem_append_right _ (List.mem_append_right _ (List.mem_append_right _ (List.mem_append_right _ (List.mem_append_right _ (List.mem_append_right _ (List.mem_append_right _ (List.mem_append_right _ (List.mem_append_right _ (List.mem_append_right _ (List.mem_append_right _ (List.mem_append_right _ (List.mem_append_right _ (List.mem_append_right _ (List.mem_append_right _ (List.mem_append_right _ (List.mem_append_right _ (List.mem_append_left _ h)))))))))))))))))))))))))))))))))
theorem AL_in33 : ∀ w ∈ AL_33, w ∈ ALL := fun _ h => List.mem_append_right _ (List.mem_append_right _ (List.mem_append_right _ (List.mem_append_right _ (List.mem_append_right _ (List.mem_append_right _ (List.mem_append_right _ (List.mem_append_right _ (List.mem_append_right _ (List.mem_append_right _ (List.mem_append_right _ (List.mem_append_right _ (List.mem_append_right _ (List.mem_append_right _ (List.mem_append_right _ (List.mem_append_right _ (List.mem_append_right _ (List.mem_append_right _ (List.mem_append_right _ (List.mem_append_right _ (List.mem_append_right _ (List.mem_append_right _ (List.mem_append_right _ (List.mem_append_right _ (List.mem_append_right _ (List.mem_append_right _ (List.mem_append_right _ (List.mem_append_right _ (List.mem_append_right _ (List.mem_append_right _ (List.mem_append_right _ (List.mem_append_right _ (List.mem_append_right _ (List.mem_append_right _ (List.mem_append_left _ h))))))))))))))))))))))))))))))))))
theorem AL_in34 : ∀ w ∈ AL_34, w ∈ ALL := fun _ h => List.mem_append_right _ (List.mem_append_right _ (List.mem_append_right _ (List.mem_append_right _ (List.mem_append_right _ (List.mem_append_right _ (List.mem_append_right _ (List.mem_append_right _ (List.mem_append_right _ (List.mem_append_right _ (List.mem_append_right _ (List.mem_append_right _ (List.mem_append_right _ (List.mem_append_right _ (List.mem_append_right _ (List.mem_append_right _ (List.mem_append_right _ (List.mem_append_right _ (List.mem_append_right _ (List.mem_append_right _ (List.mem_append_right _ (List.mem_append_right _ (List.mem_append_right _ (List.mem_append_right _ (List.mem_append_right _ (List.mem_append_right _ (List.mem_append_right _ (List.mem_append_right _ (List.mem_append_right _ (List.mem_append_right _ (List.mem_append_right _ (List.mem_append_right _ (List.mem_append_right _ (List.mem_append_right _ (List.mem_append_right _ (List.mem_append_left _ h)))))))))))))))))))))))))))))))))))
theorem AL_in35 : ∀ w ∈ AL_35, w ∈ ALL := fun _ h => List.mem_append_right _ (List.mem_append_right _ (List.mem_append_right _ (List.mem_append_right _ (List.mem_append_right _ (List.mem_append_right _ (List.mem_append_right _ (List.mem_append_right _ (List.mem_append_right _ (List.mem_append_right _ (List.mem_append_right _ (List.mem_append_right _ (List.mem_append_right _ (List.mem_append_right _ (List.mem_append_right _ (List.mem_append_right _ (List.mem_append_right _ (List.mem_append_right _ (List.mem_append_right _ (List.mem_append_right _ (List.mem_append_right _ (List.mem_append_right _ (List.mem_append_right _ (List.mem_append_right _ (List.mem_append_right _ (List.mem_append_right _ (List.mem_append_right _ (List.mem_append_right _ (List.mem_append_right _ (List.mem_append_right _ (List.mem_append_right _ (List.mem_append_right _ (List.mem_append_right _ (List.mem_append_right _ (List.mem_append_right _ (List.mem_append_right _ (List.mem_append_left _ h))))))))))))))))))))))))))))))))))))
theorem AL_in36 : ∀ w ∈ AL_36, w ∈ ALL := fun _ h => List.mem_append_right _ (List.mem_append_right _ (List.mem_append_right _ (List.mem_append_right _ (List.mem_append_right _ (List.mem_append_right _ (List.mem_append_right _ (List.mem_append_right _ (List.mem_append_right _ (List.mem_append_right _ (List.mem_append_right _ (List.mem_append_right _ (List.mem_append_right _ (List.mem_append_right _ (List.mem_append_right _ (List.mem_append_right _ (List.mem_append_right _ (List.mem_append_right _ (List.mem_append_right _ (List.mem_append_right _ (List.mem_append_right _ (List.mem_append_right _ (List.mem_append_right _ (List.mem_append_right _ (List.mem_append_right _ (List.mem_append_right _ (List.mem_append_right _ (List.mem_append_right _ (List.mem_append_right _ (List.mem_append_right _ (List.mem_append_right _ (List.mem_append_right _ (List.mem_append_right _ (List.mem_append_right _ (List.mem_append_right _ (List.mem_append_right _ (List.mem_append_right _ (List.mem_append_left _ h)))))))))))))))))))))))))))))))))))))
theorem AL_in37 : ∀ w ∈ AL_37, w ∈ ALL := fun _ h => List.mem_append_right _ (List.mem_append_right _ (List.mem_append_right _ (List.mem_append_right _ (List.mem_append_right _ (List.mem_append_right _ (List.mem_append_right _ (List.mem_append_right _ (List.mem_append_right _ (List.mem_append_right _ (List.mem_append_right _ (List.mem_append_right _ (List.mem_append_right _ (List.mem_append_right _ (List.mem_append_right _ (List.mem_append_right _ (List.mem_append_right _ (List.mem_append_right _ (List.mem_append_right _ (List.mem_append_right _ (List.mem_append_right _ (List.mem_append_right _ (List.mem_append_right _ (List.mem_append_right _ (List.mem_append_right _ (List.mem_append_right _ (List.mem_append_right _ (List.mem_append_right _ (List.mem_append_right _ (List.mem_append_right _ (List.mem_append_right _ (List.mem_append_right _ (List.mem_append_right _ (List.mem_append_right _ (List.mem_append_right _ (List.mem_append_right _ (List.mem_append_right _ (List.mem_append_right _ (h))))))))))))))))))))))))))))))))))))))
theorem AL_X0 : ∀ w ∈ wsX00, w ∈ ALL := fun _ h => AL_inu _ (List.mem_append_left _ (List.mem_append_left _ (List.mem_append_left _ (List.mem_append_left _ (List.mem_append_left _ (List.mem_append_left _ (List.mem_append_left _ (List.mem_append_left _ (h)))))))))
theorem AL_X1 : ∀ w ∈ wsX10, w ∈ ALL := fun _ h => AL_inu _ (List.mem_append_left _ (List.mem_append_left _ (List.mem_append_left _ (List.mem_append_left _ (List.mem_append_left _ (List.mem_append_left _ (List.mem_append_left _ (List.mem_append_right _ h))))))))
theorem AL_X2 : ∀ w ∈ wsX20, w ∈ ALL := fun _ h => AL_inu _ (List.mem_append_left _ (List.mem_append_left _ (List.mem_append_left _ (List.mem_append_left _ (List.mem_append_left _ (List.mem_append_left _ (List.mem_append_right _ h)))))))
theorem AL_X3 : ∀ w ∈ wsX30, w ∈ ALL := fun _ h => AL_inu _ (List.mem_append_left _ (List.mem_append_left _ (List.mem_append_left _ (List.mem_append_left _ (List.mem_append_left _ (List.mem_append_right _ h))))))
theorem AL_X4 : ∀ w ∈ wsX40, w ∈ ALL := fun _ h => AL_inu _ (List.mem_append_left _ (List.mem_append_left _ (List.mem_append_left _ (List.mem_append_left _ (List.mem_append_right _ h)))))
theorem AL_X5 : ∀ w ∈ wsX50, w ∈ ALL := fun _ h => AL_inu _ (List.mem_append_left _ (List.mem_append_left _ (List.mem_append_left _ (List.mem_append_right _ h))))
theorem AL_X6 : ∀ w ∈ wsX60, w ∈ ALL := fun _ h => AL_inu _ (List.mem_append_left _ (List.mem_append_left _ (List.mem_append_right _ h)))
theorem AL_X7 : ∀ w ∈ wsX70, w ∈ ALL := fun _ h => AL_inu _ (List.mem_append_left _ (List.mem_append_right _ h))
theorem AL_X8 : ∀ w ∈ wsX80, w ∈ ALL := fun _ h => AL_inu _ (List.mem_append_right _ h)
theorem q_0 : (.arrayClass .byte : Cond) ∈ ALL := AL_in0 _ (List.mem_of_getElem? (i := 0) rfl)
theorem q_1 : (.arrayClass .int : Cond) ∈ ALL := AL_in0 _ (List.mem_of_getElem? (i := 1) rfl)
theorem q_2 : (.classLink RX1 9 RX5 : Cond) ∈ ALL := AL_in0 _ (List.mem_of_getElem? (i := 2) rfl)
theorem q_3 : (.classLink RX3 18 RX2 : Cond) ∈ ALL := AL_in0 _ (List.mem_of_getElem? (i := 3) rfl)
theorem q_4 : (.classLink RX3 25 RX5 : Cond) ∈ ALL := AL_in0 _ (List.mem_of_getElem? (i := 4) rfl)
theorem q_5 : (.classLink RX3 9 RX0 : Cond) ∈ ALL := AL_in0 _ (List.mem_of_getElem? (i := 5) rfl)
theorem q_6 : (.classLink RX7 19 RX1 : Cond) ∈ ALL := AL_in0 _ (List.mem_of_getElem? (i := 6) rfl)
theorem q_7 : (.classLink RX7 26 RX4 : Cond) ∈ ALL := AL_in0 _ (List.mem_of_getElem? (i := 7) rfl)
theorem q_8 : (.classLink RX7 33 RX6 : Cond) ∈ ALL := AL_in0 _ (List.mem_of_getElem? (i := 8) rfl)
theorem q_9 : (.classLink RX7 7 RX3 : Cond) ∈ ALL := AL_in0 _ (List.mem_of_getElem? (i := 9) rfl)
theorem q_10 : (.code Lib.Math.abs.name Lib.Math.abs.code 1 (some .int) : Cond) ∈ ALL := AL_in0 _ (List.mem_of_getElem? (i := 10) rfl)
theorem q_11 : (.code Lib.Math.max.name Lib.Math.max.code 2 (some .int) : Cond) ∈ ALL := AL_in0 _ (List.mem_of_getElem? (i := 11) rfl)
theorem q_12 : (.code Lib.Math.min.name Lib.Math.min.code 2 (some .int) : Cond) ∈ ALL := AL_in0 _ (List.mem_of_getElem? (i := 12) rfl)
theorem q_13 : (.code objectInit ⟨#[0xb1]⟩ 1 none : Cond) ∈ ALL := AL_in0 _ (List.mem_of_getElem? (i := 13) rfl)
theorem q_14 : (.code yJ6_bitCount_0f7a4 cJ6_bitCount_0f7a4 1 (some .int) : Cond) ∈ ALL := AL_in0 _ (List.mem_of_getElem? (i := 14) rfl)
theorem q_15 : (.code yX0_add cX0_add 4 (some .int) : Cond) ∈ ALL := AL_in0 _ (List.mem_of_getElem? (i := 15) rfl)
theorem q_16 : (.code yX0_allWeights cX0_allWeights 3 (some .int) : Cond) ∈ ALL := AL_in0 _ (List.mem_of_getElem? (i := 16) rfl)
theorem q_17 : (.code yX0_byWeight cX0_byWeight 4 (some .int) : Cond) ∈ ALL := AL_in0 _ (List.mem_of_getElem? (i := 17) rfl)
theorem q_18 : (.code yX0_init cX0_init 1 none : Cond) ∈ ALL := AL_in0 _ (List.mem_of_getElem? (i := 18) rfl)
theorem q_19 : (.code yX0_takes cX0_takes 2 none : Cond) ∈ ALL := AL_in0 _ (List.mem_of_getElem? (i := 19) rfl)
theorem q_20 : (.code yX1_begins cX1_begins 4 (some .boolean) : Cond) ∈ ALL := AL_in0 _ (List.mem_of_getElem? (i := 20) rfl)
theorem q_21 : (.code yX1_closes cX1_closes 1 (some .boolean) : Cond) ∈ ALL := AL_in0 _ (List.mem_of_getElem? (i := 21) rfl)
theorem q_22 : (.code yX1_continues cX1_continues 3 (some .boolean) : Cond) ∈ ALL := AL_in0 _ (List.mem_of_getElem? (i := 22) rfl)
theorem q_23 : (.code yX1_faultOf cX1_faultOf 7 (some .int) : Cond) ∈ ALL := AL_in0 _ (List.mem_of_getElem? (i := 23) rfl)
theorem q_24 : (.code yX1_init cX1_init 1 none : Cond) ∈ ALL := AL_in0 _ (List.mem_of_getElem? (i := 24) rfl)
theorem q_25 : (.code yX1_isNumeral cX1_isNumeral 1 (some .boolean) : Cond) ∈ ALL := AL_in1 _ (List.mem_of_getElem? (i := 0) rfl)
theorem q_26 : (.code yX1_lengthens cX1_lengthens 3 (some .boolean) : Cond) ∈ ALL := AL_in1 _ (List.mem_of_getElem? (i := 1) rfl)
theorem q_27 : (.code yX1_park cX1_park 2 none : Cond) ∈ ALL := AL_in1 _ (List.mem_of_getElem? (i := 2) rfl)
theorem q_28 : (.code yX1_rankOf cX1_rankOf 1 (some .int) : Cond) ∈ ALL := AL_in1 _ (List.mem_of_getElem? (i := 3) rfl)
theorem q_29 : (.code yX1_settle cX1_settle 2 none : Cond) ∈ ALL := AL_in1 _ (List.mem_of_getElem? (i := 4) rfl)
theorem q_30 : (.code yX2_add cX2_add 4 (some .int) : Cond) ∈ ALL := AL_in1 _ (List.mem_of_getElem? (i := 5) rfl)
theorem q_31 : (.code yX2_backFrom cX2_backFrom 3 (some .int) : Cond) ∈ ALL := AL_in1 _ (List.mem_of_getElem? (i := 6) rfl)
theorem q_32 : (.code yX2_init cX2_init 1 none : Cond) ∈ ALL := AL_in1 _ (List.mem_of_getElem? (i := 7) rfl)
theorem q_33 : (.code yX2_runFrom cX2_runFrom 3 (some .int) : Cond) ∈ ALL := AL_in1 _ (List.mem_of_getElem? (i := 8) rfl)
theorem q_34 : (.code yX2_takes cX2_takes 2 none : Cond) ∈ ALL := AL_in1 _ (List.mem_of_getElem? (i := 9) rfl)
theorem q_35 : (.code yX3_air cX3_air 2 (some .int) : Cond) ∈ ALL := AL_in1 _ (List.mem_of_getElem? (i := 10) rfl)
theorem q_36 : (.code yX3_airByKind cX3_airByKind 4 (some .int) : Cond) ∈ ALL := AL_in1 _ (List.mem_of_getElem? (i := 11) rfl)
theorem q_37 : (.code yX3_change cX3_change 4 (some .int) : Cond) ∈ ALL := AL_in1 _ (List.mem_of_getElem? (i := 12) rfl)
theorem q_38 : (.code yX3_costs cX3_costs 2 (some .int) : Cond) ∈ ALL := AL_in1 _ (List.mem_of_getElem? (i := 13) rfl)
theorem q_39 : (.code yX3_draw cX3_draw 1 (some .int) : Cond) ∈ ALL := AL_in1 _ (List.mem_of_getElem? (i := 14) rfl)
theorem q_40 : (.code yX3_gainFrom cX3_gainFrom 4 (some .int) : Cond) ∈ ALL := AL_in1 _ (List.mem_of_getElem? (i := 15) rfl)
theorem q_41 : (.code yX3_gainOf cX3_gainOf 2 (some .int) : Cond) ∈ ALL := AL_in1 _ (List.mem_of_getElem? (i := 16) rfl)
theorem q_42 : (.code yX3_gives cX3_gives 6 (some .int) : Cond) ∈ ALL := AL_in1 _ (List.mem_of_getElem? (i := 17) rfl)
theorem q_43 : (.code yX3_goes cX3_goes 4 (some .boolean) : Cond) ∈ ALL := AL_in1 _ (List.mem_of_getElem? (i := 18) rfl)
theorem q_44 : (.code yX3_held cX3_held 3 (some .int) : Cond) ∈ ALL := AL_in1 _ (List.mem_of_getElem? (i := 19) rfl)
theorem q_45 : (.code yX3_init cX3_init 1 none : Cond) ∈ ALL := AL_in1 _ (List.mem_of_getElem? (i := 20) rfl)
theorem q_46 : (.code yX3_isOut cX3_isOut 2 none : Cond) ∈ ALL := AL_in1 _ (List.mem_of_getElem? (i := 21) rfl)
theorem q_47 : (.code yX3_isPicked cX3_isPicked 3 (some .boolean) : Cond) ∈ ALL := AL_in1 _ (List.mem_of_getElem? (i := 22) rfl)
theorem q_48 : (.code yX3_isSafeByDraws cX3_isSafeByDraws 4 (some .boolean) : Cond) ∈ ALL := AL_in1 _ (List.mem_of_getElem? (i := 23) rfl)
theorem q_49 : (.code yX3_marginFrom cX3_marginFrom 4 (some .int) : Cond) ∈ ALL := AL_in1 _ (List.mem_of_getElem? (i := 24) rfl)
theorem q_50 : (.code yX3_oneMore cX3_oneMore 1 (some .int) : Cond) ∈ ALL := AL_in2 _ (List.mem_of_getElem? (i := 0) rfl)
theorem q_51 : (.code yX3_safePitches cX3_safePitches 5 (some .int) : Cond) ∈ ALL := AL_in2 _ (List.mem_of_getElem? (i := 1) rfl)
theorem q_52 : (.code yX3_safeWeights cX3_safeWeights 5 (some .int) : Cond) ∈ ALL := AL_in2 _ (List.mem_of_getElem? (i := 2) rfl)
theorem q_53 : (.code yX3_takes cX3_takes 2 none : Cond) ∈ ALL := AL_in2 _ (List.mem_of_getElem? (i := 3) rfl)
theorem q_54 : (.code yX3_textOf cX3_textOf 2 (some (.object "OffForSecond$Text")) : Cond) ∈ ALL := AL_in2 _ (List.mem_of_getElem? (i := 4) rfl)
theorem q_55 : (.code yX3_weighedGains cX3_weighedGains 5 (some .int) : Cond) ∈ ALL := AL_in2 _ (List.mem_of_getElem? (i := 5) rfl)
theorem q_56 : (.code yX4_copy cX4_copy 6 none : Cond) ∈ ALL := AL_in2 _ (List.mem_of_getElem? (i := 6) rfl)
theorem q_57 : (.code yX4_init cX4_init 1 none : Cond) ∈ ALL := AL_in2 _ (List.mem_of_getElem? (i := 7) rfl)
theorem q_58 : (.code yX4_isMissing cX4_isMissing 2 (some .boolean) : Cond) ∈ ALL := AL_in2 _ (List.mem_of_getElem? (i := 8) rfl)
theorem q_59 : (.code yX4_lay cX4_lay 5 none : Cond) ∈ ALL := AL_in2 _ (List.mem_of_getElem? (i := 9) rfl)
theorem q_60 : (.code yX4_read cX4_read 3 (some .int) : Cond) ∈ ALL := AL_in2 _ (List.mem_of_getElem? (i := 10) rfl)
theorem q_61 : (.code yX4_standsAt cX4_standsAt 4 (some .boolean) : Cond) ∈ ALL := AL_in2 _ (List.mem_of_getElem? (i := 11) rfl)
theorem q_62 : (.code yX4_write cX4_write 5 none : Cond) ∈ ALL := AL_in2 _ (List.mem_of_getElem? (i := 12) rfl)
theorem q_63 : (.code yX5_add cX5_add 2 none : Cond) ∈ ALL := AL_in2 _ (List.mem_of_getElem? (i := 13) rfl)
theorem q_64 : (.code yX5_init cX5_init 1 none : Cond) ∈ ALL := AL_in2 _ (List.mem_of_getElem? (i := 14) rfl)
theorem q_65 : (.code yX5_joined cX5_joined 3 (some .int) : Cond) ∈ ALL := AL_in2 _ (List.mem_of_getElem? (i := 15) rfl)
theorem q_66 : (.code yX5_named cX5_named 4 (some .int) : Cond) ∈ ALL := AL_in2 _ (List.mem_of_getElem? (i := 16) rfl)
theorem q_67 : (.code yX5_takes cX5_takes 2 none : Cond) ∈ ALL := AL_in2 _ (List.mem_of_getElem? (i := 17) rfl)
theorem q_68 : (.code yX5_work cX5_work 7 (some .int) : Cond) ∈ ALL := AL_in2 _ (List.mem_of_getElem? (i := 18) rfl)
theorem q_69 : (.code yX6_begin cX6_begin 2 none : Cond) ∈ ALL := AL_in2 _ (List.mem_of_getElem? (i := 19) rfl)
theorem q_70 : (.code yX6_bodyOf cX6_bodyOf 5 (some .int) : Cond) ∈ ALL := AL_in2 _ (List.mem_of_getElem? (i := 20) rfl)
theorem q_71 : (.code yX6_init cX6_init 1 none : Cond) ∈ ALL := AL_in2 _ (List.mem_of_getElem? (i := 21) rfl)
theorem q_72 : (.code yX6_parts cX6_parts 3 (some .int) : Cond) ∈ ALL := AL_in2 _ (List.mem_of_getElem? (i := 22) rfl)
theorem q_73 : (.code yX6_partsOfCurve cX6_partsOfCurve 4 (some .int) : Cond) ∈ ALL := AL_in2 _ (List.mem_of_getElem? (i := 23) rfl)
theorem q_74 : (.code yX6_say cX6_say 7 (some .int) : Cond) ∈ ALL := AL_in2 _ (List.mem_of_getElem? (i := 24) rfl)
theorem q_75 : (.code yX6_speak cX6_speak 6 (some .int) : Cond) ∈ ALL := AL_in3 _ (List.mem_of_getElem? (i := 0) rfl)
theorem q_76 : (.code yX7_as cX7_as 3 (some .int) : Cond) ∈ ALL := AL_in3 _ (List.mem_of_getElem? (i := 1) rfl)
theorem q_77 : (.code yX7_become cX7_become 4 (some .int) : Cond) ∈ ALL := AL_in3 _ (List.mem_of_getElem? (i := 2) rfl)
theorem q_78 : (.code yX7_bestLead cX7_bestLead 7 (some .int) : Cond) ∈ ALL := AL_in3 _ (List.mem_of_getElem? (i := 3) rfl)
theorem q_79 : (.code yX7_body cX7_body 2 (some .int) : Cond) ∈ ALL := AL_in3 _ (List.mem_of_getElem? (i := 4) rfl)
theorem q_80 : (.code yX7_check cX7_check 3 (some .int) : Cond) ∈ ALL := AL_in3 _ (List.mem_of_getElem? (i := 5) rfl)
theorem q_81 : (.code yX7_commonOf cX7_commonOf 6 (some .int) : Cond) ∈ ALL := AL_in3 _ (List.mem_of_getElem? (i := 6) rfl)
theorem q_82 : (.code yX7_count cX7_count 2 (some .int) : Cond) ∈ ALL := AL_in3 _ (List.mem_of_getElem? (i := 7) rfl)
theorem q_83 : (.code yX7_duel cX7_duel 12 (some .int) : Cond) ∈ ALL := AL_in3 _ (List.mem_of_getElem? (i := 8) rfl)
theorem q_84 : (.code yX7_error cX7_error 2 (some .int) : Cond) ∈ ALL := AL_in3 _ (List.mem_of_getElem? (i := 9) rfl)
theorem q_85 : (.code yX7_feed cX7_feed 5 (some .int) : Cond) ∈ ALL := AL_in3 _ (List.mem_of_getElem? (i := 10) rfl)
theorem q_86 : (.code yX7_fits cX7_fits 7 (some .int) : Cond) ∈ ALL := AL_in3 _ (List.mem_of_getElem? (i := 11) rfl)
theorem q_87 : (.code yX7_fitsFrom cX7_fitsFrom 7 (some .boolean) : Cond) ∈ ALL := AL_in3 _ (List.mem_of_getElem? (i := 12) rfl)
theorem q_88 : (.code yX7_go cX7_go 4 (some .int) : Cond) ∈ ALL := AL_in3 _ (List.mem_of_getElem? (i := 13) rfl)
theorem q_89 : (.code yX7_image cX7_image 1 (some .int) : Cond) ∈ ALL := AL_in3 _ (List.mem_of_getElem? (i := 14) rfl)
theorem q_90 : (.code yX7_init cX7_init 1 none : Cond) ∈ ALL := AL_in3 _ (List.mem_of_getElem? (i := 15) rfl)
theorem q_91 : (.code yX7_isDigit cX7_isDigit 1 (some .boolean) : Cond) ∈ ALL := AL_in3 _ (List.mem_of_getElem? (i := 16) rfl)
theorem q_92 : (.code yX7_isFeet cX7_isFeet 1 (some .boolean) : Cond) ∈ ALL := AL_in3 _ (List.mem_of_getElem? (i := 17) rfl)
theorem q_93 : (.code yX7_isKindAndM cX7_isKindAndM 1 (some .boolean) : Cond) ∈ ALL := AL_in3 _ (List.mem_of_getElem? (i := 18) rfl)
theorem q_94 : (.code yX7_isPitch cX7_isPitch 2 (some .boolean) : Cond) ∈ ALL := AL_in3 _ (List.mem_of_getElem? (i := 19) rfl)
theorem q_95 : (.code yX7_isRunner cX7_isRunner 2 (some .boolean) : Cond) ∈ ALL := AL_in3 _ (List.mem_of_getElem? (i := 20) rfl)
theorem q_96 : (.code yX7_isSheet cX7_isSheet 1 (some .boolean) : Cond) ∈ ALL := AL_in3 _ (List.mem_of_getElem? (i := 21) rfl)
theorem q_97 : (.code yX7_isUnder cX7_isUnder 4 (some .boolean) : Cond) ∈ ALL := AL_in3 _ (List.mem_of_getElem? (i := 22) rfl)
theorem q_98 : (.code yX7_isUse cX7_isUse 1 (some .boolean) : Cond) ∈ ALL := AL_in3 _ (List.mem_of_getElem? (i := 23) rfl)
theorem q_99 : (.code yX7_judge cX7_judge 4 (some .int) : Cond) ∈ ALL := AL_in3 _ (List.mem_of_getElem? (i := 24) rfl)
theorem q_100 : (.code yX7_law cX7_law 5 (some .int) : Cond) ∈ ALL := AL_in4 _ (List.mem_of_getElem? (i := 0) rfl)
theorem q_101 : (.code yX7_leadFor cX7_leadFor 4 (some .int) : Cond) ∈ ALL := AL_in4 _ (List.mem_of_getElem? (i := 1) rfl)
theorem q_102 : (.code yX7_leads cX7_leads 4 (some .int) : Cond) ∈ ALL := AL_in4 _ (List.mem_of_getElem? (i := 2) rfl)
theorem q_103 : (.code yX7_loose cX7_loose 4 (some .int) : Cond) ∈ ALL := AL_in4 _ (List.mem_of_getElem? (i := 3) rfl)
theorem q_104 : (.code yX7_margin cX7_margin 4 (some .int) : Cond) ∈ ALL := AL_in4 _ (List.mem_of_getElem? (i := 4) rfl)
theorem q_105 : (.code yX7_mostOfSetting cX7_mostOfSetting 1 (some .int) : Cond) ∈ ALL := AL_in4 _ (List.mem_of_getElem? (i := 5) rfl)
theorem q_106 : (.code yX7_move cX7_move 6 (some .int) : Cond) ∈ ALL := AL_in4 _ (List.mem_of_getElem? (i := 6) rfl)
theorem q_107 : (.code yX7_odds cX7_odds 4 (some .int) : Cond) ∈ ALL := AL_in4 _ (List.mem_of_getElem? (i := 7) rfl)
theorem q_108 : (.code yX7_over cX7_over 2 (some .int) : Cond) ∈ ALL := AL_in4 _ (List.mem_of_getElem? (i := 8) rfl)
theorem q_109 : (.code yX7_partOf cX7_partOf 4 (some .int) : Cond) ∈ ALL := AL_in4 _ (List.mem_of_getElem? (i := 9) rfl)
theorem q_110 : (.code yX7_pitch cX7_pitch 3 (some .int) : Cond) ∈ ALL := AL_in4 _ (List.mem_of_getElem? (i := 10) rfl)
theorem q_111 : (.code yX7_pitchIs cX7_pitchIs 3 (some .int) : Cond) ∈ ALL := AL_in4 _ (List.mem_of_getElem? (i := 11) rfl)
theorem q_112 : (.code yX7_put cX7_put 4 (some .int) : Cond) ∈ ALL := AL_in4 _ (List.mem_of_getElem? (i := 12) rfl)
theorem q_113 : (.code yX7_restore cX7_restore 1 (some .int) : Cond) ∈ ALL := AL_in4 _ (List.mem_of_getElem? (i := 13) rfl)
theorem q_114 : (.code yX7_runner cX7_runner 3 (some .int) : Cond) ∈ ALL := AL_in4 _ (List.mem_of_getElem? (i := 14) rfl)
theorem q_115 : (.code yX7_runnerIs cX7_runnerIs 4 (some .int) : Cond) ∈ ALL := AL_in4 _ (List.mem_of_getElem? (i := 15) rfl)
theorem q_116 : (.code yX7_seed cX7_seed 3 (some .int) : Cond) ∈ ALL := AL_in4 _ (List.mem_of_getElem? (i := 16) rfl)
theorem q_117 : (.code yX7_set cX7_set 3 (some .int) : Cond) ∈ ALL := AL_in4 _ (List.mem_of_getElem? (i := 17) rfl)
theorem q_118 : (.code yX7_sheet cX7_sheet 4 (some .int) : Cond) ∈ ALL := AL_in4 _ (List.mem_of_getElem? (i := 18) rfl)
theorem q_119 : (.code yX7_steal cX7_steal 3 (some .int) : Cond) ∈ ALL := AL_in4 _ (List.mem_of_getElem? (i := 19) rfl)
theorem q_120 : (.code yX7_surely cX7_surely 4 (some .int) : Cond) ∈ ALL := AL_in4 _ (List.mem_of_getElem? (i := 20) rfl)
theorem q_121 : (.code yX7_tell cX7_tell 2 (some .int) : Cond) ∈ ALL := AL_in4 _ (List.mem_of_getElem? (i := 21) rfl)
theorem q_122 : (.code yX7_text cX7_text 3 (some .int) : Cond) ∈ ALL := AL_in4 _ (List.mem_of_getElem? (i := 22) rfl)
theorem q_123 : (.code yX7_told cX7_told 2 (some .int) : Cond) ∈ ALL := AL_in4 _ (List.mem_of_getElem? (i := 23) rfl)
theorem q_124 : (.code yX7_untell cX7_untell 4 (some .int) : Cond) ∈ ALL := AL_in4 _ (List.mem_of_getElem? (i := 24) rfl)
theorem q_125 : (.code yX7_voice cX7_voice 5 (some .int) : Cond) ∈ ALL := AL_in5 _ (List.mem_of_getElem? (i := 0) rfl)
theorem q_126 : (.code yX7_weighs cX7_weighs 4 (some .int) : Cond) ∈ ALL := AL_in5 _ (List.mem_of_getElem? (i := 1) rfl)
theorem q_127 : (.code yX7_weightsBy cX7_weightsBy 5 (some .int) : Cond) ∈ ALL := AL_in5 _ (List.mem_of_getElem? (i := 2) rfl)
theorem q_128 : (.code yX7_within cX7_within 3 (some .boolean) : Cond) ∈ ALL := AL_in5 _ (List.mem_of_getElem? (i := 3) rfl)
theorem q_129 : (.code yX8_about cX8_about 3 (some .int) : Cond) ∈ ALL := AL_in5 _ (List.mem_of_getElem? (i := 4) rfl)
theorem q_130 : (.code yX8_airOf cX8_airOf 2 (some .int) : Cond) ∈ ALL := AL_in5 _ (List.mem_of_getElem? (i := 5) rfl)
theorem q_131 : (.code yX8_all cX8_all 1 none : Cond) ∈ ALL := AL_in5 _ (List.mem_of_getElem? (i := 6) rfl)
theorem q_132 : (.code yX8_any cX8_any 1 none : Cond) ∈ ALL := AL_in5 _ (List.mem_of_getElem? (i := 7) rfl)
theorem q_133 : (.code yX8_as cX8_as 5 (some .int) : Cond) ∈ ALL := AL_in5 _ (List.mem_of_getElem? (i := 8) rfl)
theorem q_134 : (.code yX8_become cX8_become 3 (some .int) : Cond) ∈ ALL := AL_in5 _ (List.mem_of_getElem? (i := 9) rfl)
theorem q_135 : (.code yX8_becomes cX8_becomes 4 (some .int) : Cond) ∈ ALL := AL_in5 _ (List.mem_of_getElem? (i := 10) rfl)
theorem q_136 : (.code yX8_begins cX8_begins 2 none : Cond) ∈ ALL := AL_in5 _ (List.mem_of_getElem? (i := 11) rfl)
theorem q_137 : (.code yX8_bestLead cX8_bestLead 8 (some .int) : Cond) ∈ ALL := AL_in5 _ (List.mem_of_getElem? (i := 12) rfl)
theorem q_138 : (.code yX8_body cX8_body 2 (some .int) : Cond) ∈ ALL := AL_in5 _ (List.mem_of_getElem? (i := 13) rfl)
theorem q_139 : (.code yX8_check cX8_check 3 (some .int) : Cond) ∈ ALL := AL_in5 _ (List.mem_of_getElem? (i := 14) rfl)
theorem q_140 : (.code yX8_compares cX8_compares 2 none : Cond) ∈ ALL := AL_in5 _ (List.mem_of_getElem? (i := 15) rfl)
theorem q_141 : (.code yX8_copyAll cX8_copyAll 3 none : Cond) ∈ ALL := AL_in5 _ (List.mem_of_getElem? (i := 16) rfl)
theorem q_142 : (.code yX8_costsOf cX8_costsOf 2 (some .int) : Cond) ∈ ALL := AL_in5 _ (List.mem_of_getElem? (i := 17) rfl)
theorem q_143 : (.code yX8_count cX8_count 2 (some .int) : Cond) ∈ ALL := AL_in5 _ (List.mem_of_getElem? (i := 18) rfl)
theorem q_144 : (.code yX8_curveHisses cX8_curveHisses 3 (some .int) : Cond) ∈ ALL := AL_in5 _ (List.mem_of_getElem? (i := 19) rfl)
theorem q_145 : (.code yX8_draw cX8_draw 1 (some .int) : Cond) ∈ ALL := AL_in5 _ (List.mem_of_getElem? (i := 20) rfl)
theorem q_146 : (.code yX8_drawn cX8_drawn 6 (some .boolean) : Cond) ∈ ALL := AL_in5 _ (List.mem_of_getElem? (i := 21) rfl)
theorem q_147 : (.code yX8_drops cX8_drops 3 (some .int) : Cond) ∈ ALL := AL_in5 _ (List.mem_of_getElem? (i := 22) rfl)
theorem q_148 : (.code yX8_duel cX8_duel 11 (some .int) : Cond) ∈ ALL := AL_in5 _ (List.mem_of_getElem? (i := 23) rfl)
theorem q_149 : (.code yX8_error cX8_error 2 (some .int) : Cond) ∈ ALL := AL_in5 _ (List.mem_of_getElem? (i := 24) rfl)
theorem q_150 : (.code yX8_feed cX8_feed 5 (some .int) : Cond) ∈ ALL := AL_in6 _ (List.mem_of_getElem? (i := 0) rfl)
theorem q_151 : (.code yX8_fits cX8_fits 8 (some .int) : Cond) ∈ ALL := AL_in6 _ (List.mem_of_getElem? (i := 1) rfl)
theorem q_152 : (.code yX8_gainOf cX8_gainOf 5 (some .int) : Cond) ∈ ALL := AL_in6 _ (List.mem_of_getElem? (i := 2) rfl)
theorem q_153 : (.code yX8_gainsFrom cX8_gainsFrom 5 (some .int) : Cond) ∈ ALL := AL_in6 _ (List.mem_of_getElem? (i := 3) rfl)
theorem q_154 : (.code yX8_gives cX8_gives 7 (some .int) : Cond) ∈ ALL := AL_in6 _ (List.mem_of_getElem? (i := 4) rfl)
theorem q_155 : (.code yX8_go cX8_go 4 (some .int) : Cond) ∈ ALL := AL_in6 _ (List.mem_of_getElem? (i := 5) rfl)
theorem q_156 : (.code yX8_goes cX8_goes 5 (some .boolean) : Cond) ∈ ALL := AL_in6 _ (List.mem_of_getElem? (i := 6) rfl)
theorem q_157 : (.code yX8_greater cX8_greater 2 (some .int) : Cond) ∈ ALL := AL_in6 _ (List.mem_of_getElem? (i := 7) rfl)
theorem q_158 : (.code yX8_hardDrops cX8_hardDrops 3 (some .int) : Cond) ∈ ALL := AL_in6 _ (List.mem_of_getElem? (i := 8) rfl)
theorem q_159 : (.code yX8_held cX8_held 3 (some .int) : Cond) ∈ ALL := AL_in6 _ (List.mem_of_getElem? (i := 9) rfl)
theorem q_160 : (.code yX8_hisses cX8_hisses 3 (some .int) : Cond) ∈ ALL := AL_in6 _ (List.mem_of_getElem? (i := 10) rfl)
theorem q_161 : (.code yX8_image cX8_image 1 (some .int) : Cond) ∈ ALL := AL_in6 _ (List.mem_of_getElem? (i := 11) rfl)
theorem q_162 : (.code yX8_in cX8_in 3 (some .boolean) : Cond) ∈ ALL := AL_in6 _ (List.mem_of_getElem? (i := 12) rfl)
theorem q_163 : (.code yX8_init cX8_init 1 none : Cond) ∈ ALL := AL_in6 _ (List.mem_of_getElem? (i := 13) rfl)
theorem q_164 : (.code yX8_isKm cX8_isKm 1 (some .boolean) : Cond) ∈ ALL := AL_in6 _ (List.mem_of_getElem? (i := 14) rfl)
theorem q_165 : (.code yX8_isLead cX8_isLead 1 (some .boolean) : Cond) ∈ ALL := AL_in6 _ (List.mem_of_getElem? (i := 15) rfl)
theorem q_166 : (.code yX8_isOut cX8_isOut 2 none : Cond) ∈ ALL := AL_in6 _ (List.mem_of_getElem? (i := 16) rfl)
theorem q_167 : (.code yX8_isPickedAt cX8_isPickedAt 3 (some .boolean) : Cond) ∈ ALL := AL_in6 _ (List.mem_of_getElem? (i := 17) rfl)
theorem q_168 : (.code yX8_isPitch cX8_isPitch 2 (some .boolean) : Cond) ∈ ALL := AL_in6 _ (List.mem_of_getElem? (i := 18) rfl)
theorem q_169 : (.code yX8_isRunner cX8_isRunner 2 (some .boolean) : Cond) ∈ ALL := AL_in6 _ (List.mem_of_getElem? (i := 19) rfl)
theorem q_170 : (.code yX8_isSafe cX8_isSafe 4 (some .boolean) : Cond) ∈ ALL := AL_in6 _ (List.mem_of_getElem? (i := 20) rfl)
theorem q_171 : (.code yX8_isSheet cX8_isSheet 1 (some .boolean) : Cond) ∈ ALL := AL_in6 _ (List.mem_of_getElem? (i := 21) rfl)
theorem q_172 : (.code yX8_isSo cX8_isSo 6 (some .boolean) : Cond) ∈ ALL := AL_in6 _ (List.mem_of_getElem? (i := 22) rfl)
theorem q_173 : (.code yX8_judge cX8_judge 4 (some .int) : Cond) ∈ ALL := AL_in6 _ (List.mem_of_getElem? (i := 23) rfl)
theorem q_174 : (.code yX8_law cX8_law 5 (some .int) : Cond) ∈ ALL := AL_in6 _ (List.mem_of_getElem? (i := 24) rfl)
theorem q_175 : (.code yX8_lays cX8_lays 3 none : Cond) ∈ ALL := AL_in7 _ (List.mem_of_getElem? (i := 0) rfl)
theorem q_176 : (.code yX8_leadFor cX8_leadFor 4 (some .int) : Cond) ∈ ALL := AL_in7 _ (List.mem_of_getElem? (i := 1) rfl)
theorem q_177 : (.code yX8_leads cX8_leads 3 (some .int) : Cond) ∈ ALL := AL_in7 _ (List.mem_of_getElem? (i := 2) rfl)
theorem q_178 : (.code yX8_lesser cX8_lesser 2 (some .int) : Cond) ∈ ALL := AL_in7 _ (List.mem_of_getElem? (i := 3) rfl)
theorem q_179 : (.code yX8_lets cX8_lets 4 none : Cond) ∈ ALL := AL_in7 _ (List.mem_of_getElem? (i := 4) rfl)
theorem q_180 : (.code yX8_look cX8_look 1 (some .int) : Cond) ∈ ALL := AL_in7 _ (List.mem_of_getElem? (i := 5) rfl)
theorem q_181 : (.code yX8_loose cX8_loose 4 (some .int) : Cond) ∈ ALL := AL_in7 _ (List.mem_of_getElem? (i := 6) rfl)
theorem q_182 : (.code yX8_margin cX8_margin 4 (some .int) : Cond) ∈ ALL := AL_in7 _ (List.mem_of_getElem? (i := 7) rfl)
theorem q_183 : (.code yX8_marginOf cX8_marginOf 4 (some .int) : Cond) ∈ ALL := AL_in7 _ (List.mem_of_getElem? (i := 8) rfl)
theorem q_184 : (.code yX8_more cX8_more 2 none : Cond) ∈ ALL := AL_in7 _ (List.mem_of_getElem? (i := 9) rfl)
theorem q_185 : (.code yX8_move cX8_move 9 (some .int) : Cond) ∈ ALL := AL_in7 _ (List.mem_of_getElem? (i := 10) rfl)
theorem q_186 : (.code yX8_nameOf cX8_nameOf 2 (some .int) : Cond) ∈ ALL := AL_in7 _ (List.mem_of_getElem? (i := 11) rfl)
theorem q_187 : (.code yX8_notMoved cX8_notMoved 7 (some .int) : Cond) ∈ ALL := AL_in7 _ (List.mem_of_getElem? (i := 12) rfl)
theorem q_188 : (.code yX8_notThere cX8_notThere 2 (some .int) : Cond) ∈ ALL := AL_in7 _ (List.mem_of_getElem? (i := 13) rfl)
theorem q_189 : (.code yX8_number cX8_number 3 none : Cond) ∈ ALL := AL_in7 _ (List.mem_of_getElem? (i := 14) rfl)
theorem q_190 : (.code yX8_odds cX8_odds 6 (some .int) : Cond) ∈ ALL := AL_in7 _ (List.mem_of_getElem? (i := 15) rfl)
theorem q_191 : (.code yX8_of cX8_of 3 (some .int) : Cond) ∈ ALL := AL_in7 _ (List.mem_of_getElem? (i := 16) rfl)
theorem q_192 : (.code yX8_one cX8_one 3 none : Cond) ∈ ALL := AL_in7 _ (List.mem_of_getElem? (i := 17) rfl)
theorem q_193 : (.code yX8_opens cX8_opens 2 none : Cond) ∈ ALL := AL_in7 _ (List.mem_of_getElem? (i := 18) rfl)
theorem q_194 : (.code yX8_over cX8_over 3 (some .int) : Cond) ∈ ALL := AL_in7 _ (List.mem_of_getElem? (i := 19) rfl)
theorem q_195 : (.code yX8_partOf cX8_partOf 6 (some .int) : Cond) ∈ ALL := AL_in7 _ (List.mem_of_getElem? (i := 20) rfl)
theorem q_196 : (.code yX8_partsBy cX8_partsBy 4 (some .int) : Cond) ∈ ALL := AL_in7 _ (List.mem_of_getElem? (i := 21) rfl)
theorem q_197 : (.code yX8_pitch cX8_pitch 4 (some .int) : Cond) ∈ ALL := AL_in7 _ (List.mem_of_getElem? (i := 22) rfl)
theorem q_198 : (.code yX8_pitchIs cX8_pitchIs 3 (some .int) : Cond) ∈ ALL := AL_in7 _ (List.mem_of_getElem? (i := 23) rfl)
theorem q_199 : (.code yX8_plainAir cX8_plainAir 4 (some .int) : Cond) ∈ ALL := AL_in7 _ (List.mem_of_getElem? (i := 24) rfl)
theorem q_200 : (.code yX8_plainDrops cX8_plainDrops 3 (some .int) : Cond) ∈ ALL := AL_in8 _ (List.mem_of_getElem? (i := 0) rfl)
theorem q_201 : (.code yX8_plainHisses cX8_plainHisses 3 (some .int) : Cond) ∈ ALL := AL_in8 _ (List.mem_of_getElem? (i := 1) rfl)
theorem q_202 : (.code yX8_plainParts cX8_plainParts 4 (some .int) : Cond) ∈ ALL := AL_in8 _ (List.mem_of_getElem? (i := 2) rfl)
theorem q_203 : (.code yX8_plainThuds cX8_plainThuds 3 (some .int) : Cond) ∈ ALL := AL_in8 _ (List.mem_of_getElem? (i := 3) rfl)
theorem q_204 : (.code yX8_put cX8_put 5 (some .int) : Cond) ∈ ALL := AL_in8 _ (List.mem_of_getElem? (i := 4) rfl)
theorem q_205 : (.code yX8_restore cX8_restore 1 (some .int) : Cond) ∈ ALL := AL_in8 _ (List.mem_of_getElem? (i := 5) rfl)
theorem q_206 : (.code yX8_runFrom cX8_runFrom 3 (some .int) : Cond) ∈ ALL := AL_in8 _ (List.mem_of_getElem? (i := 6) rfl)
theorem q_207 : (.code yX8_runner cX8_runner 4 (some .int) : Cond) ∈ ALL := AL_in8 _ (List.mem_of_getElem? (i := 7) rfl)
theorem q_208 : (.code yX8_runnerIs cX8_runnerIs 4 (some .int) : Cond) ∈ ALL := AL_in8 _ (List.mem_of_getElem? (i := 8) rfl)
theorem q_209 : (.code yX8_seed cX8_seed 2 (some .int) : Cond) ∈ ALL := AL_in8 _ (List.mem_of_getElem? (i := 9) rfl)
theorem q_210 : (.code yX8_set cX8_set 4 (some .int) : Cond) ∈ ALL := AL_in8 _ (List.mem_of_getElem? (i := 10) rfl)
theorem q_211 : (.code yX8_sheet cX8_sheet 5 (some .int) : Cond) ∈ ALL := AL_in8 _ (List.mem_of_getElem? (i := 11) rfl)
theorem q_212 : (.code yX8_steal cX8_steal 3 (some .int) : Cond) ∈ ALL := AL_in8 _ (List.mem_of_getElem? (i := 12) rfl)
theorem q_213 : (.code yX8_sum cX8_sum 2 none : Cond) ∈ ALL := AL_in8 _ (List.mem_of_getElem? (i := 13) rfl)
theorem q_214 : (.code yX8_surely cX8_surely 7 (some .int) : Cond) ∈ ALL := AL_in8 _ (List.mem_of_getElem? (i := 14) rfl)
theorem q_215 : (.code yX8_tell cX8_tell 2 (some .int) : Cond) ∈ ALL := AL_in8 _ (List.mem_of_getElem? (i := 15) rfl)
theorem q_216 : (.code yX8_text cX8_text 4 (some .int) : Cond) ∈ ALL := AL_in8 _ (List.mem_of_getElem? (i := 16) rfl)
theorem q_217 : (.code yX8_thuds cX8_thuds 3 (some .int) : Cond) ∈ ALL := AL_in8 _ (List.mem_of_getElem? (i := 17) rfl)
theorem q_218 : (.code yX8_times cX8_times 2 none : Cond) ∈ ALL := AL_in8 _ (List.mem_of_getElem? (i := 18) rfl)
theorem q_219 : (.code yX8_told cX8_told 2 (some .int) : Cond) ∈ ALL := AL_in8 _ (List.mem_of_getElem? (i := 19) rfl)
theorem q_220 : (.code yX8_twoOf cX8_twoOf 3 (some .int) : Cond) ∈ ALL := AL_in8 _ (List.mem_of_getElem? (i := 20) rfl)
theorem q_221 : (.code yX8_untell cX8_untell 2 (some .int) : Cond) ∈ ALL := AL_in8 _ (List.mem_of_getElem? (i := 21) rfl)
theorem q_222 : (.code yX8_voice cX8_voice 5 (some .int) : Cond) ∈ ALL := AL_in8 _ (List.mem_of_getElem? (i := 22) rfl)
theorem q_223 : (.code yX8_weighs cX8_weighs 3 (some .int) : Cond) ∈ ALL := AL_in8 _ (List.mem_of_getElem? (i := 23) rfl)
theorem q_224 : (.code yX8_weights cX8_weights 3 (some .int) : Cond) ∈ ALL := AL_in8 _ (List.mem_of_getElem? (i := 24) rfl)
theorem q_225 : (.code yX8_weightsBy cX8_weightsBy 4 (some .int) : Cond) ∈ ALL := AL_in9 _ (List.mem_of_getElem? (i := 0) rfl)
theorem q_226 : (.code yX8_works cX8_works 5 (some .int) : Cond) ∈ ALL := AL_in9 _ (List.mem_of_getElem? (i := 1) rfl)
theorem q_227 : (.constant RJ6 265 (1431655765) : Cond) ∈ ALL := AL_in9 _ (List.mem_of_getElem? (i := 2) rfl)
theorem q_228 : (.constant RJ6 266 (858993459) : Cond) ∈ ALL := AL_in9 _ (List.mem_of_getElem? (i := 3) rfl)
theorem q_229 : (.constant RJ6 267 (252645135) : Cond) ∈ ALL := AL_in9 _ (List.mem_of_getElem? (i := 4) rfl)
theorem q_230 : (.constant RX3 156 (1103515245) : Cond) ∈ ALL := AL_in9 _ (List.mem_of_getElem? (i := 5) rfl)
theorem q_231 : (.constant RX4 21 (65535) : Cond) ∈ ALL := AL_in9 _ (List.mem_of_getElem? (i := 6) rfl)
theorem q_232 : (.constant RX7 299 (-1000000000) : Cond) ∈ ALL := AL_in9 _ (List.mem_of_getElem? (i := 7) rfl)
theorem q_233 : (.constant RX8 185 (-1000000002) : Cond) ∈ ALL := AL_in9 _ (List.mem_of_getElem? (i := 8) rfl)
theorem q_234 : (.constant RX8 192 (-1000000003) : Cond) ∈ ALL := AL_in9 _ (List.mem_of_getElem? (i := 9) rfl)
theorem q_235 : (.constant RX8 208 (1103515245) : Cond) ∈ ALL := AL_in9 _ (List.mem_of_getElem? (i := 10) rfl)
theorem q_236 : (.constant RX8 255 (-1000000006) : Cond) ∈ ALL := AL_in9 _ (List.mem_of_getElem? (i := 11) rfl)
theorem q_237 : (.constant RX8 43 (-1000000000) : Cond) ∈ ALL := AL_in9 _ (List.mem_of_getElem? (i := 12) rfl)
theorem q_238 : (.constant RX8 77 (-1000000001) : Cond) ∈ ALL := AL_in9 _ (List.mem_of_getElem? (i := 13) rfl)
theorem q_239 : (.constant RX8 81 (-1000000004) : Cond) ∈ ALL := AL_in9 _ (List.mem_of_getElem? (i := 14) rfl)
theorem q_240 : (.constant RX8 91 (-1000000005) : Cond) ∈ ALL := AL_in9 _ (List.mem_of_getElem? (i := 15) rfl)
theorem q_241 : (.constantLong RX8 125 (255) : Cond) ∈ ALL := AL_in9 _ (List.mem_of_getElem? (i := 16) rfl)
theorem q_242 : (.fieldLink RX0 15 "OffForSecond$Pitches" "m" "[I" : Cond) ∈ ALL := AL_in9 _ (List.mem_of_getElem? (i := 17) rfl)
theorem q_243 : (.fieldLink RX0 18 "OffForSecond$Pitches" "weight" "[I" : Cond) ∈ ALL := AL_in9 _ (List.mem_of_getElem? (i := 18) rfl)
theorem q_244 : (.fieldLink RX0 21 "OffForSecond$Pitches" "thrown" "[I" : Cond) ∈ ALL := AL_in9 _ (List.mem_of_getElem? (i := 19) rfl)
theorem q_245 : (.fieldLink RX0 24 "OffForSecond$Pitches" "size" "I" : Cond) ∈ ALL := AL_in9 _ (List.mem_of_getElem? (i := 20) rfl)
theorem q_246 : (.fieldLink RX0 9 "OffForSecond$Pitches" "kind" "[I" : Cond) ∈ ALL := AL_in9 _ (List.mem_of_getElem? (i := 21) rfl)
theorem q_247 : (.fieldLink RX1 12 "OffForSecond$Reader" "draft" "LOffForSecond$Text;" : Cond) ∈ ALL := AL_in9 _ (List.mem_of_getElem? (i := 22) rfl)
theorem q_248 : (.fieldLink RX1 18 "OffForSecond$Reader" "signs" "[I" : Cond) ∈ ALL := AL_in9 _ (List.mem_of_getElem? (i := 23) rfl)
theorem q_249 : (.fieldLink RX1 22 "OffForSecond$Reader" "height" "I" : Cond) ∈ ALL := AL_in9 _ (List.mem_of_getElem? (i := 24) rfl)
theorem q_250 : (.fieldLink RX1 26 "OffForSecond$Reader" "open" "I" : Cond) ∈ ALL := AL_in10 _ (List.mem_of_getElem? (i := 0) rfl)
theorem q_251 : (.fieldLink RX1 29 "OffForSecond$Reader" "groups" "I" : Cond) ∈ ALL := AL_in10 _ (List.mem_of_getElem? (i := 1) rfl)
theorem q_252 : (.fieldLink RX1 32 "OffForSecond$Reader" "digits" "I" : Cond) ∈ ALL := AL_in10 _ (List.mem_of_getElem? (i := 2) rfl)
theorem q_253 : (.fieldLink RX1 35 "OffForSecond$Reader" "wantsOne" "Z" : Cond) ∈ ALL := AL_in10 _ (List.mem_of_getElem? (i := 3) rfl)
theorem q_254 : (.fieldLink RX1 39 "OffForSecond$Text" "size" "I" : Cond) ∈ ALL := AL_in10 _ (List.mem_of_getElem? (i := 4) rfl)
theorem q_255 : (.fieldLink RX1 42 "OffForSecond$Text" "isThere" "Z" : Cond) ∈ ALL := AL_in10 _ (List.mem_of_getElem? (i := 5) rfl)
theorem q_256 : (.fieldLink RX1 81 "OffForSecond$Text" "steps" "[I" : Cond) ∈ ALL := AL_in10 _ (List.mem_of_getElem? (i := 6) rfl)
theorem q_257 : (.fieldLink RX2 15 "OffForSecond$Runners" "pace" "[I" : Cond) ∈ ALL := AL_in10 _ (List.mem_of_getElem? (i := 7) rfl)
theorem q_258 : (.fieldLink RX2 18 "OffForSecond$Runners" "lead" "[I" : Cond) ∈ ALL := AL_in10 _ (List.mem_of_getElem? (i := 8) rfl)
theorem q_259 : (.fieldLink RX2 21 "OffForSecond$Runners" "stolen" "[I" : Cond) ∈ ALL := AL_in10 _ (List.mem_of_getElem? (i := 9) rfl)
theorem q_260 : (.fieldLink RX2 24 "OffForSecond$Runners" "caught" "[I" : Cond) ∈ ALL := AL_in10 _ (List.mem_of_getElem? (i := 10) rfl)
theorem q_261 : (.fieldLink RX2 27 "OffForSecond$Runners" "size" "I" : Cond) ∈ ALL := AL_in10 _ (List.mem_of_getElem? (i := 11) rfl)
theorem q_262 : (.fieldLink RX2 9 "OffForSecond$Runners" "start" "[I" : Cond) ∈ ALL := AL_in10 _ (List.mem_of_getElem? (i := 12) rfl)
theorem q_263 : (.fieldLink RX3 101 "OffForSecond$Pitches" "kind" "[I" : Cond) ∈ ALL := AL_in10 _ (List.mem_of_getElem? (i := 13) rfl)
theorem q_264 : (.fieldLink RX3 104 "OffForSecond$Pitches" "thrown" "[I" : Cond) ∈ ALL := AL_in10 _ (List.mem_of_getElem? (i := 14) rfl)
theorem q_265 : (.fieldLink RX3 12 "OffForSecond$Scene" "pitches" "LOffForSecond$Pitches;" : Cond) ∈ ALL := AL_in10 _ (List.mem_of_getElem? (i := 15) rfl)
theorem q_266 : (.fieldLink RX3 131 "OffForSecond$Pitches" "size" "I" : Cond) ∈ ALL := AL_in10 _ (List.mem_of_getElem? (i := 16) rfl)
theorem q_267 : (.fieldLink RX3 134 "OffForSecond$Pitches" "weight" "[I" : Cond) ∈ ALL := AL_in10 _ (List.mem_of_getElem? (i := 17) rfl)
theorem q_268 : (.fieldLink RX3 140 "OffForSecond$Runners" "lead" "[I" : Cond) ∈ ALL := AL_in10 _ (List.mem_of_getElem? (i := 18) rfl)
theorem q_269 : (.fieldLink RX3 150 "OffForSecond$Runners" "stolen" "[I" : Cond) ∈ ALL := AL_in10 _ (List.mem_of_getElem? (i := 19) rfl)
theorem q_270 : (.fieldLink RX3 153 "OffForSecond$Runners" "caught" "[I" : Cond) ∈ ALL := AL_in10 _ (List.mem_of_getElem? (i := 20) rfl)
theorem q_271 : (.fieldLink RX3 161 "OffForSecond$Runners" "size" "I" : Cond) ∈ ALL := AL_in10 _ (List.mem_of_getElem? (i := 21) rfl)
theorem q_272 : (.fieldLink RX3 21 "OffForSecond$Scene" "runners" "LOffForSecond$Runners;" : Cond) ∈ ALL := AL_in10 _ (List.mem_of_getElem? (i := 22) rfl)
theorem q_273 : (.fieldLink RX3 28 "OffForSecond$Scene" "airText" "LOffForSecond$Text;" : Cond) ∈ ALL := AL_in10 _ (List.mem_of_getElem? (i := 23) rfl)
theorem q_274 : (.fieldLink RX3 32 "OffForSecond$Scene" "gainText" "LOffForSecond$Text;" : Cond) ∈ ALL := AL_in10 _ (List.mem_of_getElem? (i := 24) rfl)
theorem q_275 : (.fieldLink RX3 35 "OffForSecond$Scene" "tape" "[B" : Cond) ∈ ALL := AL_in11 _ (List.mem_of_getElem? (i := 0) rfl)
theorem q_276 : (.fieldLink RX3 39 "OffForSecond$Scene" "taped" "I" : Cond) ∈ ALL := AL_in11 _ (List.mem_of_getElem? (i := 1) rfl)
theorem q_277 : (.fieldLink RX3 43 "OffForSecond$Scene" "waiting" "[I" : Cond) ∈ ALL := AL_in11 _ (List.mem_of_getElem? (i := 2) rfl)
theorem q_278 : (.fieldLink RX3 47 "OffForSecond$Scene" "waits" "I" : Cond) ∈ ALL := AL_in11 _ (List.mem_of_getElem? (i := 3) rfl)
theorem q_279 : (.fieldLink RX3 50 "OffForSecond$Scene" "lift" "I" : Cond) ∈ ALL := AL_in11 _ (List.mem_of_getElem? (i := 4) rfl)
theorem q_280 : (.fieldLink RX3 53 "OffForSecond$Scene" "pop" "I" : Cond) ∈ ALL := AL_in11 _ (List.mem_of_getElem? (i := 5) rfl)
theorem q_281 : (.fieldLink RX3 56 "OffForSecond$Scene" "wet" "I" : Cond) ∈ ALL := AL_in11 _ (List.mem_of_getElem? (i := 6) rfl)
theorem q_282 : (.fieldLink RX3 59 "OffForSecond$Scene" "outs" "I" : Cond) ∈ ALL := AL_in11 _ (List.mem_of_getElem? (i := 7) rfl)
theorem q_283 : (.fieldLink RX3 62 "OffForSecond$Scene" "innings" "I" : Cond) ∈ ALL := AL_in11 _ (List.mem_of_getElem? (i := 8) rfl)
theorem q_284 : (.fieldLink RX3 65 "OffForSecond$Scene" "worth" "I" : Cond) ∈ ALL := AL_in11 _ (List.mem_of_getElem? (i := 9) rfl)
theorem q_285 : (.fieldLink RX3 68 "OffForSecond$Scene" "z" "I" : Cond) ∈ ALL := AL_in11 _ (List.mem_of_getElem? (i := 10) rfl)
theorem q_286 : (.fieldLink RX3 87 "OffForSecond$Text" "isThere" "Z" : Cond) ∈ ALL := AL_in11 _ (List.mem_of_getElem? (i := 11) rfl)
theorem q_287 : (.fieldLink RX3 98 "OffForSecond$Pitches" "m" "[I" : Cond) ∈ ALL := AL_in11 _ (List.mem_of_getElem? (i := 12) rfl)
theorem q_288 : (.fieldLink RX4 15 "OffForSecond$Sheets" "size" "[I" : Cond) ∈ ALL := AL_in11 _ (List.mem_of_getElem? (i := 13) rfl)
theorem q_289 : (.fieldLink RX4 18 "OffForSecond$Sheets" "numbers" "[I" : Cond) ∈ ALL := AL_in11 _ (List.mem_of_getElem? (i := 14) rfl)
theorem q_290 : (.fieldLink RX4 9 "OffForSecond$Sheets" "bits" "[I" : Cond) ∈ ALL := AL_in11 _ (List.mem_of_getElem? (i := 15) rfl)
theorem q_291 : (.fieldLink RX5 15 "OffForSecond$Text" "stack" "[I" : Cond) ∈ ALL := AL_in11 _ (List.mem_of_getElem? (i := 16) rfl)
theorem q_292 : (.fieldLink RX5 18 "OffForSecond$Text" "size" "I" : Cond) ∈ ALL := AL_in11 _ (List.mem_of_getElem? (i := 17) rfl)
theorem q_293 : (.fieldLink RX5 22 "OffForSecond$Text" "isThere" "Z" : Cond) ∈ ALL := AL_in11 _ (List.mem_of_getElem? (i := 18) rfl)
theorem q_294 : (.fieldLink RX5 9 "OffForSecond$Text" "steps" "[I" : Cond) ∈ ALL := AL_in11 _ (List.mem_of_getElem? (i := 19) rfl)
theorem q_295 : (.fieldLink RX6 15 "OffForSecond$Throat" "traced" "I" : Cond) ∈ ALL := AL_in11 _ (List.mem_of_getElem? (i := 20) rfl)
theorem q_296 : (.fieldLink RX6 19 "OffForSecond$Throat" "parted" "Z" : Cond) ∈ ALL := AL_in11 _ (List.mem_of_getElem? (i := 21) rfl)
theorem q_297 : (.fieldLink RX6 23 "OffForSecond$Throat" "k" "I" : Cond) ∈ ALL := AL_in11 _ (List.mem_of_getElem? (i := 22) rfl)
theorem q_298 : (.fieldLink RX6 26 "OffForSecond$Throat" "m" "I" : Cond) ∈ ALL := AL_in11 _ (List.mem_of_getElem? (i := 23) rfl)
theorem q_299 : (.fieldLink RX6 29 "OffForSecond$Throat" "kind" "I" : Cond) ∈ ALL := AL_in11 _ (List.mem_of_getElem? (i := 24) rfl)
theorem q_300 : (.fieldLink RX6 9 "OffForSecond$Throat" "trace" "[I" : Cond) ∈ ALL := AL_in12 _ (List.mem_of_getElem? (i := 0) rfl)
theorem q_301 : (.fieldLink RX7 10 "OffForSecond" "scene" "LOffForSecond$Scene;" : Cond) ∈ ALL := AL_in12 _ (List.mem_of_getElem? (i := 1) rfl)
theorem q_302 : (.fieldLink RX7 101 "OffForSecond$Scene" "runners" "LOffForSecond$Runners;" : Cond) ∈ ALL := AL_in12 _ (List.mem_of_getElem? (i := 2) rfl)
theorem q_303 : (.fieldLink RX7 105 "OffForSecond$Runners" "size" "I" : Cond) ∈ ALL := AL_in12 _ (List.mem_of_getElem? (i := 3) rfl)
theorem q_304 : (.fieldLink RX7 112 "OffForSecond$Runners" "lead" "[I" : Cond) ∈ ALL := AL_in12 _ (List.mem_of_getElem? (i := 4) rfl)
theorem q_305 : (.fieldLink RX7 115 "OffForSecond$Runners" "start" "[I" : Cond) ∈ ALL := AL_in12 _ (List.mem_of_getElem? (i := 5) rfl)
theorem q_306 : (.fieldLink RX7 118 "OffForSecond$Runners" "pace" "[I" : Cond) ∈ ALL := AL_in12 _ (List.mem_of_getElem? (i := 6) rfl)
theorem q_307 : (.fieldLink RX7 121 "OffForSecond$Runners" "stolen" "[I" : Cond) ∈ ALL := AL_in12 _ (List.mem_of_getElem? (i := 7) rfl)
theorem q_308 : (.fieldLink RX7 124 "OffForSecond$Runners" "caught" "[I" : Cond) ∈ ALL := AL_in12 _ (List.mem_of_getElem? (i := 8) rfl)
theorem q_309 : (.fieldLink RX7 149 "OffForSecond$Scene" "taped" "I" : Cond) ∈ ALL := AL_in12 _ (List.mem_of_getElem? (i := 9) rfl)
theorem q_310 : (.fieldLink RX7 152 "OffForSecond$Scene" "tape" "[B" : Cond) ∈ ALL := AL_in12 _ (List.mem_of_getElem? (i := 10) rfl)
theorem q_311 : (.fieldLink RX7 16 "OffForSecond" "kept" "LOffForSecond$Scene;" : Cond) ∈ ALL := AL_in12 _ (List.mem_of_getElem? (i := 11) rfl)
theorem q_312 : (.fieldLink RX7 167 "OffForSecond$Reader" "draft" "LOffForSecond$Text;" : Cond) ∈ ALL := AL_in12 _ (List.mem_of_getElem? (i := 12) rfl)
theorem q_313 : (.fieldLink RX7 177 "OffForSecond$Text" "isThere" "Z" : Cond) ∈ ALL := AL_in12 _ (List.mem_of_getElem? (i := 13) rfl)
theorem q_314 : (.fieldLink RX7 22 "OffForSecond" "reader" "LOffForSecond$Reader;" : Cond) ∈ ALL := AL_in12 _ (List.mem_of_getElem? (i := 14) rfl)
theorem q_315 : (.fieldLink RX7 234 "OffForSecond$Scene" "z" "I" : Cond) ∈ ALL := AL_in12 _ (List.mem_of_getElem? (i := 15) rfl)
theorem q_316 : (.fieldLink RX7 241 "OffForSecond$Throat" "parted" "Z" : Cond) ∈ ALL := AL_in12 _ (List.mem_of_getElem? (i := 16) rfl)
theorem q_317 : (.fieldLink RX7 244 "OffForSecond$Throat" "traced" "I" : Cond) ∈ ALL := AL_in12 _ (List.mem_of_getElem? (i := 17) rfl)
theorem q_318 : (.fieldLink RX7 247 "OffForSecond$Throat" "trace" "[I" : Cond) ∈ ALL := AL_in12 _ (List.mem_of_getElem? (i := 18) rfl)
theorem q_319 : (.fieldLink RX7 260 "OffForSecond$Sheets" "bits" "[I" : Cond) ∈ ALL := AL_in12 _ (List.mem_of_getElem? (i := 19) rfl)
theorem q_320 : (.fieldLink RX7 267 "OffForSecond$Sheets" "size" "[I" : Cond) ∈ ALL := AL_in12 _ (List.mem_of_getElem? (i := 20) rfl)
theorem q_321 : (.fieldLink RX7 275 "OffForSecond$Scene" "innings" "I" : Cond) ∈ ALL := AL_in12 _ (List.mem_of_getElem? (i := 21) rfl)
theorem q_322 : (.fieldLink RX7 278 "OffForSecond$Scene" "waits" "I" : Cond) ∈ ALL := AL_in12 _ (List.mem_of_getElem? (i := 22) rfl)
theorem q_323 : (.fieldLink RX7 281 "OffForSecond$Scene" "waiting" "[I" : Cond) ∈ ALL := AL_in12 _ (List.mem_of_getElem? (i := 23) rfl)
theorem q_324 : (.fieldLink RX7 284 "OffForSecond$Scene" "outs" "I" : Cond) ∈ ALL := AL_in12 _ (List.mem_of_getElem? (i := 24) rfl)
theorem q_325 : (.fieldLink RX7 287 "OffForSecond$Scene" "worth" "I" : Cond) ∈ ALL := AL_in13 _ (List.mem_of_getElem? (i := 0) rfl)
theorem q_326 : (.fieldLink RX7 29 "OffForSecond" "sheets" "LOffForSecond$Sheets;" : Cond) ∈ ALL := AL_in13 _ (List.mem_of_getElem? (i := 1) rfl)
theorem q_327 : (.fieldLink RX7 290 "OffForSecond$Scene" "lift" "I" : Cond) ∈ ALL := AL_in13 _ (List.mem_of_getElem? (i := 2) rfl)
theorem q_328 : (.fieldLink RX7 293 "OffForSecond$Scene" "pop" "I" : Cond) ∈ ALL := AL_in13 _ (List.mem_of_getElem? (i := 3) rfl)
theorem q_329 : (.fieldLink RX7 296 "OffForSecond$Scene" "wet" "I" : Cond) ∈ ALL := AL_in13 _ (List.mem_of_getElem? (i := 4) rfl)
theorem q_330 : (.fieldLink RX7 300 "OffForSecond" "ABOVE" "[I" : Cond) ∈ ALL := AL_in13 _ (List.mem_of_getElem? (i := 5) rfl)
theorem q_331 : (.fieldLink RX7 36 "OffForSecond" "throat" "LOffForSecond$Throat;" : Cond) ∈ ALL := AL_in13 _ (List.mem_of_getElem? (i := 6) rfl)
theorem q_332 : (.fieldLink RX7 40 "OffForSecond" "errors" "[I" : Cond) ∈ ALL := AL_in13 _ (List.mem_of_getElem? (i := 7) rfl)
theorem q_333 : (.fieldLink RX7 44 "OffForSecond" "images" "I" : Cond) ∈ ALL := AL_in13 _ (List.mem_of_getElem? (i := 8) rfl)
theorem q_334 : (.fieldLink RX7 59 "OffForSecond$Scene" "pitches" "LOffForSecond$Pitches;" : Cond) ∈ ALL := AL_in13 _ (List.mem_of_getElem? (i := 9) rfl)
theorem q_335 : (.fieldLink RX7 63 "OffForSecond$Pitches" "size" "I" : Cond) ∈ ALL := AL_in13 _ (List.mem_of_getElem? (i := 10) rfl)
theorem q_336 : (.fieldLink RX7 75 "OffForSecond$Pitches" "kind" "[I" : Cond) ∈ ALL := AL_in13 _ (List.mem_of_getElem? (i := 11) rfl)
theorem q_337 : (.fieldLink RX7 78 "OffForSecond$Pitches" "m" "[I" : Cond) ∈ ALL := AL_in13 _ (List.mem_of_getElem? (i := 12) rfl)
theorem q_338 : (.fieldLink RX7 81 "OffForSecond$Pitches" "weight" "[I" : Cond) ∈ ALL := AL_in13 _ (List.mem_of_getElem? (i := 13) rfl)
theorem q_339 : (.fieldLink RX7 84 "OffForSecond$Pitches" "thrown" "[I" : Cond) ∈ ALL := AL_in13 _ (List.mem_of_getElem? (i := 14) rfl)
theorem q_340 : (.fieldLink RX8 127 "OffForSecondModel" "here" "I" : Cond) ∈ ALL := AL_in13 _ (List.mem_of_getElem? (i := 15) rfl)
theorem q_341 : (.fieldLink RX8 13 "OffForSecondModel" "kept" "[I" : Cond) ∈ ALL := AL_in13 _ (List.mem_of_getElem? (i := 16) rfl)
theorem q_342 : (.fieldLink RX8 131 "OffForSecondModel" "laid" "I" : Cond) ∈ ALL := AL_in13 _ (List.mem_of_getElem? (i := 17) rfl)
theorem q_343 : (.fieldLink RX8 134 "OffForSecondModel" "using" "I" : Cond) ∈ ALL := AL_in13 _ (List.mem_of_getElem? (i := 18) rfl)
theorem q_344 : (.fieldLink RX8 141 "OffForSecondModel" "bad" "Z" : Cond) ∈ ALL := AL_in13 _ (List.mem_of_getElem? (i := 19) rfl)
theorem q_345 : (.fieldLink RX8 149 "OffForSecondModel" "opened" "I" : Cond) ∈ ALL := AL_in13 _ (List.mem_of_getElem? (i := 20) rfl)
theorem q_346 : (.fieldLink RX8 16 "OffForSecondModel" "errors" "[I" : Cond) ∈ ALL := AL_in13 _ (List.mem_of_getElem? (i := 21) rfl)
theorem q_347 : (.fieldLink RX8 19 "OffForSecondModel" "bitsOf" "[I" : Cond) ∈ ALL := AL_in13 _ (List.mem_of_getElem? (i := 22) rfl)
theorem q_348 : (.fieldLink RX8 216 "OffForSecondModel" "traced" "I" : Cond) ∈ ALL := AL_in13 _ (List.mem_of_getElem? (i := 23) rfl)
theorem q_349 : (.fieldLink RX8 22 "OffForSecondModel" "sizeOf" "[I" : Cond) ∈ ALL := AL_in13 _ (List.mem_of_getElem? (i := 24) rfl)
theorem q_350 : (.fieldLink RX8 243 "OffForSecondModel" "isParted" "Z" : Cond) ∈ ALL := AL_in14 _ (List.mem_of_getElem? (i := 0) rfl)
theorem q_351 : (.fieldLink RX8 25 "OffForSecondModel" "cells" "[I" : Cond) ∈ ALL := AL_in14 _ (List.mem_of_getElem? (i := 1) rfl)
theorem q_352 : (.fieldLink RX8 267 "OffForSecondModel" "images" "I" : Cond) ∈ ALL := AL_in14 _ (List.mem_of_getElem? (i := 2) rfl)
theorem q_353 : (.fieldLink RX8 28 "OffForSecondModel" "act" "[I" : Cond) ∈ ALL := AL_in14 _ (List.mem_of_getElem? (i := 3) rfl)
theorem q_354 : (.fieldLink RX8 31 "OffForSecondModel" "with" "[I" : Cond) ∈ ALL := AL_in14 _ (List.mem_of_getElem? (i := 4) rfl)
theorem q_355 : (.fieldLink RX8 34 "OffForSecondModel" "facts" "[I" : Cond) ∈ ALL := AL_in14 _ (List.mem_of_getElem? (i := 5) rfl)
theorem q_356 : (.fieldLink RX8 37 "OffForSecondModel" "pile" "[I" : Cond) ∈ ALL := AL_in14 _ (List.mem_of_getElem? (i := 6) rfl)
theorem q_357 : (.fieldLink RX8 40 "OffForSecondModel" "trace" "[I" : Cond) ∈ ALL := AL_in14 _ (List.mem_of_getElem? (i := 7) rfl)
theorem q_358 : (.fieldLink RX8 9 "OffForSecondModel" "row" "[I" : Cond) ∈ ALL := AL_in14 _ (List.mem_of_getElem? (i := 8) rfl)
theorem q_359 : (.initialized "java/lang/Math" : Cond) ∈ ALL := AL_in14 _ (List.mem_of_getElem? (i := 9) rfl)
theorem q_360 : (.initialized "java/lang/System" : Cond) ∈ ALL := AL_in14 _ (List.mem_of_getElem? (i := 10) rfl)
theorem q_361 : (.initialized RJ6 : Cond) ∈ ALL := AL_in14 _ (List.mem_of_getElem? (i := 11) rfl)
theorem q_362 : (.initialized RX0 : Cond) ∈ ALL := AL_in14 _ (List.mem_of_getElem? (i := 12) rfl)
theorem q_363 : (.initialized RX1 : Cond) ∈ ALL := AL_in14 _ (List.mem_of_getElem? (i := 13) rfl)
theorem q_364 : (.initialized RX2 : Cond) ∈ ALL := AL_in14 _ (List.mem_of_getElem? (i := 14) rfl)
theorem q_365 : (.initialized RX3 : Cond) ∈ ALL := AL_in14 _ (List.mem_of_getElem? (i := 15) rfl)
theorem q_366 : (.initialized RX4 : Cond) ∈ ALL := AL_in14 _ (List.mem_of_getElem? (i := 16) rfl)
theorem q_367 : (.initialized RX5 : Cond) ∈ ALL := AL_in14 _ (List.mem_of_getElem? (i := 17) rfl)
theorem q_368 : (.initialized RX6 : Cond) ∈ ALL := AL_in14 _ (List.mem_of_getElem? (i := 18) rfl)
theorem q_369 : (.initialized RX7 : Cond) ∈ ALL := AL_in14 _ (List.mem_of_getElem? (i := 19) rfl)
theorem q_370 : (.initialized RX8 : Cond) ∈ ALL := AL_in14 _ (List.mem_of_getElem? (i := 20) rfl)
theorem q_371 : (.instanceMethod objectInit : Cond) ∈ ALL := AL_in14 _ (List.mem_of_getElem? (i := 21) rfl)
theorem q_372 : (.instanceMethod yX0_add : Cond) ∈ ALL := AL_in14 _ (List.mem_of_getElem? (i := 22) rfl)
theorem q_373 : (.instanceMethod yX0_allWeights : Cond) ∈ ALL := AL_in14 _ (List.mem_of_getElem? (i := 23) rfl)
theorem q_374 : (.instanceMethod yX0_byWeight : Cond) ∈ ALL := AL_in14 _ (List.mem_of_getElem? (i := 24) rfl)
theorem q_375 : (.instanceMethod yX0_init : Cond) ∈ ALL := AL_in15 _ (List.mem_of_getElem? (i := 0) rfl)
theorem q_376 : (.instanceMethod yX0_takes : Cond) ∈ ALL := AL_in15 _ (List.mem_of_getElem? (i := 1) rfl)
theorem q_377 : (.instanceMethod yX1_begins : Cond) ∈ ALL := AL_in15 _ (List.mem_of_getElem? (i := 2) rfl)
theorem q_378 : (.instanceMethod yX1_closes : Cond) ∈ ALL := AL_in15 _ (List.mem_of_getElem? (i := 3) rfl)
theorem q_379 : (.instanceMethod yX1_continues : Cond) ∈ ALL := AL_in15 _ (List.mem_of_getElem? (i := 4) rfl)
theorem q_380 : (.instanceMethod yX1_faultOf : Cond) ∈ ALL := AL_in15 _ (List.mem_of_getElem? (i := 5) rfl)
theorem q_381 : (.instanceMethod yX1_init : Cond) ∈ ALL := AL_in15 _ (List.mem_of_getElem? (i := 6) rfl)
theorem q_382 : (.instanceMethod yX1_lengthens : Cond) ∈ ALL := AL_in15 _ (List.mem_of_getElem? (i := 7) rfl)
theorem q_383 : (.instanceMethod yX1_park : Cond) ∈ ALL := AL_in15 _ (List.mem_of_getElem? (i := 8) rfl)
theorem q_384 : (.instanceMethod yX1_settle : Cond) ∈ ALL := AL_in15 _ (List.mem_of_getElem? (i := 9) rfl)
theorem q_385 : (.instanceMethod yX2_add : Cond) ∈ ALL := AL_in15 _ (List.mem_of_getElem? (i := 10) rfl)
theorem q_386 : (.instanceMethod yX2_backFrom : Cond) ∈ ALL := AL_in15 _ (List.mem_of_getElem? (i := 11) rfl)
theorem q_387 : (.instanceMethod yX2_init : Cond) ∈ ALL := AL_in15 _ (List.mem_of_getElem? (i := 12) rfl)
theorem q_388 : (.instanceMethod yX2_runFrom : Cond) ∈ ALL := AL_in15 _ (List.mem_of_getElem? (i := 13) rfl)
theorem q_389 : (.instanceMethod yX2_takes : Cond) ∈ ALL := AL_in15 _ (List.mem_of_getElem? (i := 14) rfl)
theorem q_390 : (.instanceMethod yX3_air : Cond) ∈ ALL := AL_in15 _ (List.mem_of_getElem? (i := 15) rfl)
theorem q_391 : (.instanceMethod yX3_airByKind : Cond) ∈ ALL := AL_in15 _ (List.mem_of_getElem? (i := 16) rfl)
theorem q_392 : (.instanceMethod yX3_change : Cond) ∈ ALL := AL_in15 _ (List.mem_of_getElem? (i := 17) rfl)
theorem q_393 : (.instanceMethod yX3_costs : Cond) ∈ ALL := AL_in15 _ (List.mem_of_getElem? (i := 18) rfl)
theorem q_394 : (.instanceMethod yX3_draw : Cond) ∈ ALL := AL_in15 _ (List.mem_of_getElem? (i := 19) rfl)
theorem q_395 : (.instanceMethod yX3_gainFrom : Cond) ∈ ALL := AL_in15 _ (List.mem_of_getElem? (i := 20) rfl)
theorem q_396 : (.instanceMethod yX3_gainOf : Cond) ∈ ALL := AL_in15 _ (List.mem_of_getElem? (i := 21) rfl)
theorem q_397 : (.instanceMethod yX3_gives : Cond) ∈ ALL := AL_in15 _ (List.mem_of_getElem? (i := 22) rfl)
theorem q_398 : (.instanceMethod yX3_goes : Cond) ∈ ALL := AL_in15 _ (List.mem_of_getElem? (i := 23) rfl)
theorem q_399 : (.instanceMethod yX3_init : Cond) ∈ ALL := AL_in15 _ (List.mem_of_getElem? (i := 24) rfl)
theorem q_400 : (.instanceMethod yX3_isOut : Cond) ∈ ALL := AL_in16 _ (List.mem_of_getElem? (i := 0) rfl)
theorem q_401 : (.instanceMethod yX3_isPicked : Cond) ∈ ALL := AL_in16 _ (List.mem_of_getElem? (i := 1) rfl)
theorem q_402 : (.instanceMethod yX3_isSafeByDraws : Cond) ∈ ALL := AL_in16 _ (List.mem_of_getElem? (i := 2) rfl)
theorem q_403 : (.instanceMethod yX3_marginFrom : Cond) ∈ ALL := AL_in16 _ (List.mem_of_getElem? (i := 3) rfl)
theorem q_404 : (.instanceMethod yX3_safePitches : Cond) ∈ ALL := AL_in16 _ (List.mem_of_getElem? (i := 4) rfl)
theorem q_405 : (.instanceMethod yX3_safeWeights : Cond) ∈ ALL := AL_in16 _ (List.mem_of_getElem? (i := 5) rfl)
theorem q_406 : (.instanceMethod yX3_takes : Cond) ∈ ALL := AL_in16 _ (List.mem_of_getElem? (i := 6) rfl)
theorem q_407 : (.instanceMethod yX3_textOf : Cond) ∈ ALL := AL_in16 _ (List.mem_of_getElem? (i := 7) rfl)
theorem q_408 : (.instanceMethod yX3_weighedGains : Cond) ∈ ALL := AL_in16 _ (List.mem_of_getElem? (i := 8) rfl)
theorem q_409 : (.instanceMethod yX4_copy : Cond) ∈ ALL := AL_in16 _ (List.mem_of_getElem? (i := 9) rfl)
theorem q_410 : (.instanceMethod yX4_init : Cond) ∈ ALL := AL_in16 _ (List.mem_of_getElem? (i := 10) rfl)
theorem q_411 : (.instanceMethod yX4_isMissing : Cond) ∈ ALL := AL_in16 _ (List.mem_of_getElem? (i := 11) rfl)
theorem q_412 : (.instanceMethod yX4_lay : Cond) ∈ ALL := AL_in16 _ (List.mem_of_getElem? (i := 12) rfl)
theorem q_413 : (.instanceMethod yX4_read : Cond) ∈ ALL := AL_in16 _ (List.mem_of_getElem? (i := 13) rfl)
theorem q_414 : (.instanceMethod yX4_standsAt : Cond) ∈ ALL := AL_in16 _ (List.mem_of_getElem? (i := 14) rfl)
theorem q_415 : (.instanceMethod yX4_write : Cond) ∈ ALL := AL_in16 _ (List.mem_of_getElem? (i := 15) rfl)
theorem q_416 : (.instanceMethod yX5_add : Cond) ∈ ALL := AL_in16 _ (List.mem_of_getElem? (i := 16) rfl)
theorem q_417 : (.instanceMethod yX5_init : Cond) ∈ ALL := AL_in16 _ (List.mem_of_getElem? (i := 17) rfl)
theorem q_418 : (.instanceMethod yX5_takes : Cond) ∈ ALL := AL_in16 _ (List.mem_of_getElem? (i := 18) rfl)
theorem q_419 : (.instanceMethod yX5_work : Cond) ∈ ALL := AL_in16 _ (List.mem_of_getElem? (i := 19) rfl)
theorem q_420 : (.instanceMethod yX6_begin : Cond) ∈ ALL := AL_in16 _ (List.mem_of_getElem? (i := 20) rfl)
theorem q_421 : (.instanceMethod yX6_init : Cond) ∈ ALL := AL_in16 _ (List.mem_of_getElem? (i := 21) rfl)
theorem q_422 : (.instanceMethod yX6_parts : Cond) ∈ ALL := AL_in16 _ (List.mem_of_getElem? (i := 22) rfl)
theorem q_423 : (.instanceMethod yX6_partsOfCurve : Cond) ∈ ALL := AL_in16 _ (List.mem_of_getElem? (i := 23) rfl)
theorem q_424 : (.instanceMethod yX6_say : Cond) ∈ ALL := AL_in16 _ (List.mem_of_getElem? (i := 24) rfl)
theorem q_425 : (.instanceMethod yX6_speak : Cond) ∈ ALL := AL_in17 _ (List.mem_of_getElem? (i := 0) rfl)
theorem q_426 : (.instanceMethod yX7_as : Cond) ∈ ALL := AL_in17 _ (List.mem_of_getElem? (i := 1) rfl)
theorem q_427 : (.instanceMethod yX7_become : Cond) ∈ ALL := AL_in17 _ (List.mem_of_getElem? (i := 2) rfl)
theorem q_428 : (.instanceMethod yX7_bestLead : Cond) ∈ ALL := AL_in17 _ (List.mem_of_getElem? (i := 3) rfl)
theorem q_429 : (.instanceMethod yX7_body : Cond) ∈ ALL := AL_in17 _ (List.mem_of_getElem? (i := 4) rfl)
theorem q_430 : (.instanceMethod yX7_check : Cond) ∈ ALL := AL_in17 _ (List.mem_of_getElem? (i := 5) rfl)
theorem q_431 : (.instanceMethod yX7_count : Cond) ∈ ALL := AL_in17 _ (List.mem_of_getElem? (i := 6) rfl)
theorem q_432 : (.instanceMethod yX7_duel : Cond) ∈ ALL := AL_in17 _ (List.mem_of_getElem? (i := 7) rfl)
theorem q_433 : (.instanceMethod yX7_error : Cond) ∈ ALL := AL_in17 _ (List.mem_of_getElem? (i := 8) rfl)
theorem q_434 : (.instanceMethod yX7_feed : Cond) ∈ ALL := AL_in17 _ (List.mem_of_getElem? (i := 9) rfl)
theorem q_435 : (.instanceMethod yX7_fits : Cond) ∈ ALL := AL_in17 _ (List.mem_of_getElem? (i := 10) rfl)
theorem q_436 : (.instanceMethod yX7_fitsFrom : Cond) ∈ ALL := AL_in17 _ (List.mem_of_getElem? (i := 11) rfl)
theorem q_437 : (.instanceMethod yX7_go : Cond) ∈ ALL := AL_in17 _ (List.mem_of_getElem? (i := 12) rfl)
theorem q_438 : (.instanceMethod yX7_image : Cond) ∈ ALL := AL_in17 _ (List.mem_of_getElem? (i := 13) rfl)
theorem q_439 : (.instanceMethod yX7_init : Cond) ∈ ALL := AL_in17 _ (List.mem_of_getElem? (i := 14) rfl)
theorem q_440 : (.instanceMethod yX7_isPitch : Cond) ∈ ALL := AL_in17 _ (List.mem_of_getElem? (i := 15) rfl)
theorem q_441 : (.instanceMethod yX7_isRunner : Cond) ∈ ALL := AL_in17 _ (List.mem_of_getElem? (i := 16) rfl)
theorem q_442 : (.instanceMethod yX7_judge : Cond) ∈ ALL := AL_in17 _ (List.mem_of_getElem? (i := 17) rfl)
theorem q_443 : (.instanceMethod yX7_law : Cond) ∈ ALL := AL_in17 _ (List.mem_of_getElem? (i := 18) rfl)
theorem q_444 : (.instanceMethod yX7_leadFor : Cond) ∈ ALL := AL_in17 _ (List.mem_of_getElem? (i := 19) rfl)
theorem q_445 : (.instanceMethod yX7_leads : Cond) ∈ ALL := AL_in17 _ (List.mem_of_getElem? (i := 20) rfl)
theorem q_446 : (.instanceMethod yX7_loose : Cond) ∈ ALL := AL_in17 _ (List.mem_of_getElem? (i := 21) rfl)
theorem q_447 : (.instanceMethod yX7_margin : Cond) ∈ ALL := AL_in17 _ (List.mem_of_getElem? (i := 22) rfl)
theorem q_448 : (.instanceMethod yX7_move : Cond) ∈ ALL := AL_in17 _ (List.mem_of_getElem? (i := 23) rfl)
theorem q_449 : (.instanceMethod yX7_odds : Cond) ∈ ALL := AL_in17 _ (List.mem_of_getElem? (i := 24) rfl)
theorem q_450 : (.instanceMethod yX7_over : Cond) ∈ ALL := AL_in18 _ (List.mem_of_getElem? (i := 0) rfl)
theorem q_451 : (.instanceMethod yX7_pitch : Cond) ∈ ALL := AL_in18 _ (List.mem_of_getElem? (i := 1) rfl)
theorem q_452 : (.instanceMethod yX7_pitchIs : Cond) ∈ ALL := AL_in18 _ (List.mem_of_getElem? (i := 2) rfl)
theorem q_453 : (.instanceMethod yX7_put : Cond) ∈ ALL := AL_in18 _ (List.mem_of_getElem? (i := 3) rfl)
theorem q_454 : (.instanceMethod yX7_restore : Cond) ∈ ALL := AL_in18 _ (List.mem_of_getElem? (i := 4) rfl)
theorem q_455 : (.instanceMethod yX7_runner : Cond) ∈ ALL := AL_in18 _ (List.mem_of_getElem? (i := 5) rfl)
theorem q_456 : (.instanceMethod yX7_runnerIs : Cond) ∈ ALL := AL_in18 _ (List.mem_of_getElem? (i := 6) rfl)
theorem q_457 : (.instanceMethod yX7_seed : Cond) ∈ ALL := AL_in18 _ (List.mem_of_getElem? (i := 7) rfl)
theorem q_458 : (.instanceMethod yX7_set : Cond) ∈ ALL := AL_in18 _ (List.mem_of_getElem? (i := 8) rfl)
theorem q_459 : (.instanceMethod yX7_sheet : Cond) ∈ ALL := AL_in18 _ (List.mem_of_getElem? (i := 9) rfl)
theorem q_460 : (.instanceMethod yX7_steal : Cond) ∈ ALL := AL_in18 _ (List.mem_of_getElem? (i := 10) rfl)
theorem q_461 : (.instanceMethod yX7_surely : Cond) ∈ ALL := AL_in18 _ (List.mem_of_getElem? (i := 11) rfl)
theorem q_462 : (.instanceMethod yX7_tell : Cond) ∈ ALL := AL_in18 _ (List.mem_of_getElem? (i := 12) rfl)
theorem q_463 : (.instanceMethod yX7_text : Cond) ∈ ALL := AL_in18 _ (List.mem_of_getElem? (i := 13) rfl)
theorem q_464 : (.instanceMethod yX7_told : Cond) ∈ ALL := AL_in18 _ (List.mem_of_getElem? (i := 14) rfl)
theorem q_465 : (.instanceMethod yX7_untell : Cond) ∈ ALL := AL_in18 _ (List.mem_of_getElem? (i := 15) rfl)
theorem q_466 : (.instanceMethod yX7_voice : Cond) ∈ ALL := AL_in18 _ (List.mem_of_getElem? (i := 16) rfl)
theorem q_467 : (.instanceMethod yX7_weighs : Cond) ∈ ALL := AL_in18 _ (List.mem_of_getElem? (i := 17) rfl)
theorem q_468 : (.instanceMethod yX7_weightsBy : Cond) ∈ ALL := AL_in18 _ (List.mem_of_getElem? (i := 18) rfl)
theorem q_469 : (.instanceMethod yX8_about : Cond) ∈ ALL := AL_in18 _ (List.mem_of_getElem? (i := 19) rfl)
theorem q_470 : (.instanceMethod yX8_airOf : Cond) ∈ ALL := AL_in18 _ (List.mem_of_getElem? (i := 20) rfl)
theorem q_471 : (.instanceMethod yX8_all : Cond) ∈ ALL := AL_in18 _ (List.mem_of_getElem? (i := 21) rfl)
theorem q_472 : (.instanceMethod yX8_any : Cond) ∈ ALL := AL_in18 _ (List.mem_of_getElem? (i := 22) rfl)
theorem q_473 : (.instanceMethod yX8_as : Cond) ∈ ALL := AL_in18 _ (List.mem_of_getElem? (i := 23) rfl)
theorem q_474 : (.instanceMethod yX8_become : Cond) ∈ ALL := AL_in18 _ (List.mem_of_getElem? (i := 24) rfl)
theorem q_475 : (.instanceMethod yX8_becomes : Cond) ∈ ALL := AL_in19 _ (List.mem_of_getElem? (i := 0) rfl)
theorem q_476 : (.instanceMethod yX8_begins : Cond) ∈ ALL := AL_in19 _ (List.mem_of_getElem? (i := 1) rfl)
theorem q_477 : (.instanceMethod yX8_bestLead : Cond) ∈ ALL := AL_in19 _ (List.mem_of_getElem? (i := 2) rfl)
theorem q_478 : (.instanceMethod yX8_body : Cond) ∈ ALL := AL_in19 _ (List.mem_of_getElem? (i := 3) rfl)
theorem q_479 : (.instanceMethod yX8_check : Cond) ∈ ALL := AL_in19 _ (List.mem_of_getElem? (i := 4) rfl)
theorem q_480 : (.instanceMethod yX8_compares : Cond) ∈ ALL := AL_in19 _ (List.mem_of_getElem? (i := 5) rfl)
theorem q_481 : (.instanceMethod yX8_costsOf : Cond) ∈ ALL := AL_in19 _ (List.mem_of_getElem? (i := 6) rfl)
theorem q_482 : (.instanceMethod yX8_count : Cond) ∈ ALL := AL_in19 _ (List.mem_of_getElem? (i := 7) rfl)
theorem q_483 : (.instanceMethod yX8_curveHisses : Cond) ∈ ALL := AL_in19 _ (List.mem_of_getElem? (i := 8) rfl)
theorem q_484 : (.instanceMethod yX8_draw : Cond) ∈ ALL := AL_in19 _ (List.mem_of_getElem? (i := 9) rfl)
theorem q_485 : (.instanceMethod yX8_drawn : Cond) ∈ ALL := AL_in19 _ (List.mem_of_getElem? (i := 10) rfl)
theorem q_486 : (.instanceMethod yX8_drops : Cond) ∈ ALL := AL_in19 _ (List.mem_of_getElem? (i := 11) rfl)
theorem q_487 : (.instanceMethod yX8_duel : Cond) ∈ ALL := AL_in19 _ (List.mem_of_getElem? (i := 12) rfl)
theorem q_488 : (.instanceMethod yX8_error : Cond) ∈ ALL := AL_in19 _ (List.mem_of_getElem? (i := 13) rfl)
theorem q_489 : (.instanceMethod yX8_feed : Cond) ∈ ALL := AL_in19 _ (List.mem_of_getElem? (i := 14) rfl)
theorem q_490 : (.instanceMethod yX8_fits : Cond) ∈ ALL := AL_in19 _ (List.mem_of_getElem? (i := 15) rfl)
theorem q_491 : (.instanceMethod yX8_gainOf : Cond) ∈ ALL := AL_in19 _ (List.mem_of_getElem? (i := 16) rfl)
theorem q_492 : (.instanceMethod yX8_gainsFrom : Cond) ∈ ALL := AL_in19 _ (List.mem_of_getElem? (i := 17) rfl)
theorem q_493 : (.instanceMethod yX8_gives : Cond) ∈ ALL := AL_in19 _ (List.mem_of_getElem? (i := 18) rfl)
theorem q_494 : (.instanceMethod yX8_go : Cond) ∈ ALL := AL_in19 _ (List.mem_of_getElem? (i := 19) rfl)
theorem q_495 : (.instanceMethod yX8_goes : Cond) ∈ ALL := AL_in19 _ (List.mem_of_getElem? (i := 20) rfl)
theorem q_496 : (.instanceMethod yX8_hardDrops : Cond) ∈ ALL := AL_in19 _ (List.mem_of_getElem? (i := 21) rfl)
theorem q_497 : (.instanceMethod yX8_hisses : Cond) ∈ ALL := AL_in19 _ (List.mem_of_getElem? (i := 22) rfl)
theorem q_498 : (.instanceMethod yX8_image : Cond) ∈ ALL := AL_in19 _ (List.mem_of_getElem? (i := 23) rfl)
theorem q_499 : (.instanceMethod yX8_init : Cond) ∈ ALL := AL_in19 _ (List.mem_of_getElem? (i := 24) rfl)
theorem q_500 : (.instanceMethod yX8_isOut : Cond) ∈ ALL := AL_in20 _ (List.mem_of_getElem? (i := 0) rfl)
theorem q_501 : (.instanceMethod yX8_isPickedAt : Cond) ∈ ALL := AL_in20 _ (List.mem_of_getElem? (i := 1) rfl)
theorem q_502 : (.instanceMethod yX8_isPitch : Cond) ∈ ALL := AL_in20 _ (List.mem_of_getElem? (i := 2) rfl)
theorem q_503 : (.instanceMethod yX8_isRunner : Cond) ∈ ALL := AL_in20 _ (List.mem_of_getElem? (i := 3) rfl)
theorem q_504 : (.instanceMethod yX8_isSafe : Cond) ∈ ALL := AL_in20 _ (List.mem_of_getElem? (i := 4) rfl)
theorem q_505 : (.instanceMethod yX8_isSo : Cond) ∈ ALL := AL_in20 _ (List.mem_of_getElem? (i := 5) rfl)
theorem q_506 : (.instanceMethod yX8_judge : Cond) ∈ ALL := AL_in20 _ (List.mem_of_getElem? (i := 6) rfl)
theorem q_507 : (.instanceMethod yX8_law : Cond) ∈ ALL := AL_in20 _ (List.mem_of_getElem? (i := 7) rfl)
theorem q_508 : (.instanceMethod yX8_lays : Cond) ∈ ALL := AL_in20 _ (List.mem_of_getElem? (i := 8) rfl)
theorem q_509 : (.instanceMethod yX8_leadFor : Cond) ∈ ALL := AL_in20 _ (List.mem_of_getElem? (i := 9) rfl)
theorem q_510 : (.instanceMethod yX8_leads : Cond) ∈ ALL := AL_in20 _ (List.mem_of_getElem? (i := 10) rfl)
theorem q_511 : (.instanceMethod yX8_lets : Cond) ∈ ALL := AL_in20 _ (List.mem_of_getElem? (i := 11) rfl)
theorem q_512 : (.instanceMethod yX8_look : Cond) ∈ ALL := AL_in20 _ (List.mem_of_getElem? (i := 12) rfl)
theorem q_513 : (.instanceMethod yX8_loose : Cond) ∈ ALL := AL_in20 _ (List.mem_of_getElem? (i := 13) rfl)
theorem q_514 : (.instanceMethod yX8_margin : Cond) ∈ ALL := AL_in20 _ (List.mem_of_getElem? (i := 14) rfl)
theorem q_515 : (.instanceMethod yX8_marginOf : Cond) ∈ ALL := AL_in20 _ (List.mem_of_getElem? (i := 15) rfl)
theorem q_516 : (.instanceMethod yX8_more : Cond) ∈ ALL := AL_in20 _ (List.mem_of_getElem? (i := 16) rfl)
theorem q_517 : (.instanceMethod yX8_move : Cond) ∈ ALL := AL_in20 _ (List.mem_of_getElem? (i := 17) rfl)
theorem q_518 : (.instanceMethod yX8_nameOf : Cond) ∈ ALL := AL_in20 _ (List.mem_of_getElem? (i := 18) rfl)
theorem q_519 : (.instanceMethod yX8_notMoved : Cond) ∈ ALL := AL_in20 _ (List.mem_of_getElem? (i := 19) rfl)
theorem q_520 : (.instanceMethod yX8_notThere : Cond) ∈ ALL := AL_in20 _ (List.mem_of_getElem? (i := 20) rfl)
theorem q_521 : (.instanceMethod yX8_number : Cond) ∈ ALL := AL_in20 _ (List.mem_of_getElem? (i := 21) rfl)
theorem q_522 : (.instanceMethod yX8_odds : Cond) ∈ ALL := AL_in20 _ (List.mem_of_getElem? (i := 22) rfl)
theorem q_523 : (.instanceMethod yX8_of : Cond) ∈ ALL := AL_in20 _ (List.mem_of_getElem? (i := 23) rfl)
theorem q_524 : (.instanceMethod yX8_one : Cond) ∈ ALL := AL_in20 _ (List.mem_of_getElem? (i := 24) rfl)
theorem q_525 : (.instanceMethod yX8_opens : Cond) ∈ ALL := AL_in21 _ (List.mem_of_getElem? (i := 0) rfl)
theorem q_526 : (.instanceMethod yX8_over : Cond) ∈ ALL := AL_in21 _ (List.mem_of_getElem? (i := 1) rfl)
theorem q_527 : (.instanceMethod yX8_partsBy : Cond) ∈ ALL := AL_in21 _ (List.mem_of_getElem? (i := 2) rfl)
theorem q_528 : (.instanceMethod yX8_pitch : Cond) ∈ ALL := AL_in21 _ (List.mem_of_getElem? (i := 3) rfl)
theorem q_529 : (.instanceMethod yX8_pitchIs : Cond) ∈ ALL := AL_in21 _ (List.mem_of_getElem? (i := 4) rfl)
theorem q_530 : (.instanceMethod yX8_plainAir : Cond) ∈ ALL := AL_in21 _ (List.mem_of_getElem? (i := 5) rfl)
theorem q_531 : (.instanceMethod yX8_plainDrops : Cond) ∈ ALL := AL_in21 _ (List.mem_of_getElem? (i := 6) rfl)
theorem q_532 : (.instanceMethod yX8_plainHisses : Cond) ∈ ALL := AL_in21 _ (List.mem_of_getElem? (i := 7) rfl)
theorem q_533 : (.instanceMethod yX8_plainParts : Cond) ∈ ALL := AL_in21 _ (List.mem_of_getElem? (i := 8) rfl)
theorem q_534 : (.instanceMethod yX8_plainThuds : Cond) ∈ ALL := AL_in21 _ (List.mem_of_getElem? (i := 9) rfl)
theorem q_535 : (.instanceMethod yX8_put : Cond) ∈ ALL := AL_in21 _ (List.mem_of_getElem? (i := 10) rfl)
theorem q_536 : (.instanceMethod yX8_restore : Cond) ∈ ALL := AL_in21 _ (List.mem_of_getElem? (i := 11) rfl)
theorem q_537 : (.instanceMethod yX8_runFrom : Cond) ∈ ALL := AL_in21 _ (List.mem_of_getElem? (i := 12) rfl)
theorem q_538 : (.instanceMethod yX8_runner : Cond) ∈ ALL := AL_in21 _ (List.mem_of_getElem? (i := 13) rfl)
theorem q_539 : (.instanceMethod yX8_runnerIs : Cond) ∈ ALL := AL_in21 _ (List.mem_of_getElem? (i := 14) rfl)
theorem q_540 : (.instanceMethod yX8_seed : Cond) ∈ ALL := AL_in21 _ (List.mem_of_getElem? (i := 15) rfl)
theorem q_541 : (.instanceMethod yX8_set : Cond) ∈ ALL := AL_in21 _ (List.mem_of_getElem? (i := 16) rfl)
theorem q_542 : (.instanceMethod yX8_sheet : Cond) ∈ ALL := AL_in21 _ (List.mem_of_getElem? (i := 17) rfl)
theorem q_543 : (.instanceMethod yX8_steal : Cond) ∈ ALL := AL_in21 _ (List.mem_of_getElem? (i := 18) rfl)
theorem q_544 : (.instanceMethod yX8_sum : Cond) ∈ ALL := AL_in21 _ (List.mem_of_getElem? (i := 19) rfl)
theorem q_545 : (.instanceMethod yX8_surely : Cond) ∈ ALL := AL_in21 _ (List.mem_of_getElem? (i := 20) rfl)
theorem q_546 : (.instanceMethod yX8_tell : Cond) ∈ ALL := AL_in21 _ (List.mem_of_getElem? (i := 21) rfl)
theorem q_547 : (.instanceMethod yX8_text : Cond) ∈ ALL := AL_in21 _ (List.mem_of_getElem? (i := 22) rfl)
theorem q_548 : (.instanceMethod yX8_thuds : Cond) ∈ ALL := AL_in21 _ (List.mem_of_getElem? (i := 23) rfl)
theorem q_549 : (.instanceMethod yX8_times : Cond) ∈ ALL := AL_in21 _ (List.mem_of_getElem? (i := 24) rfl)
theorem q_550 : (.instanceMethod yX8_told : Cond) ∈ ALL := AL_in22 _ (List.mem_of_getElem? (i := 0) rfl)
theorem q_551 : (.instanceMethod yX8_untell : Cond) ∈ ALL := AL_in22 _ (List.mem_of_getElem? (i := 1) rfl)
theorem q_552 : (.instanceMethod yX8_voice : Cond) ∈ ALL := AL_in22 _ (List.mem_of_getElem? (i := 2) rfl)
theorem q_553 : (.instanceMethod yX8_weighs : Cond) ∈ ALL := AL_in22 _ (List.mem_of_getElem? (i := 3) rfl)
theorem q_554 : (.instanceMethod yX8_weights : Cond) ∈ ALL := AL_in22 _ (List.mem_of_getElem? (i := 4) rfl)
theorem q_555 : (.instanceMethod yX8_weightsBy : Cond) ∈ ALL := AL_in22 _ (List.mem_of_getElem? (i := 5) rfl)
theorem q_556 : (.instanceMethod yX8_works : Cond) ∈ ALL := AL_in22 _ (List.mem_of_getElem? (i := 6) rfl)
theorem q_557 : (.instantiable RX0 5 : Cond) ∈ ALL := AL_in22 _ (List.mem_of_getElem? (i := 7) rfl)
theorem q_558 : (.instantiable RX1 7 : Cond) ∈ ALL := AL_in22 _ (List.mem_of_getElem? (i := 8) rfl)
theorem q_559 : (.instantiable RX2 6 : Cond) ∈ ALL := AL_in22 _ (List.mem_of_getElem? (i := 9) rfl)
theorem q_560 : (.instantiable RX3 15 : Cond) ∈ ALL := AL_in22 _ (List.mem_of_getElem? (i := 10) rfl)
theorem q_561 : (.instantiable RX4 3 : Cond) ∈ ALL := AL_in22 _ (List.mem_of_getElem? (i := 11) rfl)
theorem q_562 : (.instantiable RX5 4 : Cond) ∈ ALL := AL_in22 _ (List.mem_of_getElem? (i := 12) rfl)
theorem q_563 : (.instantiable RX6 6 : Cond) ∈ ALL := AL_in22 _ (List.mem_of_getElem? (i := 13) rfl)
theorem q_564 : (.instantiable RX7 7 : Cond) ∈ ALL := AL_in22 _ (List.mem_of_getElem? (i := 14) rfl)
theorem q_565 : (.instantiable RX8 19 : Cond) ∈ ALL := AL_in22 _ (List.mem_of_getElem? (i := 15) rfl)
theorem q_566 : (.methodLink RX0 28 arraycopyName : Cond) ∈ ALL := AL_in22 _ (List.mem_of_getElem? (i := 16) rfl)
theorem q_567 : (.methodLink RX0 3 objectInit : Cond) ∈ ALL := AL_in22 _ (List.mem_of_getElem? (i := 17) rfl)
theorem q_568 : (.methodLink RX1 3 objectInit : Cond) ∈ ALL := AL_in22 _ (List.mem_of_getElem? (i := 18) rfl)
theorem q_569 : (.methodLink RX1 45 yX1_begins : Cond) ∈ ALL := AL_in22 _ (List.mem_of_getElem? (i := 19) rfl)
theorem q_570 : (.methodLink RX1 49 yX1_continues : Cond) ∈ ALL := AL_in22 _ (List.mem_of_getElem? (i := 20) rfl)
theorem q_571 : (.methodLink RX1 53 yX1_settle : Cond) ∈ ALL := AL_in22 _ (List.mem_of_getElem? (i := 21) rfl)
theorem q_572 : (.methodLink RX1 57 yX1_park : Cond) ∈ ALL := AL_in22 _ (List.mem_of_getElem? (i := 22) rfl)
theorem q_573 : (.methodLink RX1 60 yX1_isNumeral : Cond) ∈ ALL := AL_in22 _ (List.mem_of_getElem? (i := 23) rfl)
theorem q_574 : (.methodLink RX1 63 yX5_add : Cond) ∈ ALL := AL_in22 _ (List.mem_of_getElem? (i := 24) rfl)
theorem q_575 : (.methodLink RX1 70 yX1_lengthens : Cond) ∈ ALL := AL_in23 _ (List.mem_of_getElem? (i := 0) rfl)
theorem q_576 : (.methodLink RX1 73 yX1_closes : Cond) ∈ ALL := AL_in23 _ (List.mem_of_getElem? (i := 1) rfl)
theorem q_577 : (.methodLink RX1 77 yX1_rankOf : Cond) ∈ ALL := AL_in23 _ (List.mem_of_getElem? (i := 2) rfl)
theorem q_578 : (.methodLink RX2 3 objectInit : Cond) ∈ ALL := AL_in23 _ (List.mem_of_getElem? (i := 3) rfl)
theorem q_579 : (.methodLink RX2 31 arraycopyName : Cond) ∈ ALL := AL_in23 _ (List.mem_of_getElem? (i := 4) rfl)
theorem q_580 : (.methodLink RX3 107 yX3_airByKind : Cond) ∈ ALL := AL_in23 _ (List.mem_of_getElem? (i := 5) rfl)
theorem q_581 : (.methodLink RX3 111 yX3_gives : Cond) ∈ ALL := AL_in23 _ (List.mem_of_getElem? (i := 6) rfl)
theorem q_582 : (.methodLink RX3 115 yX2_backFrom : Cond) ∈ ALL := AL_in23 _ (List.mem_of_getElem? (i := 7) rfl)
theorem q_583 : (.methodLink RX3 119 yX3_air : Cond) ∈ ALL := AL_in23 _ (List.mem_of_getElem? (i := 8) rfl)
theorem q_584 : (.methodLink RX3 122 yX2_runFrom : Cond) ∈ ALL := AL_in23 _ (List.mem_of_getElem? (i := 9) rfl)
theorem q_585 : (.methodLink RX3 125 yX3_marginFrom : Cond) ∈ ALL := AL_in23 _ (List.mem_of_getElem? (i := 10) rfl)
theorem q_586 : (.methodLink RX3 128 yX3_gainOf : Cond) ∈ ALL := AL_in23 _ (List.mem_of_getElem? (i := 11) rfl)
theorem q_587 : (.methodLink RX3 137 yX3_gainFrom : Cond) ∈ ALL := AL_in23 _ (List.mem_of_getElem? (i := 12) rfl)
theorem q_588 : (.methodLink RX3 143 yX3_oneMore : Cond) ∈ ALL := AL_in23 _ (List.mem_of_getElem? (i := 13) rfl)
theorem q_589 : (.methodLink RX3 146 yX3_isOut : Cond) ∈ ALL := AL_in23 _ (List.mem_of_getElem? (i := 14) rfl)
theorem q_590 : (.methodLink RX3 157 yX0_allWeights : Cond) ∈ ALL := AL_in23 _ (List.mem_of_getElem? (i := 15) rfl)
theorem q_591 : (.methodLink RX3 162 yX3_draw : Cond) ∈ ALL := AL_in23 _ (List.mem_of_getElem? (i := 16) rfl)
theorem q_592 : (.methodLink RX3 165 yX0_byWeight : Cond) ∈ ALL := AL_in23 _ (List.mem_of_getElem? (i := 17) rfl)
theorem q_593 : (.methodLink RX3 168 yX3_isPicked : Cond) ∈ ALL := AL_in23 _ (List.mem_of_getElem? (i := 18) rfl)
theorem q_594 : (.methodLink RX3 172 yX3_goes : Cond) ∈ ALL := AL_in23 _ (List.mem_of_getElem? (i := 19) rfl)
theorem q_595 : (.methodLink RX3 175 Lib.Math.min.name : Cond) ∈ ALL := AL_in23 _ (List.mem_of_getElem? (i := 20) rfl)
theorem q_596 : (.methodLink RX3 180 Lib.Math.max.name : Cond) ∈ ALL := AL_in23 _ (List.mem_of_getElem? (i := 21) rfl)
theorem q_597 : (.methodLink RX3 3 objectInit : Cond) ∈ ALL := AL_in23 _ (List.mem_of_getElem? (i := 22) rfl)
theorem q_598 : (.methodLink RX3 71 yX0_takes : Cond) ∈ ALL := AL_in23 _ (List.mem_of_getElem? (i := 23) rfl)
theorem q_599 : (.methodLink RX3 75 yX2_takes : Cond) ∈ ALL := AL_in23 _ (List.mem_of_getElem? (i := 24) rfl)
theorem q_600 : (.methodLink RX3 78 yX5_takes : Cond) ∈ ALL := AL_in24 _ (List.mem_of_getElem? (i := 0) rfl)
theorem q_601 : (.methodLink RX3 81 arraycopyName : Cond) ∈ ALL := AL_in24 _ (List.mem_of_getElem? (i := 1) rfl)
theorem q_602 : (.methodLink RX3 91 yX5_work : Cond) ∈ ALL := AL_in24 _ (List.mem_of_getElem? (i := 2) rfl)
theorem q_603 : (.methodLink RX3 95 yX3_held : Cond) ∈ ALL := AL_in24 _ (List.mem_of_getElem? (i := 3) rfl)
theorem q_604 : (.methodLink RX4 22 arraycopyName : Cond) ∈ ALL := AL_in24 _ (List.mem_of_getElem? (i := 4) rfl)
theorem q_605 : (.methodLink RX4 3 objectInit : Cond) ∈ ALL := AL_in24 _ (List.mem_of_getElem? (i := 5) rfl)
theorem q_606 : (.methodLink RX5 26 arraycopyName : Cond) ∈ ALL := AL_in24 _ (List.mem_of_getElem? (i := 6) rfl)
theorem q_607 : (.methodLink RX5 3 objectInit : Cond) ∈ ALL := AL_in24 _ (List.mem_of_getElem? (i := 7) rfl)
theorem q_608 : (.methodLink RX5 32 yX5_named : Cond) ∈ ALL := AL_in24 _ (List.mem_of_getElem? (i := 8) rfl)
theorem q_609 : (.methodLink RX5 36 yX5_joined : Cond) ∈ ALL := AL_in24 _ (List.mem_of_getElem? (i := 9) rfl)
theorem q_610 : (.methodLink RX6 3 objectInit : Cond) ∈ ALL := AL_in24 _ (List.mem_of_getElem? (i := 10) rfl)
theorem q_611 : (.methodLink RX6 32 yX6_say : Cond) ∈ ALL := AL_in24 _ (List.mem_of_getElem? (i := 11) rfl)
theorem q_612 : (.methodLink RX6 36 yX6_bodyOf : Cond) ∈ ALL := AL_in24 _ (List.mem_of_getElem? (i := 12) rfl)
theorem q_613 : (.methodLink RX6 40 yX6_begin : Cond) ∈ ALL := AL_in24 _ (List.mem_of_getElem? (i := 13) rfl)
theorem q_614 : (.methodLink RX6 44 yX6_parts : Cond) ∈ ALL := AL_in24 _ (List.mem_of_getElem? (i := 14) rfl)
theorem q_615 : (.methodLink RX6 48 yX6_partsOfCurve : Cond) ∈ ALL := AL_in24 _ (List.mem_of_getElem? (i := 15) rfl)
theorem q_616 : (.methodLink RX7 1 objectInit : Cond) ∈ ALL := AL_in24 _ (List.mem_of_getElem? (i := 16) rfl)
theorem q_617 : (.methodLink RX7 108 yX2_add : Cond) ∈ ALL := AL_in24 _ (List.mem_of_getElem? (i := 17) rfl)
theorem q_618 : (.methodLink RX7 109 yX7_isRunner : Cond) ∈ ALL := AL_in24 _ (List.mem_of_getElem? (i := 18) rfl)
theorem q_619 : (.methodLink RX7 127 yX2_runFrom : Cond) ∈ ALL := AL_in24 _ (List.mem_of_getElem? (i := 19) rfl)
theorem q_620 : (.methodLink RX7 130 yX3_isPicked : Cond) ∈ ALL := AL_in24 _ (List.mem_of_getElem? (i := 20) rfl)
theorem q_621 : (.methodLink RX7 133 yX7_isFeet : Cond) ∈ ALL := AL_in24 _ (List.mem_of_getElem? (i := 21) rfl)
theorem q_622 : (.methodLink RX7 136 yX7_mostOfSetting : Cond) ∈ ALL := AL_in24 _ (List.mem_of_getElem? (i := 22) rfl)
theorem q_623 : (.methodLink RX7 139 yX3_change : Cond) ∈ ALL := AL_in24 _ (List.mem_of_getElem? (i := 23) rfl)
theorem q_624 : (.methodLink RX7 142 yX3_goes : Cond) ∈ ALL := AL_in24 _ (List.mem_of_getElem? (i := 24) rfl)
theorem q_625 : (.methodLink RX7 145 yX3_isOut : Cond) ∈ ALL := AL_in25 _ (List.mem_of_getElem? (i := 0) rfl)
theorem q_626 : (.methodLink RX7 156 yX7_isUse : Cond) ∈ ALL := AL_in25 _ (List.mem_of_getElem? (i := 1) rfl)
theorem q_627 : (.methodLink RX7 159 yX1_faultOf : Cond) ∈ ALL := AL_in25 _ (List.mem_of_getElem? (i := 2) rfl)
theorem q_628 : (.methodLink RX7 163 yX3_textOf : Cond) ∈ ALL := AL_in25 _ (List.mem_of_getElem? (i := 3) rfl)
theorem q_629 : (.methodLink RX7 171 yX5_takes : Cond) ∈ ALL := AL_in25 _ (List.mem_of_getElem? (i := 4) rfl)
theorem q_630 : (.methodLink RX7 181 yX3_gives : Cond) ∈ ALL := AL_in25 _ (List.mem_of_getElem? (i := 5) rfl)
theorem q_631 : (.methodLink RX7 185 yX3_marginFrom : Cond) ∈ ALL := AL_in25 _ (List.mem_of_getElem? (i := 6) rfl)
theorem q_632 : (.methodLink RX7 189 yX3_weighedGains : Cond) ∈ ALL := AL_in25 _ (List.mem_of_getElem? (i := 7) rfl)
theorem q_633 : (.methodLink RX7 192 yX0_allWeights : Cond) ∈ ALL := AL_in25 _ (List.mem_of_getElem? (i := 8) rfl)
theorem q_634 : (.methodLink RX7 196 yX3_safeWeights : Cond) ∈ ALL := AL_in25 _ (List.mem_of_getElem? (i := 9) rfl)
theorem q_635 : (.methodLink RX7 199 yX7_partOf : Cond) ∈ ALL := AL_in25 _ (List.mem_of_getElem? (i := 10) rfl)
theorem q_636 : (.methodLink RX7 202 yX3_gainFrom : Cond) ∈ ALL := AL_in25 _ (List.mem_of_getElem? (i := 11) rfl)
theorem q_637 : (.methodLink RX7 205 Lib.Math.min.name : Cond) ∈ ALL := AL_in25 _ (List.mem_of_getElem? (i := 12) rfl)
theorem q_638 : (.methodLink RX7 210 Lib.Math.max.name : Cond) ∈ ALL := AL_in25 _ (List.mem_of_getElem? (i := 13) rfl)
theorem q_639 : (.methodLink RX7 213 yX3_safePitches : Cond) ∈ ALL := AL_in25 _ (List.mem_of_getElem? (i := 14) rfl)
theorem q_640 : (.methodLink RX7 216 yJ6_bitCount_0f7a4 : Cond) ∈ ALL := AL_in25 _ (List.mem_of_getElem? (i := 15) rfl)
theorem q_641 : (.methodLink RX7 221 yX7_isSheet : Cond) ∈ ALL := AL_in25 _ (List.mem_of_getElem? (i := 16) rfl)
theorem q_642 : (.methodLink RX7 224 yX4_isMissing : Cond) ∈ ALL := AL_in25 _ (List.mem_of_getElem? (i := 17) rfl)
theorem q_643 : (.methodLink RX7 227 yX7_fitsFrom : Cond) ∈ ALL := AL_in25 _ (List.mem_of_getElem? (i := 18) rfl)
theorem q_644 : (.methodLink RX7 230 yX3_isSafeByDraws : Cond) ∈ ALL := AL_in25 _ (List.mem_of_getElem? (i := 19) rfl)
theorem q_645 : (.methodLink RX7 237 yX6_speak : Cond) ∈ ALL := AL_in25 _ (List.mem_of_getElem? (i := 20) rfl)
theorem q_646 : (.methodLink RX7 250 yX4_lay : Cond) ∈ ALL := AL_in25 _ (List.mem_of_getElem? (i := 21) rfl)
theorem q_647 : (.methodLink RX7 254 yX4_standsAt : Cond) ∈ ALL := AL_in25 _ (List.mem_of_getElem? (i := 22) rfl)
theorem q_648 : (.methodLink RX7 257 yX4_write : Cond) ∈ ALL := AL_in25 _ (List.mem_of_getElem? (i := 23) rfl)
theorem q_649 : (.methodLink RX7 263 yX4_copy : Cond) ∈ ALL := AL_in25 _ (List.mem_of_getElem? (i := 24) rfl)
theorem q_650 : (.methodLink RX7 269 yX4_read : Cond) ∈ ALL := AL_in26 _ (List.mem_of_getElem? (i := 0) rfl)
theorem q_651 : (.methodLink RX7 272 yX3_takes : Cond) ∈ ALL := AL_in26 _ (List.mem_of_getElem? (i := 1) rfl)
theorem q_652 : (.methodLink RX7 303 Lib.Math.abs.name : Cond) ∈ ALL := AL_in26 _ (List.mem_of_getElem? (i := 2) rfl)
theorem q_653 : (.methodLink RX7 306 yX7_commonOf : Cond) ∈ ALL := AL_in26 _ (List.mem_of_getElem? (i := 3) rfl)
theorem q_654 : (.methodLink RX7 48 yX7_isKindAndM : Cond) ∈ ALL := AL_in26 _ (List.mem_of_getElem? (i := 4) rfl)
theorem q_655 : (.methodLink RX7 52 yX7_isDigit : Cond) ∈ ALL := AL_in26 _ (List.mem_of_getElem? (i := 5) rfl)
theorem q_656 : (.methodLink RX7 55 yX7_error : Cond) ∈ ALL := AL_in26 _ (List.mem_of_getElem? (i := 6) rfl)
theorem q_657 : (.methodLink RX7 68 yX0_add : Cond) ∈ ALL := AL_in26 _ (List.mem_of_getElem? (i := 7) rfl)
theorem q_658 : (.methodLink RX7 72 yX7_isPitch : Cond) ∈ ALL := AL_in26 _ (List.mem_of_getElem? (i := 8) rfl)
theorem q_659 : (.methodLink RX7 87 yX3_air : Cond) ∈ ALL := AL_in26 _ (List.mem_of_getElem? (i := 9) rfl)
theorem q_660 : (.methodLink RX7 90 yX3_costs : Cond) ∈ ALL := AL_in26 _ (List.mem_of_getElem? (i := 10) rfl)
theorem q_661 : (.methodLink RX7 93 yX7_within : Cond) ∈ ALL := AL_in26 _ (List.mem_of_getElem? (i := 11) rfl)
theorem q_662 : (.methodLink RX7 97 yX7_isUnder : Cond) ∈ ALL := AL_in26 _ (List.mem_of_getElem? (i := 12) rfl)
theorem q_663 : (.methodLink RX8 103 yX8_isLead : Cond) ∈ ALL := AL_in26 _ (List.mem_of_getElem? (i := 13) rfl)
theorem q_664 : (.methodLink RX8 106 yX8_held : Cond) ∈ ALL := AL_in26 _ (List.mem_of_getElem? (i := 14) rfl)
theorem q_665 : (.methodLink RX8 109 yX8_more : Cond) ∈ ALL := AL_in26 _ (List.mem_of_getElem? (i := 15) rfl)
theorem q_666 : (.methodLink RX8 113 yX8_isSafe : Cond) ∈ ALL := AL_in26 _ (List.mem_of_getElem? (i := 16) rfl)
theorem q_667 : (.methodLink RX8 116 yX8_gainOf : Cond) ∈ ALL := AL_in26 _ (List.mem_of_getElem? (i := 17) rfl)
theorem q_668 : (.methodLink RX8 119 yX8_isOut : Cond) ∈ ALL := AL_in26 _ (List.mem_of_getElem? (i := 18) rfl)
theorem q_669 : (.methodLink RX8 122 yX8_goes : Cond) ∈ ALL := AL_in26 _ (List.mem_of_getElem? (i := 19) rfl)
theorem q_670 : (.methodLink RX8 137 yX8_look : Cond) ∈ ALL := AL_in26 _ (List.mem_of_getElem? (i := 20) rfl)
theorem q_671 : (.methodLink RX8 145 yX8_lays : Cond) ∈ ALL := AL_in26 _ (List.mem_of_getElem? (i := 21) rfl)
theorem q_672 : (.methodLink RX8 152 yX8_one : Cond) ∈ ALL := AL_in26 _ (List.mem_of_getElem? (i := 22) rfl)
theorem q_673 : (.methodLink RX8 155 yX8_any : Cond) ∈ ALL := AL_in26 _ (List.mem_of_getElem? (i := 23) rfl)
theorem q_674 : (.methodLink RX8 158 yX8_nameOf : Cond) ∈ ALL := AL_in26 _ (List.mem_of_getElem? (i := 24) rfl)
theorem q_675 : (.methodLink RX8 161 yX8_opens : Cond) ∈ ALL := AL_in27 _ (List.mem_of_getElem? (i := 0) rfl)
theorem q_676 : (.methodLink RX8 164 yX8_number : Cond) ∈ ALL := AL_in27 _ (List.mem_of_getElem? (i := 1) rfl)
theorem q_677 : (.methodLink RX8 167 yX8_times : Cond) ∈ ALL := AL_in27 _ (List.mem_of_getElem? (i := 2) rfl)
theorem q_678 : (.methodLink RX8 170 yX8_sum : Cond) ∈ ALL := AL_in27 _ (List.mem_of_getElem? (i := 3) rfl)
theorem q_679 : (.methodLink RX8 173 yX8_compares : Cond) ∈ ALL := AL_in27 _ (List.mem_of_getElem? (i := 4) rfl)
theorem q_680 : (.methodLink RX8 176 yX8_all : Cond) ∈ ALL := AL_in27 _ (List.mem_of_getElem? (i := 5) rfl)
theorem q_681 : (.methodLink RX8 179 yX8_twoOf : Cond) ∈ ALL := AL_in27 _ (List.mem_of_getElem? (i := 6) rfl)
theorem q_682 : (.methodLink RX8 182 yX8_works : Cond) ∈ ALL := AL_in27 _ (List.mem_of_getElem? (i := 7) rfl)
theorem q_683 : (.methodLink RX8 186 yX8_gainsFrom : Cond) ∈ ALL := AL_in27 _ (List.mem_of_getElem? (i := 8) rfl)
theorem q_684 : (.methodLink RX8 189 yX8_weights : Cond) ∈ ALL := AL_in27 _ (List.mem_of_getElem? (i := 9) rfl)
theorem q_685 : (.methodLink RX8 193 yX8_partOf : Cond) ∈ ALL := AL_in27 _ (List.mem_of_getElem? (i := 10) rfl)
theorem q_686 : (.methodLink RX8 196 yX8_lesser : Cond) ∈ ALL := AL_in27 _ (List.mem_of_getElem? (i := 11) rfl)
theorem q_687 : (.methodLink RX8 199 yX8_greater : Cond) ∈ ALL := AL_in27 _ (List.mem_of_getElem? (i := 12) rfl)
theorem q_688 : (.methodLink RX8 202 yX8_isSheet : Cond) ∈ ALL := AL_in27 _ (List.mem_of_getElem? (i := 13) rfl)
theorem q_689 : (.methodLink RX8 205 yX8_isSo : Cond) ∈ ALL := AL_in27 _ (List.mem_of_getElem? (i := 14) rfl)
theorem q_690 : (.methodLink RX8 209 yX8_draw : Cond) ∈ ALL := AL_in27 _ (List.mem_of_getElem? (i := 15) rfl)
theorem q_691 : (.methodLink RX8 212 yX8_drawn : Cond) ∈ ALL := AL_in27 _ (List.mem_of_getElem? (i := 16) rfl)
theorem q_692 : (.methodLink RX8 219 yX8_begins : Cond) ∈ ALL := AL_in27 _ (List.mem_of_getElem? (i := 17) rfl)
theorem q_693 : (.methodLink RX8 222 yX8_plainHisses : Cond) ∈ ALL := AL_in27 _ (List.mem_of_getElem? (i := 18) rfl)
theorem q_694 : (.methodLink RX8 225 yX8_curveHisses : Cond) ∈ ALL := AL_in27 _ (List.mem_of_getElem? (i := 19) rfl)
theorem q_695 : (.methodLink RX8 228 yX8_hisses : Cond) ∈ ALL := AL_in27 _ (List.mem_of_getElem? (i := 20) rfl)
theorem q_696 : (.methodLink RX8 231 yX8_plainDrops : Cond) ∈ ALL := AL_in27 _ (List.mem_of_getElem? (i := 21) rfl)
theorem q_697 : (.methodLink RX8 234 yX8_hardDrops : Cond) ∈ ALL := AL_in27 _ (List.mem_of_getElem? (i := 22) rfl)
theorem q_698 : (.methodLink RX8 237 yX8_drops : Cond) ∈ ALL := AL_in27 _ (List.mem_of_getElem? (i := 23) rfl)
theorem q_699 : (.methodLink RX8 240 yX8_plainThuds : Cond) ∈ ALL := AL_in27 _ (List.mem_of_getElem? (i := 24) rfl)
theorem q_700 : (.methodLink RX8 246 yX8_plainParts : Cond) ∈ ALL := AL_in28 _ (List.mem_of_getElem? (i := 0) rfl)
theorem q_701 : (.methodLink RX8 249 yX8_thuds : Cond) ∈ ALL := AL_in28 _ (List.mem_of_getElem? (i := 1) rfl)
theorem q_702 : (.methodLink RX8 252 yX8_partsBy : Cond) ∈ ALL := AL_in28 _ (List.mem_of_getElem? (i := 2) rfl)
theorem q_703 : (.methodLink RX8 256 yX8_notThere : Cond) ∈ ALL := AL_in28 _ (List.mem_of_getElem? (i := 3) rfl)
theorem q_704 : (.methodLink RX8 259 yX8_notMoved : Cond) ∈ ALL := AL_in28 _ (List.mem_of_getElem? (i := 4) rfl)
theorem q_705 : (.methodLink RX8 263 yX8_copyAll : Cond) ∈ ALL := AL_in28 _ (List.mem_of_getElem? (i := 5) rfl)
theorem q_706 : (.methodLink RX8 3 objectInit : Cond) ∈ ALL := AL_in28 _ (List.mem_of_getElem? (i := 6) rfl)
theorem q_707 : (.methodLink RX8 44 yX8_in : Cond) ∈ ALL := AL_in28 _ (List.mem_of_getElem? (i := 7) rfl)
theorem q_708 : (.methodLink RX8 48 yX8_of : Cond) ∈ ALL := AL_in28 _ (List.mem_of_getElem? (i := 8) rfl)
theorem q_709 : (.methodLink RX8 52 yX8_plainAir : Cond) ∈ ALL := AL_in28 _ (List.mem_of_getElem? (i := 9) rfl)
theorem q_710 : (.methodLink RX8 56 yX8_gives : Cond) ∈ ALL := AL_in28 _ (List.mem_of_getElem? (i := 10) rfl)
theorem q_711 : (.methodLink RX8 60 yX8_about : Cond) ∈ ALL := AL_in28 _ (List.mem_of_getElem? (i := 11) rfl)
theorem q_712 : (.methodLink RX8 63 yX8_airOf : Cond) ∈ ALL := AL_in28 _ (List.mem_of_getElem? (i := 12) rfl)
theorem q_713 : (.methodLink RX8 66 yX8_runFrom : Cond) ∈ ALL := AL_in28 _ (List.mem_of_getElem? (i := 13) rfl)
theorem q_714 : (.methodLink RX8 69 yX8_marginOf : Cond) ∈ ALL := AL_in28 _ (List.mem_of_getElem? (i := 14) rfl)
theorem q_715 : (.methodLink RX8 73 yX8_isKm : Cond) ∈ ALL := AL_in28 _ (List.mem_of_getElem? (i := 15) rfl)
theorem q_716 : (.methodLink RX8 78 yX8_error : Cond) ∈ ALL := AL_in28 _ (List.mem_of_getElem? (i := 16) rfl)
theorem q_717 : (.methodLink RX8 82 yX8_isPitch : Cond) ∈ ALL := AL_in28 _ (List.mem_of_getElem? (i := 17) rfl)
theorem q_718 : (.methodLink RX8 85 yX8_costsOf : Cond) ∈ ALL := AL_in28 _ (List.mem_of_getElem? (i := 18) rfl)
theorem q_719 : (.methodLink RX8 88 yX8_becomes : Cond) ∈ ALL := AL_in28 _ (List.mem_of_getElem? (i := 19) rfl)
theorem q_720 : (.methodLink RX8 92 yX8_lets : Cond) ∈ ALL := AL_in28 _ (List.mem_of_getElem? (i := 20) rfl)
theorem q_721 : (.methodLink RX8 96 yX8_isRunner : Cond) ∈ ALL := AL_in28 _ (List.mem_of_getElem? (i := 21) rfl)
theorem q_722 : (.methodLink RX8 99 yX8_isPickedAt : Cond) ∈ ALL := AL_in28 _ (List.mem_of_getElem? (i := 22) rfl)
theorem q_723 : (.native arraycopyName : Cond) ∈ ALL := AL_in28 _ (List.mem_of_getElem? (i := 23) rfl)
theorem q_724 : (.selects RX0 yX0_add yX0_add : Cond) ∈ ALL := AL_in28 _ (List.mem_of_getElem? (i := 24) rfl)
theorem q_725 : (.selects RX0 yX0_allWeights yX0_allWeights : Cond) ∈ ALL := AL_in29 _ (List.mem_of_getElem? (i := 0) rfl)
theorem q_726 : (.selects RX0 yX0_byWeight yX0_byWeight : Cond) ∈ ALL := AL_in29 _ (List.mem_of_getElem? (i := 1) rfl)
theorem q_727 : (.selects RX0 yX0_takes yX0_takes : Cond) ∈ ALL := AL_in29 _ (List.mem_of_getElem? (i := 2) rfl)
theorem q_728 : (.selects RX1 yX1_begins yX1_begins : Cond) ∈ ALL := AL_in29 _ (List.mem_of_getElem? (i := 3) rfl)
theorem q_729 : (.selects RX1 yX1_closes yX1_closes : Cond) ∈ ALL := AL_in29 _ (List.mem_of_getElem? (i := 4) rfl)
theorem q_730 : (.selects RX1 yX1_continues yX1_continues : Cond) ∈ ALL := AL_in29 _ (List.mem_of_getElem? (i := 5) rfl)
theorem q_731 : (.selects RX1 yX1_faultOf yX1_faultOf : Cond) ∈ ALL := AL_in29 _ (List.mem_of_getElem? (i := 6) rfl)
theorem q_732 : (.selects RX1 yX1_lengthens yX1_lengthens : Cond) ∈ ALL := AL_in29 _ (List.mem_of_getElem? (i := 7) rfl)
theorem q_733 : (.selects RX1 yX1_park yX1_park : Cond) ∈ ALL := AL_in29 _ (List.mem_of_getElem? (i := 8) rfl)
theorem q_734 : (.selects RX1 yX1_settle yX1_settle : Cond) ∈ ALL := AL_in29 _ (List.mem_of_getElem? (i := 9) rfl)
theorem q_735 : (.selects RX2 yX2_add yX2_add : Cond) ∈ ALL := AL_in29 _ (List.mem_of_getElem? (i := 10) rfl)
theorem q_736 : (.selects RX2 yX2_backFrom yX2_backFrom : Cond) ∈ ALL := AL_in29 _ (List.mem_of_getElem? (i := 11) rfl)
theorem q_737 : (.selects RX2 yX2_runFrom yX2_runFrom : Cond) ∈ ALL := AL_in29 _ (List.mem_of_getElem? (i := 12) rfl)
theorem q_738 : (.selects RX2 yX2_takes yX2_takes : Cond) ∈ ALL := AL_in29 _ (List.mem_of_getElem? (i := 13) rfl)
theorem q_739 : (.selects RX3 yX3_air yX3_air : Cond) ∈ ALL := AL_in29 _ (List.mem_of_getElem? (i := 14) rfl)
theorem q_740 : (.selects RX3 yX3_airByKind yX3_airByKind : Cond) ∈ ALL := AL_in29 _ (List.mem_of_getElem? (i := 15) rfl)
theorem q_741 : (.selects RX3 yX3_change yX3_change : Cond) ∈ ALL := AL_in29 _ (List.mem_of_getElem? (i := 16) rfl)
theorem q_742 : (.selects RX3 yX3_costs yX3_costs : Cond) ∈ ALL := AL_in29 _ (List.mem_of_getElem? (i := 17) rfl)
theorem q_743 : (.selects RX3 yX3_draw yX3_draw : Cond) ∈ ALL := AL_in29 _ (List.mem_of_getElem? (i := 18) rfl)
theorem q_744 : (.selects RX3 yX3_gainFrom yX3_gainFrom : Cond) ∈ ALL := AL_in29 _ (List.mem_of_getElem? (i := 19) rfl)
theorem q_745 : (.selects RX3 yX3_gainOf yX3_gainOf : Cond) ∈ ALL := AL_in29 _ (List.mem_of_getElem? (i := 20) rfl)
theorem q_746 : (.selects RX3 yX3_gives yX3_gives : Cond) ∈ ALL := AL_in29 _ (List.mem_of_getElem? (i := 21) rfl)
theorem q_747 : (.selects RX3 yX3_goes yX3_goes : Cond) ∈ ALL := AL_in29 _ (List.mem_of_getElem? (i := 22) rfl)
theorem q_748 : (.selects RX3 yX3_isOut yX3_isOut : Cond) ∈ ALL := AL_in29 _ (List.mem_of_getElem? (i := 23) rfl)
theorem q_749 : (.selects RX3 yX3_isPicked yX3_isPicked : Cond) ∈ ALL := AL_in29 _ (List.mem_of_getElem? (i := 24) rfl)
theorem q_750 : (.selects RX3 yX3_isSafeByDraws yX3_isSafeByDraws : Cond) ∈ ALL := AL_in30 _ (List.mem_of_getElem? (i := 0) rfl)
theorem q_751 : (.selects RX3 yX3_marginFrom yX3_marginFrom : Cond) ∈ ALL := AL_in30 _ (List.mem_of_getElem? (i := 1) rfl)
theorem q_752 : (.selects RX3 yX3_safePitches yX3_safePitches : Cond) ∈ ALL := AL_in30 _ (List.mem_of_getElem? (i := 2) rfl)
theorem q_753 : (.selects RX3 yX3_safeWeights yX3_safeWeights : Cond) ∈ ALL := AL_in30 _ (List.mem_of_getElem? (i := 3) rfl)
theorem q_754 : (.selects RX3 yX3_takes yX3_takes : Cond) ∈ ALL := AL_in30 _ (List.mem_of_getElem? (i := 4) rfl)
theorem q_755 : (.selects RX3 yX3_textOf yX3_textOf : Cond) ∈ ALL := AL_in30 _ (List.mem_of_getElem? (i := 5) rfl)
theorem q_756 : (.selects RX3 yX3_weighedGains yX3_weighedGains : Cond) ∈ ALL := AL_in30 _ (List.mem_of_getElem? (i := 6) rfl)
theorem q_757 : (.selects RX4 yX4_copy yX4_copy : Cond) ∈ ALL := AL_in30 _ (List.mem_of_getElem? (i := 7) rfl)
theorem q_758 : (.selects RX4 yX4_isMissing yX4_isMissing : Cond) ∈ ALL := AL_in30 _ (List.mem_of_getElem? (i := 8) rfl)
theorem q_759 : (.selects RX4 yX4_lay yX4_lay : Cond) ∈ ALL := AL_in30 _ (List.mem_of_getElem? (i := 9) rfl)
theorem q_760 : (.selects RX4 yX4_read yX4_read : Cond) ∈ ALL := AL_in30 _ (List.mem_of_getElem? (i := 10) rfl)
theorem q_761 : (.selects RX4 yX4_standsAt yX4_standsAt : Cond) ∈ ALL := AL_in30 _ (List.mem_of_getElem? (i := 11) rfl)
theorem q_762 : (.selects RX4 yX4_write yX4_write : Cond) ∈ ALL := AL_in30 _ (List.mem_of_getElem? (i := 12) rfl)
theorem q_763 : (.selects RX5 yX5_add yX5_add : Cond) ∈ ALL := AL_in30 _ (List.mem_of_getElem? (i := 13) rfl)
theorem q_764 : (.selects RX5 yX5_takes yX5_takes : Cond) ∈ ALL := AL_in30 _ (List.mem_of_getElem? (i := 14) rfl)
theorem q_765 : (.selects RX5 yX5_work yX5_work : Cond) ∈ ALL := AL_in30 _ (List.mem_of_getElem? (i := 15) rfl)
theorem q_766 : (.selects RX6 yX6_begin yX6_begin : Cond) ∈ ALL := AL_in30 _ (List.mem_of_getElem? (i := 16) rfl)
theorem q_767 : (.selects RX6 yX6_parts yX6_parts : Cond) ∈ ALL := AL_in30 _ (List.mem_of_getElem? (i := 17) rfl)
theorem q_768 : (.selects RX6 yX6_partsOfCurve yX6_partsOfCurve : Cond) ∈ ALL := AL_in30 _ (List.mem_of_getElem? (i := 18) rfl)
theorem q_769 : (.selects RX6 yX6_say yX6_say : Cond) ∈ ALL := AL_in30 _ (List.mem_of_getElem? (i := 19) rfl)
theorem q_770 : (.selects RX6 yX6_speak yX6_speak : Cond) ∈ ALL := AL_in30 _ (List.mem_of_getElem? (i := 20) rfl)
theorem q_771 : (.selects RX7 yX7_as yX7_as : Cond) ∈ ALL := AL_in30 _ (List.mem_of_getElem? (i := 21) rfl)
theorem q_772 : (.selects RX7 yX7_become yX7_become : Cond) ∈ ALL := AL_in30 _ (List.mem_of_getElem? (i := 22) rfl)
theorem q_773 : (.selects RX7 yX7_bestLead yX7_bestLead : Cond) ∈ ALL := AL_in30 _ (List.mem_of_getElem? (i := 23) rfl)
theorem q_774 : (.selects RX7 yX7_body yX7_body : Cond) ∈ ALL := AL_in30 _ (List.mem_of_getElem? (i := 24) rfl)
theorem q_775 : (.selects RX7 yX7_check yX7_check : Cond) ∈ ALL := AL_in31 _ (List.mem_of_getElem? (i := 0) rfl)
theorem q_776 : (.selects RX7 yX7_count yX7_count : Cond) ∈ ALL := AL_in31 _ (List.mem_of_getElem? (i := 1) rfl)
theorem q_777 : (.selects RX7 yX7_duel yX7_duel : Cond) ∈ ALL := AL_in31 _ (List.mem_of_getElem? (i := 2) rfl)
theorem q_778 : (.selects RX7 yX7_error yX7_error : Cond) ∈ ALL := AL_in31 _ (List.mem_of_getElem? (i := 3) rfl)
theorem q_779 : (.selects RX7 yX7_feed yX7_feed : Cond) ∈ ALL := AL_in31 _ (List.mem_of_getElem? (i := 4) rfl)
theorem q_780 : (.selects RX7 yX7_fits yX7_fits : Cond) ∈ ALL := AL_in31 _ (List.mem_of_getElem? (i := 5) rfl)
theorem q_781 : (.selects RX7 yX7_fitsFrom yX7_fitsFrom : Cond) ∈ ALL := AL_in31 _ (List.mem_of_getElem? (i := 6) rfl)
theorem q_782 : (.selects RX7 yX7_go yX7_go : Cond) ∈ ALL := AL_in31 _ (List.mem_of_getElem? (i := 7) rfl)
theorem q_783 : (.selects RX7 yX7_image yX7_image : Cond) ∈ ALL := AL_in31 _ (List.mem_of_getElem? (i := 8) rfl)
theorem q_784 : (.selects RX7 yX7_isPitch yX7_isPitch : Cond) ∈ ALL := AL_in31 _ (List.mem_of_getElem? (i := 9) rfl)
theorem q_785 : (.selects RX7 yX7_isRunner yX7_isRunner : Cond) ∈ ALL := AL_in31 _ (List.mem_of_getElem? (i := 10) rfl)
theorem q_786 : (.selects RX7 yX7_judge yX7_judge : Cond) ∈ ALL := AL_in31 _ (List.mem_of_getElem? (i := 11) rfl)
theorem q_787 : (.selects RX7 yX7_law yX7_law : Cond) ∈ ALL := AL_in31 _ (List.mem_of_getElem? (i := 12) rfl)
theorem q_788 : (.selects RX7 yX7_leadFor yX7_leadFor : Cond) ∈ ALL := AL_in31 _ (List.mem_of_getElem? (i := 13) rfl)
theorem q_789 : (.selects RX7 yX7_leads yX7_leads : Cond) ∈ ALL := AL_in31 _ (List.mem_of_getElem? (i := 14) rfl)
theorem q_790 : (.selects RX7 yX7_loose yX7_loose : Cond) ∈ ALL := AL_in31 _ (List.mem_of_getElem? (i := 15) rfl)
theorem q_791 : (.selects RX7 yX7_margin yX7_margin : Cond) ∈ ALL := AL_in31 _ (List.mem_of_getElem? (i := 16) rfl)
theorem q_792 : (.selects RX7 yX7_move yX7_move : Cond) ∈ ALL := AL_in31 _ (List.mem_of_getElem? (i := 17) rfl)
theorem q_793 : (.selects RX7 yX7_odds yX7_odds : Cond) ∈ ALL := AL_in31 _ (List.mem_of_getElem? (i := 18) rfl)
theorem q_794 : (.selects RX7 yX7_over yX7_over : Cond) ∈ ALL := AL_in31 _ (List.mem_of_getElem? (i := 19) rfl)
theorem q_795 : (.selects RX7 yX7_pitch yX7_pitch : Cond) ∈ ALL := AL_in31 _ (List.mem_of_getElem? (i := 20) rfl)
theorem q_796 : (.selects RX7 yX7_pitchIs yX7_pitchIs : Cond) ∈ ALL := AL_in31 _ (List.mem_of_getElem? (i := 21) rfl)
theorem q_797 : (.selects RX7 yX7_put yX7_put : Cond) ∈ ALL := AL_in31 _ (List.mem_of_getElem? (i := 22) rfl)
theorem q_798 : (.selects RX7 yX7_restore yX7_restore : Cond) ∈ ALL := AL_in31 _ (List.mem_of_getElem? (i := 23) rfl)
theorem q_799 : (.selects RX7 yX7_runner yX7_runner : Cond) ∈ ALL := AL_in31 _ (List.mem_of_getElem? (i := 24) rfl)
theorem q_800 : (.selects RX7 yX7_runnerIs yX7_runnerIs : Cond) ∈ ALL := AL_in32 _ (List.mem_of_getElem? (i := 0) rfl)
theorem q_801 : (.selects RX7 yX7_seed yX7_seed : Cond) ∈ ALL := AL_in32 _ (List.mem_of_getElem? (i := 1) rfl)
theorem q_802 : (.selects RX7 yX7_set yX7_set : Cond) ∈ ALL := AL_in32 _ (List.mem_of_getElem? (i := 2) rfl)
theorem q_803 : (.selects RX7 yX7_sheet yX7_sheet : Cond) ∈ ALL := AL_in32 _ (List.mem_of_getElem? (i := 3) rfl)
theorem q_804 : (.selects RX7 yX7_steal yX7_steal : Cond) ∈ ALL := AL_in32 _ (List.mem_of_getElem? (i := 4) rfl)
theorem q_805 : (.selects RX7 yX7_surely yX7_surely : Cond) ∈ ALL := AL_in32 _ (List.mem_of_getElem? (i := 5) rfl)
theorem q_806 : (.selects RX7 yX7_tell yX7_tell : Cond) ∈ ALL := AL_in32 _ (List.mem_of_getElem? (i := 6) rfl)
theorem q_807 : (.selects RX7 yX7_text yX7_text : Cond) ∈ ALL := AL_in32 _ (List.mem_of_getElem? (i := 7) rfl)
theorem q_808 : (.selects RX7 yX7_told yX7_told : Cond) ∈ ALL := AL_in32 _ (List.mem_of_getElem? (i := 8) rfl)
theorem q_809 : (.selects RX7 yX7_untell yX7_untell : Cond) ∈ ALL := AL_in32 _ (List.mem_of_getElem? (i := 9) rfl)
theorem q_810 : (.selects RX7 yX7_voice yX7_voice : Cond) ∈ ALL := AL_in32 _ (List.mem_of_getElem? (i := 10) rfl)
theorem q_811 : (.selects RX7 yX7_weighs yX7_weighs : Cond) ∈ ALL := AL_in32 _ (List.mem_of_getElem? (i := 11) rfl)
theorem q_812 : (.selects RX7 yX7_weightsBy yX7_weightsBy : Cond) ∈ ALL := AL_in32 _ (List.mem_of_getElem? (i := 12) rfl)
theorem q_813 : (.selects RX8 yX8_about yX8_about : Cond) ∈ ALL := AL_in32 _ (List.mem_of_getElem? (i := 13) rfl)
theorem q_814 : (.selects RX8 yX8_airOf yX8_airOf : Cond) ∈ ALL := AL_in32 _ (List.mem_of_getElem? (i := 14) rfl)
theorem q_815 : (.selects RX8 yX8_all yX8_all : Cond) ∈ ALL := AL_in32 _ (List.mem_of_getElem? (i := 15) rfl)
theorem q_816 : (.selects RX8 yX8_any yX8_any : Cond) ∈ ALL := AL_in32 _ (List.mem_of_getElem? (i := 16) rfl)
theorem q_817 : (.selects RX8 yX8_as yX8_as : Cond) ∈ ALL := AL_in32 _ (List.mem_of_getElem? (i := 17) rfl)
theorem q_818 : (.selects RX8 yX8_become yX8_become : Cond) ∈ ALL := AL_in32 _ (List.mem_of_getElem? (i := 18) rfl)
theorem q_819 : (.selects RX8 yX8_becomes yX8_becomes : Cond) ∈ ALL := AL_in32 _ (List.mem_of_getElem? (i := 19) rfl)
theorem q_820 : (.selects RX8 yX8_begins yX8_begins : Cond) ∈ ALL := AL_in32 _ (List.mem_of_getElem? (i := 20) rfl)
theorem q_821 : (.selects RX8 yX8_bestLead yX8_bestLead : Cond) ∈ ALL := AL_in32 _ (List.mem_of_getElem? (i := 21) rfl)
theorem q_822 : (.selects RX8 yX8_body yX8_body : Cond) ∈ ALL := AL_in32 _ (List.mem_of_getElem? (i := 22) rfl)
theorem q_823 : (.selects RX8 yX8_check yX8_check : Cond) ∈ ALL := AL_in32 _ (List.mem_of_getElem? (i := 23) rfl)
theorem q_824 : (.selects RX8 yX8_compares yX8_compares : Cond) ∈ ALL := AL_in32 _ (List.mem_of_getElem? (i := 24) rfl)
theorem q_825 : (.selects RX8 yX8_costsOf yX8_costsOf : Cond) ∈ ALL := AL_in33 _ (List.mem_of_getElem? (i := 0) rfl)
theorem q_826 : (.selects RX8 yX8_count yX8_count : Cond) ∈ ALL := AL_in33 _ (List.mem_of_getElem? (i := 1) rfl)
theorem q_827 : (.selects RX8 yX8_curveHisses yX8_curveHisses : Cond) ∈ ALL := AL_in33 _ (List.mem_of_getElem? (i := 2) rfl)
theorem q_828 : (.selects RX8 yX8_draw yX8_draw : Cond) ∈ ALL := AL_in33 _ (List.mem_of_getElem? (i := 3) rfl)
theorem q_829 : (.selects RX8 yX8_drawn yX8_drawn : Cond) ∈ ALL := AL_in33 _ (List.mem_of_getElem? (i := 4) rfl)
theorem q_830 : (.selects RX8 yX8_drops yX8_drops : Cond) ∈ ALL := AL_in33 _ (List.mem_of_getElem? (i := 5) rfl)
theorem q_831 : (.selects RX8 yX8_duel yX8_duel : Cond) ∈ ALL := AL_in33 _ (List.mem_of_getElem? (i := 6) rfl)
theorem q_832 : (.selects RX8 yX8_error yX8_error : Cond) ∈ ALL := AL_in33 _ (List.mem_of_getElem? (i := 7) rfl)
theorem q_833 : (.selects RX8 yX8_feed yX8_feed : Cond) ∈ ALL := AL_in33 _ (List.mem_of_getElem? (i := 8) rfl)
theorem q_834 : (.selects RX8 yX8_fits yX8_fits : Cond) ∈ ALL := AL_in33 _ (List.mem_of_getElem? (i := 9) rfl)
theorem q_835 : (.selects RX8 yX8_gainOf yX8_gainOf : Cond) ∈ ALL := AL_in33 _ (List.mem_of_getElem? (i := 10) rfl)
theorem q_836 : (.selects RX8 yX8_gainsFrom yX8_gainsFrom : Cond) ∈ ALL := AL_in33 _ (List.mem_of_getElem? (i := 11) rfl)
theorem q_837 : (.selects RX8 yX8_gives yX8_gives : Cond) ∈ ALL := AL_in33 _ (List.mem_of_getElem? (i := 12) rfl)
theorem q_838 : (.selects RX8 yX8_go yX8_go : Cond) ∈ ALL := AL_in33 _ (List.mem_of_getElem? (i := 13) rfl)
theorem q_839 : (.selects RX8 yX8_goes yX8_goes : Cond) ∈ ALL := AL_in33 _ (List.mem_of_getElem? (i := 14) rfl)
theorem q_840 : (.selects RX8 yX8_hardDrops yX8_hardDrops : Cond) ∈ ALL := AL_in33 _ (List.mem_of_getElem? (i := 15) rfl)
theorem q_841 : (.selects RX8 yX8_hisses yX8_hisses : Cond) ∈ ALL := AL_in33 _ (List.mem_of_getElem? (i := 16) rfl)
theorem q_842 : (.selects RX8 yX8_image yX8_image : Cond) ∈ ALL := AL_in33 _ (List.mem_of_getElem? (i := 17) rfl)
theorem q_843 : (.selects RX8 yX8_isOut yX8_isOut : Cond) ∈ ALL := AL_in33 _ (List.mem_of_getElem? (i := 18) rfl)
theorem q_844 : (.selects RX8 yX8_isPickedAt yX8_isPickedAt : Cond) ∈ ALL := AL_in33 _ (List.mem_of_getElem? (i := 19) rfl)
theorem q_845 : (.selects RX8 yX8_isPitch yX8_isPitch : Cond) ∈ ALL := AL_in33 _ (List.mem_of_getElem? (i := 20) rfl)
theorem q_846 : (.selects RX8 yX8_isRunner yX8_isRunner : Cond) ∈ ALL := AL_in33 _ (List.mem_of_getElem? (i := 21) rfl)
theorem q_847 : (.selects RX8 yX8_isSafe yX8_isSafe : Cond) ∈ ALL := AL_in33 _ (List.mem_of_getElem? (i := 22) rfl)
theorem q_848 : (.selects RX8 yX8_isSo yX8_isSo : Cond) ∈ ALL := AL_in33 _ (List.mem_of_getElem? (i := 23) rfl)
theorem q_849 : (.selects RX8 yX8_judge yX8_judge : Cond) ∈ ALL := AL_in33 _ (List.mem_of_getElem? (i := 24) rfl)
theorem q_850 : (.selects RX8 yX8_law yX8_law : Cond) ∈ ALL := AL_in34 _ (List.mem_of_getElem? (i := 0) rfl)
theorem q_851 : (.selects RX8 yX8_lays yX8_lays : Cond) ∈ ALL := AL_in34 _ (List.mem_of_getElem? (i := 1) rfl)
theorem q_852 : (.selects RX8 yX8_leadFor yX8_leadFor : Cond) ∈ ALL := AL_in34 _ (List.mem_of_getElem? (i := 2) rfl)
theorem q_853 : (.selects RX8 yX8_leads yX8_leads : Cond) ∈ ALL := AL_in34 _ (List.mem_of_getElem? (i := 3) rfl)
theorem q_854 : (.selects RX8 yX8_lets yX8_lets : Cond) ∈ ALL := AL_in34 _ (List.mem_of_getElem? (i := 4) rfl)
theorem q_855 : (.selects RX8 yX8_look yX8_look : Cond) ∈ ALL := AL_in34 _ (List.mem_of_getElem? (i := 5) rfl)
theorem q_856 : (.selects RX8 yX8_loose yX8_loose : Cond) ∈ ALL := AL_in34 _ (List.mem_of_getElem? (i := 6) rfl)
theorem q_857 : (.selects RX8 yX8_margin yX8_margin : Cond) ∈ ALL := AL_in34 _ (List.mem_of_getElem? (i := 7) rfl)
theorem q_858 : (.selects RX8 yX8_marginOf yX8_marginOf : Cond) ∈ ALL := AL_in34 _ (List.mem_of_getElem? (i := 8) rfl)
theorem q_859 : (.selects RX8 yX8_more yX8_more : Cond) ∈ ALL := AL_in34 _ (List.mem_of_getElem? (i := 9) rfl)
theorem q_860 : (.selects RX8 yX8_move yX8_move : Cond) ∈ ALL := AL_in34 _ (List.mem_of_getElem? (i := 10) rfl)
theorem q_861 : (.selects RX8 yX8_nameOf yX8_nameOf : Cond) ∈ ALL := AL_in34 _ (List.mem_of_getElem? (i := 11) rfl)
theorem q_862 : (.selects RX8 yX8_notMoved yX8_notMoved : Cond) ∈ ALL := AL_in34 _ (List.mem_of_getElem? (i := 12) rfl)
theorem q_863 : (.selects RX8 yX8_notThere yX8_notThere : Cond) ∈ ALL := AL_in34 _ (List.mem_of_getElem? (i := 13) rfl)
theorem q_864 : (.selects RX8 yX8_number yX8_number : Cond) ∈ ALL := AL_in34 _ (List.mem_of_getElem? (i := 14) rfl)
theorem q_865 : (.selects RX8 yX8_odds yX8_odds : Cond) ∈ ALL := AL_in34 _ (List.mem_of_getElem? (i := 15) rfl)
theorem q_866 : (.selects RX8 yX8_of yX8_of : Cond) ∈ ALL := AL_in34 _ (List.mem_of_getElem? (i := 16) rfl)
theorem q_867 : (.selects RX8 yX8_one yX8_one : Cond) ∈ ALL := AL_in34 _ (List.mem_of_getElem? (i := 17) rfl)
theorem q_868 : (.selects RX8 yX8_opens yX8_opens : Cond) ∈ ALL := AL_in34 _ (List.mem_of_getElem? (i := 18) rfl)
theorem q_869 : (.selects RX8 yX8_over yX8_over : Cond) ∈ ALL := AL_in34 _ (List.mem_of_getElem? (i := 19) rfl)
theorem q_870 : (.selects RX8 yX8_partsBy yX8_partsBy : Cond) ∈ ALL := AL_in34 _ (List.mem_of_getElem? (i := 20) rfl)
theorem q_871 : (.selects RX8 yX8_pitch yX8_pitch : Cond) ∈ ALL := AL_in34 _ (List.mem_of_getElem? (i := 21) rfl)
theorem q_872 : (.selects RX8 yX8_pitchIs yX8_pitchIs : Cond) ∈ ALL := AL_in34 _ (List.mem_of_getElem? (i := 22) rfl)
theorem q_873 : (.selects RX8 yX8_plainAir yX8_plainAir : Cond) ∈ ALL := AL_in34 _ (List.mem_of_getElem? (i := 23) rfl)
theorem q_874 : (.selects RX8 yX8_plainDrops yX8_plainDrops : Cond) ∈ ALL := AL_in34 _ (List.mem_of_getElem? (i := 24) rfl)
theorem q_875 : (.selects RX8 yX8_plainHisses yX8_plainHisses : Cond) ∈ ALL := AL_in35 _ (List.mem_of_getElem? (i := 0) rfl)
theorem q_876 : (.selects RX8 yX8_plainParts yX8_plainParts : Cond) ∈ ALL := AL_in35 _ (List.mem_of_getElem? (i := 1) rfl)
theorem q_877 : (.selects RX8 yX8_plainThuds yX8_plainThuds : Cond) ∈ ALL := AL_in35 _ (List.mem_of_getElem? (i := 2) rfl)
theorem q_878 : (.selects RX8 yX8_put yX8_put : Cond) ∈ ALL := AL_in35 _ (List.mem_of_getElem? (i := 3) rfl)
theorem q_879 : (.selects RX8 yX8_restore yX8_restore : Cond) ∈ ALL := AL_in35 _ (List.mem_of_getElem? (i := 4) rfl)
theorem q_880 : (.selects RX8 yX8_runFrom yX8_runFrom : Cond) ∈ ALL := AL_in35 _ (List.mem_of_getElem? (i := 5) rfl)
theorem q_881 : (.selects RX8 yX8_runner yX8_runner : Cond) ∈ ALL := AL_in35 _ (List.mem_of_getElem? (i := 6) rfl)
theorem q_882 : (.selects RX8 yX8_runnerIs yX8_runnerIs : Cond) ∈ ALL := AL_in35 _ (List.mem_of_getElem? (i := 7) rfl)
theorem q_883 : (.selects RX8 yX8_seed yX8_seed : Cond) ∈ ALL := AL_in35 _ (List.mem_of_getElem? (i := 8) rfl)
theorem q_884 : (.selects RX8 yX8_set yX8_set : Cond) ∈ ALL := AL_in35 _ (List.mem_of_getElem? (i := 9) rfl)
theorem q_885 : (.selects RX8 yX8_sheet yX8_sheet : Cond) ∈ ALL := AL_in35 _ (List.mem_of_getElem? (i := 10) rfl)
theorem q_886 : (.selects RX8 yX8_steal yX8_steal : Cond) ∈ ALL := AL_in35 _ (List.mem_of_getElem? (i := 11) rfl)
theorem q_887 : (.selects RX8 yX8_sum yX8_sum : Cond) ∈ ALL := AL_in35 _ (List.mem_of_getElem? (i := 12) rfl)
theorem q_888 : (.selects RX8 yX8_surely yX8_surely : Cond) ∈ ALL := AL_in35 _ (List.mem_of_getElem? (i := 13) rfl)
theorem q_889 : (.selects RX8 yX8_tell yX8_tell : Cond) ∈ ALL := AL_in35 _ (List.mem_of_getElem? (i := 14) rfl)
theorem q_890 : (.selects RX8 yX8_text yX8_text : Cond) ∈ ALL := AL_in35 _ (List.mem_of_getElem? (i := 15) rfl)
theorem q_891 : (.selects RX8 yX8_thuds yX8_thuds : Cond) ∈ ALL := AL_in35 _ (List.mem_of_getElem? (i := 16) rfl)
theorem q_892 : (.selects RX8 yX8_times yX8_times : Cond) ∈ ALL := AL_in35 _ (List.mem_of_getElem? (i := 17) rfl)
theorem q_893 : (.selects RX8 yX8_told yX8_told : Cond) ∈ ALL := AL_in35 _ (List.mem_of_getElem? (i := 18) rfl)
theorem q_894 : (.selects RX8 yX8_untell yX8_untell : Cond) ∈ ALL := AL_in35 _ (List.mem_of_getElem? (i := 19) rfl)
theorem q_895 : (.selects RX8 yX8_voice yX8_voice : Cond) ∈ ALL := AL_in35 _ (List.mem_of_getElem? (i := 20) rfl)
theorem q_896 : (.selects RX8 yX8_weighs yX8_weighs : Cond) ∈ ALL := AL_in35 _ (List.mem_of_getElem? (i := 21) rfl)
theorem q_897 : (.selects RX8 yX8_weights yX8_weights : Cond) ∈ ALL := AL_in35 _ (List.mem_of_getElem? (i := 22) rfl)
theorem q_898 : (.selects RX8 yX8_weightsBy yX8_weightsBy : Cond) ∈ ALL := AL_in35 _ (List.mem_of_getElem? (i := 23) rfl)
theorem q_899 : (.selects RX8 yX8_works yX8_works : Cond) ∈ ALL := AL_in35 _ (List.mem_of_getElem? (i := 24) rfl)
theorem q_900 : (.static Lib.Math.abs.name : Cond) ∈ ALL := AL_in36 _ (List.mem_of_getElem? (i := 0) rfl)
theorem q_901 : (.static Lib.Math.max.name : Cond) ∈ ALL := AL_in36 _ (List.mem_of_getElem? (i := 1) rfl)
theorem q_902 : (.static Lib.Math.min.name : Cond) ∈ ALL := AL_in36 _ (List.mem_of_getElem? (i := 2) rfl)
theorem q_903 : (.static arraycopyName : Cond) ∈ ALL := AL_in36 _ (List.mem_of_getElem? (i := 3) rfl)
theorem q_904 : (.static yJ6_bitCount_0f7a4 : Cond) ∈ ALL := AL_in36 _ (List.mem_of_getElem? (i := 4) rfl)
theorem q_905 : (.static yX1_isNumeral : Cond) ∈ ALL := AL_in36 _ (List.mem_of_getElem? (i := 5) rfl)
theorem q_906 : (.static yX1_rankOf : Cond) ∈ ALL := AL_in36 _ (List.mem_of_getElem? (i := 6) rfl)
theorem q_907 : (.static yX3_held : Cond) ∈ ALL := AL_in36 _ (List.mem_of_getElem? (i := 7) rfl)
theorem q_908 : (.static yX3_oneMore : Cond) ∈ ALL := AL_in36 _ (List.mem_of_getElem? (i := 8) rfl)
theorem q_909 : (.static yX5_joined : Cond) ∈ ALL := AL_in36 _ (List.mem_of_getElem? (i := 9) rfl)
theorem q_910 : (.static yX5_named : Cond) ∈ ALL := AL_in36 _ (List.mem_of_getElem? (i := 10) rfl)
theorem q_911 : (.static yX6_bodyOf : Cond) ∈ ALL := AL_in36 _ (List.mem_of_getElem? (i := 11) rfl)
theorem q_912 : (.static yX7_commonOf : Cond) ∈ ALL := AL_in36 _ (List.mem_of_getElem? (i := 12) rfl)
theorem q_913 : (.static yX7_isDigit : Cond) ∈ ALL := AL_in36 _ (List.mem_of_getElem? (i := 13) rfl)
theorem q_914 : (.static yX7_isFeet : Cond) ∈ ALL := AL_in36 _ (List.mem_of_getElem? (i := 14) rfl)
theorem q_915 : (.static yX7_isKindAndM : Cond) ∈ ALL := AL_in36 _ (List.mem_of_getElem? (i := 15) rfl)
theorem q_916 : (.static yX7_isSheet : Cond) ∈ ALL := AL_in36 _ (List.mem_of_getElem? (i := 16) rfl)
theorem q_917 : (.static yX7_isUnder : Cond) ∈ ALL := AL_in36 _ (List.mem_of_getElem? (i := 17) rfl)
theorem q_918 : (.static yX7_isUse : Cond) ∈ ALL := AL_in36 _ (List.mem_of_getElem? (i := 18) rfl)
theorem q_919 : (.static yX7_mostOfSetting : Cond) ∈ ALL := AL_in36 _ (List.mem_of_getElem? (i := 19) rfl)
theorem q_920 : (.static yX7_partOf : Cond) ∈ ALL := AL_in36 _ (List.mem_of_getElem? (i := 20) rfl)
theorem q_921 : (.static yX7_within : Cond) ∈ ALL := AL_in36 _ (List.mem_of_getElem? (i := 21) rfl)
theorem q_922 : (.static yX8_copyAll : Cond) ∈ ALL := AL_in36 _ (List.mem_of_getElem? (i := 22) rfl)
theorem q_923 : (.static yX8_greater : Cond) ∈ ALL := AL_in36 _ (List.mem_of_getElem? (i := 23) rfl)
theorem q_924 : (.static yX8_held : Cond) ∈ ALL := AL_in36 _ (List.mem_of_getElem? (i := 24) rfl)
theorem q_925 : (.static yX8_in : Cond) ∈ ALL := AL_in37 _ (List.mem_of_getElem? (i := 0) rfl)
theorem q_926 : (.static yX8_isKm : Cond) ∈ ALL := AL_in37 _ (List.mem_of_getElem? (i := 1) rfl)
theorem q_927 : (.static yX8_isLead : Cond) ∈ ALL := AL_in37 _ (List.mem_of_getElem? (i := 2) rfl)
theorem q_928 : (.static yX8_isSheet : Cond) ∈ ALL := AL_in37 _ (List.mem_of_getElem? (i := 3) rfl)
theorem q_929 : (.static yX8_lesser : Cond) ∈ ALL := AL_in37 _ (List.mem_of_getElem? (i := 4) rfl)
theorem q_930 : (.static yX8_partOf : Cond) ∈ ALL := AL_in37 _ (List.mem_of_getElem? (i := 5) rfl)
theorem q_931 : (.static yX8_twoOf : Cond) ∈ ALL := AL_in37 _ (List.mem_of_getElem? (i := 6) rfl)
