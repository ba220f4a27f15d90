def RX0 : String := "EchoLine$Chamber"
def TX0 : u_T := fun k => match k with
  | 0 => ("EchoLine$Chamber", "beat", "I", false)
  | 1 => ("EchoLine$Chamber", "words", "I", false)
  | 2 => ("EchoLine$Chamber", "walls", "[I", true)
  | 3 => ("EchoLine$Chamber", "settings", "[I", true)
  | 4 => ("EchoLine$Chamber", "seatOf", "[I", true)
  | 5 => ("EchoLine$Chamber", "wordOf", "[I", true)
  | 6 => ("EchoLine$Chamber", "markOf", "[I", true)
  | 7 => ("EchoLine$Chamber", "saidAt", "[I", true)
  | 8 => ("EchoLine$Chamber", "comesAt", "[[I", true)
  | 9 => ("EchoLine$Chamber", "firstHeardAt", "[[I", true)
  | 10 => ("EchoLine$Chamber", "heardNumber", "[[I", true)
  | _ => ("EchoLine$Chamber", "messageWords", "[I", true)
def tyX0 : Nat → FieldType := fun k => match k with
  | 0 => .int
  | 1 => .int
  | 2 => .array .int
  | 3 => .array .int
  | 4 => .array .int
  | 5 => .array .int
  | 6 => .array .int
  | 7 => .array .int
  | 8 => .array (.array .int)
  | 9 => .array (.array .int)
  | 10 => .array (.array .int)
  | _ => .array .int
abbrev wsX00 : List Cond := u_ws RX0 TX0 12
theorem nmX0 : ∀ a, a < 12 → ∀ b, b < 12 → a ≠ b → (TX0 a).2.1 ≠ (TX0 b).2.1 := by decide +kernel
theorem tyX0_ok : ∀ k, k < 12 → parseFieldDescriptor (TX0 k).2.2.1 = some (tyX0 k) := by decide +kernel
abbrev cX0_init : ByteArray := prog_2_method_1_code
def yX0_init : MethodName := ⟨RX0, "<init>", "()V"⟩
abbrev cX0_become : ByteArray := prog_2_method_2_code
def yX0_become : MethodName := ⟨RX0, "become", "(LEchoLine$Chamber;)V"⟩
abbrev cX0_canSpeak : ByteArray := prog_2_method_3_code
def yX0_canSpeak : MethodName := ⟨RX0, "canSpeak", "()Z"⟩
abbrev cX0_speak : ByteArray := prog_2_method_4_code
def yX0_speak : MethodName := ⟨RX0, "speak", "(III)I"⟩
abbrev cX0_canRest : ByteArray := prog_2_method_5_code
def yX0_canRest : MethodName := ⟨RX0, "canRest", "(I)Z"⟩
abbrev cX0_rest : ByteArray := prog_2_method_6_code
def yX0_rest : MethodName := ⟨RX0, "rest", "(I)V"⟩
abbrev cX0_endBeat : ByteArray := prog_2_method_7_code
def yX0_endBeat : MethodName := ⟨RX0, "endBeat", "()V"⟩
abbrev cX0_delayBetween : ByteArray := prog_2_method_8_code
def yX0_delayBetween : MethodName := ⟨RX0, "delayBetween", "(II)I"⟩
abbrev cX0_secondLast : ByteArray := prog_2_method_9_code
def yX0_secondLast : MethodName := ⟨RX0, "secondLast", "(II)I"⟩
abbrev cX0_messagePlace : ByteArray := prog_2_method_10_code
def yX0_messagePlace : MethodName := ⟨RX0, "messagePlace", "(II)I"⟩
def RX1 : String := "EchoLine$Hash"
def TX1 : u_T := fun k => match k with
  | _ => ("EchoLine$Hash", "value", "J", false)
def tyX1 : Nat → FieldType := fun k => match k with
  | _ => .long
abbrev wsX10 : List Cond := u_ws RX1 TX1 1
theorem nmX1 : ∀ a, a < 1 → ∀ b, b < 1 → a ≠ b → (TX1 a).2.1 ≠ (TX1 b).2.1 := by decide +kernel
theorem tyX1_ok : ∀ k, k < 1 → parseFieldDescriptor (TX1 k).2.2.1 = some (tyX1 k) := by decide +kernel
abbrev cX1_init : ByteArray := prog_3_method_1_code
def yX1_init : MethodName := ⟨RX1, "<init>", "()V"⟩
abbrev cX1_take : ByteArray := prog_3_method_2_code
def yX1_take : MethodName := ⟨RX1, "take", "(J)V"⟩
abbrev cX1_bitsOf : ByteArray := prog_3_method_3_code
def yX1_bitsOf : MethodName := ⟨RX1, "bitsOf", "(D)J"⟩
def RX2 : String := "EchoLine$History"
def TX2 : u_T := fun k => match k with
  | 0 => ("EchoLine$History", "size", "I", false)
  | _ => ("EchoLine$History", "saved", "[LEchoLine$Chamber;", true)
def tyX2 : Nat → FieldType := fun k => match k with
  | 0 => .int
  | _ => .array (.object "EchoLine$Chamber")
abbrev wsX20 : List Cond := u_ws RX2 TX2 2
theorem nmX2 : ∀ a, a < 2 → ∀ b, b < 2 → a ≠ b → (TX2 a).2.1 ≠ (TX2 b).2.1 := by decide +kernel
theorem tyX2_ok : ∀ k, k < 2 → parseFieldDescriptor (TX2 k).2.2.1 = some (tyX2 k) := by decide +kernel
abbrev cX2_init : ByteArray := prog_4_method_1_code
def yX2_init : MethodName := ⟨RX2, "<init>", "()V"⟩
abbrev cX2_save : ByteArray := prog_4_method_2_code
def yX2_save : MethodName := ⟨RX2, "save", "(LEchoLine$Chamber;)V"⟩
abbrev cX2_dropOldest : ByteArray := prog_4_method_3_code
def yX2_dropOldest : MethodName := ⟨RX2, "dropOldest", "()V"⟩
abbrev cX2_latest : ByteArray := prog_4_method_4_code
def yX2_latest : MethodName := ⟨RX2, "latest", "()LEchoLine$Chamber;"⟩
abbrev cX2_dropLatest : ByteArray := prog_4_method_5_code
def yX2_dropLatest : MethodName := ⟨RX2, "dropLatest", "()V"⟩
def RX3 : String := "EchoLine$Report"
def TX3 : u_T := fun k => match k with
  | _ => ("EchoLine$Report", "chamber", "LEchoLine$Chamber;", true)
def tyX3 : Nat → FieldType := fun k => match k with
  | _ => .object "EchoLine$Chamber"
abbrev wsX30 : List Cond := u_ws RX3 TX3 1
theorem nmX3 : ∀ a, a < 1 → ∀ b, b < 1 → a ≠ b → (TX3 a).2.1 ≠ (TX3 b).2.1 := by decide +kernel
theorem tyX3_ok : ∀ k, k < 1 → parseFieldDescriptor (TX3 k).2.2.1 = some (tyX3 k) := by decide +kernel
abbrev cX3_init : ByteArray := prog_5_method_1_code
def yX3_init : MethodName := ⟨RX3, "<init>", "(LEchoLine$Chamber;)V"⟩
abbrev cX3_ofWord : ByteArray := prog_5_method_2_code
def yX3_ofWord : MethodName := ⟨RX3, "ofWord", "(II)I"⟩
abbrev cX3_maskOf : ByteArray := prog_5_method_3_code
def yX3_maskOf : MethodName := ⟨RX3, "maskOf", "([[II)I"⟩
abbrev cX3_ofBeat : ByteArray := prog_5_method_4_code
def yX3_ofBeat : MethodName := ⟨RX3, "ofBeat", "(III)I"⟩
abbrev cX3_isRepeated : ByteArray := prog_5_method_5_code
def yX3_isRepeated : MethodName := ⟨RX3, "isRepeated", "(II)Z"⟩
abbrev cX3_ofSpeaker : ByteArray := prog_5_method_6_code
def yX3_ofSpeaker : MethodName := ⟨RX3, "ofSpeaker", "(II)I"⟩
abbrev cX3_heardBeats : ByteArray := prog_5_method_7_code
def yX3_heardBeats : MethodName := ⟨RX3, "heardBeats", "(I)I"⟩
abbrev cX3_heardWordsByBeats : ByteArray := prog_5_method_8_code
def yX3_heardWordsByBeats : MethodName := ⟨RX3, "heardWordsByBeats", "(I)I"⟩
abbrev cX3_heardWordsByWords : ByteArray := prog_5_method_9_code
def yX3_heardWordsByWords : MethodName := ⟨RX3, "heardWordsByWords", "(I)I"⟩
abbrev cX3_repeatedBeats : ByteArray := prog_5_method_10_code
def yX3_repeatedBeats : MethodName := ⟨RX3, "repeatedBeats", "(I)I"⟩
abbrev cX3_gaps : ByteArray := prog_5_method_11_code
def yX3_gaps : MethodName := ⟨RX3, "gaps", "(I)I"⟩
abbrev cX3_wordsSaidBy : ByteArray := prog_5_method_12_code
def yX3_wordsSaidBy : MethodName := ⟨RX3, "wordsSaidBy", "(I)I"⟩
abbrev cX3_hearingOf : ByteArray := prog_5_method_13_code
def yX3_hearingOf : MethodName := ⟨RX3, "hearingOf", "(III)I"⟩
abbrev cX3_ofAll : ByteArray := prog_5_method_14_code
def yX3_ofAll : MethodName := ⟨RX3, "ofAll", "(I)I"⟩
abbrev cX3_wordsHeardByMask : ByteArray := prog_5_method_15_code
def yX3_wordsHeardByMask : MethodName := ⟨RX3, "wordsHeardByMask", "(I)I"⟩
abbrev cX3_messages : ByteArray := prog_5_method_16_code
def yX3_messages : MethodName := ⟨RX3, "messages", "()I"⟩
abbrev cX3_messagesHeardWhole : ByteArray := prog_5_method_17_code
def yX3_messagesHeardWhole : MethodName := ⟨RX3, "messagesHeardWhole", "()I"⟩
abbrev cX3_allHeardWhole : ByteArray := prog_5_method_18_code
def yX3_allHeardWhole : MethodName := ⟨RX3, "allHeardWhole", "(II)Z"⟩
abbrev cX3_whyUnheard : ByteArray := prog_5_method_19_code
def yX3_whyUnheard : MethodName := ⟨RX3, "whyUnheard", "(II)I"⟩
abbrev cX3_silentBeatsUntilHeard : ByteArray := prog_5_method_20_code
def yX3_silentBeatsUntilHeard : MethodName := ⟨RX3, "silentBeatsUntilHeard", "(II)I"⟩
abbrev cX3_bestPlace : ByteArray := prog_5_method_21_code
def yX3_bestPlace : MethodName := ⟨RX3, "bestPlace", "()I"⟩
abbrev cX3_share : ByteArray := prog_5_method_22_code
def yX3_share : MethodName := ⟨RX3, "share", "()D"⟩
def RX4 : String := "EchoLine$Text"
def TX4 : u_T := fun k => match k with
  | 0 => ("EchoLine$Text", "length", "I", false)
  | _ => ("EchoLine$Text", "signs", "[C", true)
def tyX4 : Nat → FieldType := fun k => match k with
  | 0 => .int
  | _ => .array .char
abbrev wsX40 : List Cond := u_ws RX4 TX4 2
theorem nmX4 : ∀ a, a < 2 → ∀ b, b < 2 → a ≠ b → (TX4 a).2.1 ≠ (TX4 b).2.1 := by decide +kernel
theorem tyX4_ok : ∀ k, k < 2 → parseFieldDescriptor (TX4 k).2.2.1 = some (tyX4 k) := by decide +kernel
abbrev cX4_init : ByteArray := prog_6_method_1_code
def yX4_init : MethodName := ⟨RX4, "<init>", "()V"⟩
def RX5 : String := "EchoLine"
def TX5 : u_T := fun k => match k with
  | 0 => ("EchoLine", "now", "LEchoLine$Chamber;", true)
  | 1 => ("EchoLine", "report", "LEchoLine$Report;", true)
  | 2 => ("EchoLine", "history", "LEchoLine$History;", true)
  | 3 => ("EchoLine", "text", "LEchoLine$Text;", true)
  | _ => ("EchoLine", "snapshot", "LEchoLine$Chamber;", false)
def tyX5 : Nat → FieldType := fun k => match k with
  | 0 => .object "EchoLine$Chamber"
  | 1 => .object "EchoLine$Report"
  | 2 => .object "EchoLine$History"
  | 3 => .object "EchoLine$Text"
  | _ => .object "EchoLine$Chamber"
abbrev wsX50 : List Cond := u_ws RX5 TX5 5
theorem nmX5 : ∀ a, a < 5 → ∀ b, b < 5 → a ≠ b → (TX5 a).2.1 ≠ (TX5 b).2.1 := by decide +kernel
theorem tyX5_ok : ∀ k, k < 5 → parseFieldDescriptor (TX5 k).2.2.1 = some (tyX5 k) := by decide +kernel
abbrev cX5_init : ByteArray := prog_1_method_1_code
def yX5_init : MethodName := ⟨RX5, "<init>", "()V"⟩
abbrev cX5_say : ByteArray := prog_1_method_2_code
def yX5_say : MethodName := ⟨RX5, "say", "(III)I"⟩
abbrev cX5_pass : ByteArray := prog_1_method_3_code
def yX5_pass : MethodName := ⟨RX5, "pass", "(I)I"⟩
abbrev cX5_wall : ByteArray := prog_1_method_4_code
def yX5_wall : MethodName := ⟨RX5, "wall", "(II)I"⟩
abbrev cX5_set : ByteArray := prog_1_method_5_code
def yX5_set : MethodName := ⟨RX5, "set", "(II)I"⟩
abbrev cX5_undo : ByteArray := prog_1_method_10_code
def yX5_undo : MethodName := ⟨RX5, "undo", "()I"⟩
abbrev cX5_keep : ByteArray := prog_1_method_11_code
def yX5_keep : MethodName := ⟨RX5, "keep", "()I"⟩
abbrev cX5_restore : ByteArray := prog_1_method_12_code
def yX5_restore : MethodName := ⟨RX5, "restore", "()I"⟩
abbrev cX5_said : ByteArray := prog_1_method_13_code
def yX5_said : MethodName := ⟨RX5, "said", "(II)I"⟩
abbrev cX5_comes : ByteArray := prog_1_method_14_code
def yX5_comes : MethodName := ⟨RX5, "comes", "(II)I"⟩
abbrev cX5_heard : ByteArray := prog_1_method_15_code
def yX5_heard : MethodName := ⟨RX5, "heard", "(III)I"⟩
abbrev cX5_speaker : ByteArray := prog_1_method_16_code
def yX5_speaker : MethodName := ⟨RX5, "speaker", "(II)I"⟩
abbrev cX5_message : ByteArray := prog_1_method_17_code
def yX5_message : MethodName := ⟨RX5, "message", "(III)I"⟩
abbrev cX5_count : ByteArray := prog_1_method_18_code
def yX5_count : MethodName := ⟨RX5, "count", "(I)I"⟩
abbrev cX5_whyNot : ByteArray := prog_1_method_19_code
def yX5_whyNot : MethodName := ⟨RX5, "whyNot", "(II)I"⟩
abbrev cX5_ifSilent : ByteArray := prog_1_method_20_code
def yX5_ifSilent : MethodName := ⟨RX5, "ifSilent", "(I)I"⟩
abbrev cX5_heardIn : ByteArray := prog_1_method_21_code
def yX5_heardIn : MethodName := ⟨RX5, "heardIn", "(II)I"⟩
abbrev cX5_bestSeat : ByteArray := prog_1_method_22_code
def yX5_bestSeat : MethodName := ⟨RX5, "bestSeat", "()I"⟩
abbrev cX5_heardShare : ByteArray := prog_1_method_23_code
def yX5_heardShare : MethodName := ⟨RX5, "heardShare", "()D"⟩
abbrev cX5_digest : ByteArray := prog_1_method_24_code
def yX5_digest : MethodName := ⟨RX5, "digest", "()J"⟩
abbrev cX5_takeSpeakers : ByteArray := prog_1_method_25_code
def yX5_takeSpeakers : MethodName := ⟨RX5, "takeSpeakers", "(LEchoLine$Hash;)V"⟩
abbrev cX5_takeLatestWords : ByteArray := prog_1_method_26_code
def yX5_takeLatestWords : MethodName := ⟨RX5, "takeLatestWords", "(LEchoLine$Hash;)V"⟩
abbrev cX5_takeLatestBeats : ByteArray := prog_1_method_27_code
def yX5_takeLatestBeats : MethodName := ⟨RX5, "takeLatestBeats", "(LEchoLine$Hash;)V"⟩
abbrev cX5_takeMessages : ByteArray := prog_1_method_28_code
def yX5_takeMessages : MethodName := ⟨RX5, "takeMessages", "(LEchoLine$Hash;)V"⟩
abbrev cX5_total : ByteArray := prog_1_method_29_code
def yX5_total : MethodName := ⟨RX5, "total", "(I)I"⟩
abbrev cX5_isWithin : ByteArray := prog_1_method_30_code
def yX5_isWithin : MethodName := ⟨RX5, "isWithin", "(III)Z"⟩
abbrev cX5_requireSeat : ByteArray := prog_1_method_31_code
def yX5_requireSeat : MethodName := ⟨RX5, "requireSeat", "(I)V"⟩
abbrev cX5_require : ByteArray := prog_1_method_32_code
def yX5_require : MethodName := ⟨RX5, "require", "(Z)V"⟩
def RX6 : String := "EchoLineModel"
def TX6 : u_T := fun k => match k with
  | _ => ("", "", "", false)
def tyX6 : Nat → FieldType := fun k => match k with
  | _ => .int
abbrev wsX60 : List Cond := u_ws RX6 TX6 0
theorem nmX6 : ∀ a, a < 0 → ∀ b, b < 0 → a ≠ b → (TX6 a).2.1 ≠ (TX6 b).2.1 := by decide +kernel
theorem tyX6_ok : ∀ k, k < 0 → parseFieldDescriptor (TX6 k).2.2.1 = some (tyX6 k) := by decide +kernel
def RJ9 : String := "java/lang/Math"
def TJ9 : u_T := fun k => match k with
  | _ => ("", "", "", false)
def tyJ9 : Nat → FieldType := fun k => match k with
  | _ => .int
abbrev wsJ90 : List Cond := u_ws RJ9 TJ9 0
theorem nmJ9 : ∀ a, a < 0 → ∀ b, b < 0 → a ≠ b → (TJ9 a).2.1 ≠ (TJ9 b).2.1 := by decide +kernel
theorem tyJ9_ok : ∀ k, k < 0 → parseFieldDescriptor (TJ9 k).2.2.1 = some (tyJ9 k) := by decide +kernel
abbrev cJ9_abs_0f7a4 : ByteArray := prog_13_method_59_code
def yJ9_abs_0f7a4 : MethodName := ⟨RJ9, "abs", "(I)I"⟩
abbrev cJ9_max_7cf53 : ByteArray := prog_13_method_65_code
def yJ9_max_7cf53 : MethodName := ⟨RJ9, "max", "(II)I"⟩
abbrev cJ9_min_7cf53 : ByteArray := prog_13_method_69_code
def yJ9_min_7cf53 : MethodName := ⟨RJ9, "min", "(II)I"⟩
def RJ0 : String := "java/lang/String"
def TJ0 : u_T := fun k => match k with
  | _ => ("", "", "", false)
def tyJ0 : Nat → FieldType := fun k => match k with
  | _ => .int
abbrev wsJ00 : List Cond := u_ws RJ0 TJ0 0
theorem nmJ0 : ∀ a, a < 0 → ∀ b, b < 0 → a ≠ b → (TJ0 a).2.1 ≠ (TJ0 b).2.1 := by decide +kernel
theorem tyJ0_ok : ∀ k, k < 0 → parseFieldDescriptor (TJ0 k).2.2.1 = some (tyJ0 k) := by decide +kernel
def RJ10 : String := "java/lang/System"
def TJ10 : u_T := fun k => match k with
  | _ => ("", "", "", false)
def tyJ10 : Nat → FieldType := fun k => match k with
  | _ => .int
abbrev wsJ100 : List Cond := u_ws RJ10 TJ10 0
theorem nmJ10 : ∀ a, a < 0 → ∀ b, b < 0 → a ≠ b → (TJ10 a).2.1 ≠ (TJ10 b).2.1 := by decide +kernel
theorem tyJ10_ok : ∀ k, k < 0 → parseFieldDescriptor (TJ10 k).2.2.1 = some (tyJ10 k) := by decide +kernel
def RL : String := "EchoLineLaw"
abbrev cL_cell : ByteArray := method_2_code
def yL_cell : MethodName := ⟨RL, "cell", "([II)I"⟩
abbrev cL_say : ByteArray := method_3_code
def yL_say : MethodName := ⟨RL, "say", "(LEchoLine;III)I"⟩
abbrev cL_pass : ByteArray := method_4_code
def yL_pass : MethodName := ⟨RL, "pass", "(LEchoLine;I)I"⟩
abbrev cL_wall : ByteArray := method_5_code
def yL_wall : MethodName := ⟨RL, "wall", "(LEchoLine;II)I"⟩
abbrev cL_set : ByteArray := method_6_code
def yL_set : MethodName := ⟨RL, "set", "(LEchoLine;II)I"⟩
abbrev cL_undo : ByteArray := method_7_code
def yL_undo : MethodName := ⟨RL, "undo", "(LEchoLine;)I"⟩
abbrev cL_restore : ByteArray := method_8_code
def yL_restore : MethodName := ⟨RL, "restore", "(LEchoLine;)I"⟩
abbrev cL_said : ByteArray := method_9_code
def yL_said : MethodName := ⟨RL, "said", "(LEchoLine;II)I"⟩
abbrev cL_comes : ByteArray := method_10_code
def yL_comes : MethodName := ⟨RL, "comes", "(LEchoLine;II)I"⟩
abbrev cL_heard : ByteArray := method_11_code
def yL_heard : MethodName := ⟨RL, "heard", "(LEchoLine;III)I"⟩
abbrev cL_speaker : ByteArray := method_12_code
def yL_speaker : MethodName := ⟨RL, "speaker", "(LEchoLine;II)I"⟩
abbrev cL_message : ByteArray := method_13_code
def yL_message : MethodName := ⟨RL, "message", "(LEchoLine;III)I"⟩
abbrev cL_count : ByteArray := method_14_code
def yL_count : MethodName := ⟨RL, "count", "(LEchoLine;I)I"⟩
abbrev cL_whyNot : ByteArray := method_15_code
def yL_whyNot : MethodName := ⟨RL, "whyNot", "(LEchoLine;II)I"⟩
abbrev cL_ifSilent : ByteArray := method_16_code
def yL_ifSilent : MethodName := ⟨RL, "ifSilent", "(LEchoLine;I)I"⟩
abbrev cL_heardIn : ByteArray := method_17_code
def yL_heardIn : MethodName := ⟨RL, "heardIn", "(LEchoLine;II)I"⟩
abbrev cL_acts : ByteArray := method_18_code
def yL_acts : MethodName := ⟨RL, "acts", "(LEchoLine;I)I"⟩
abbrev cL_hangs : ByteArray := method_19_code
def yL_hangs : MethodName := ⟨RL, "hangs", "(LEchoLine;)Z"⟩
abbrev cL_tells : ByteArray := method_20_code
def yL_tells : MethodName := ⟨RL, "tells", "(LEchoLine;II)Z"⟩
abbrev cL_law : ByteArray := code
def yL_law : MethodName := ⟨RL, "law", "([I)Z"⟩
abbrev vwCl : List vw_C := [(RX0, TX0, 12), (RX1, TX1, 1), (RX2, TX2, 2), (RX3, TX3, 1), (RX4, TX4, 2), (RX5, TX5, 5)]
