/-! ===== BEGIN printed: names, fields, word lists, decode rows ===== -/
def RX0 : String := "ArmtowerLine$Arm"
def TX0 : u_T := fun k => match k with
  | 0 => ("ArmtowerLine$Arm", "kept", "[I", true)
  | 1 => ("ArmtowerLine$Arm", "count", "I", false)
  | 2 => ("ArmtowerLine$Arm", "urgentLeft", "I", false)
  | 3 => ("ArmtowerLine$Arm", "shown", "I", false)
  | _ => ("ArmtowerLine$Arm", "entries", "LArmtowerLine$Log;", true)
def tyX0 : Nat → FieldType := fun k => match k with
  | 0 => .array .int
  | 1 => .int
  | 2 => .int
  | 3 => .int
  | _ => .object "ArmtowerLine$Log"
abbrev wsX00 : List Cond := u_ws RX0 TX0 5
theorem nmX0 : ∀ a, a < 5 → ∀ b, b < 5 → a ≠ b → (TX0 a).2.1 ≠ (TX0 b).2.1 := by decide +kernel
theorem tyX0_ok : ∀ k, k < 5 → parseFieldDescriptor (TX0 k).2.2.1 = some (tyX0 k) := by decide +kernel
abbrev cX0_init : ByteArray := prog_2_method_1_code
def yX0_init : MethodName := ⟨RX0, "<init>", "()V"⟩
abbrev cX0_keepOne : ByteArray := prog_2_method_2_code
def yX0_keepOne : MethodName := ⟨RX0, "keepOne", "(I)Z"⟩
abbrev cX0_keepAll : ByteArray := prog_2_method_3_code
def yX0_keepAll : MethodName := ⟨RX0, "keepAll", "([IIZ)Z"⟩
abbrev cX0_removeFirst : ByteArray := prog_2_method_4_code
def yX0_removeFirst : MethodName := ⟨RX0, "removeFirst", "()I"⟩
def RX1 : String := "ArmtowerLine$Book"
def TX1 : u_T := fun k => match k with
  | 0 => ("ArmtowerLine$Book", "spots", "[I", true)
  | 1 => ("ArmtowerLine$Book", "phrases", "[I", true)
  | _ => ("ArmtowerLine$Book", "count", "I", false)
def tyX1 : Nat → FieldType := fun k => match k with
  | 0 => .array .int
  | 1 => .array .int
  | _ => .int
abbrev wsX10 : List Cond := u_ws RX1 TX1 3
theorem nmX1 : ∀ a, a < 3 → ∀ b, b < 3 → a ≠ b → (TX1 a).2.1 ≠ (TX1 b).2.1 := by decide +kernel
theorem tyX1_ok : ∀ k, k < 3 → parseFieldDescriptor (TX1 k).2.2.1 = some (tyX1 k) := by decide +kernel
abbrev cX1_init : ByteArray := prog_3_method_1_code
def yX1_init : MethodName := ⟨RX1, "<init>", "()V"⟩
abbrev cX1_indexOf : ByteArray := prog_3_method_2_code
def yX1_indexOf : MethodName := ⟨RX1, "indexOf", "(I)I"⟩
abbrev cX1_phraseAt : ByteArray := prog_3_method_3_code
def yX1_phraseAt : MethodName := ⟨RX1, "phraseAt", "(I)I"⟩
abbrev cX1_lowestSpotOf : ByteArray := prog_3_method_4_code
def yX1_lowestSpotOf : MethodName := ⟨RX1, "lowestSpotOf", "(I)I"⟩
abbrev cX1_put : ByteArray := prog_3_method_5_code
def yX1_put : MethodName := ⟨RX1, "put", "(II)Z"⟩
abbrev cX1_add : ByteArray := prog_3_method_6_code
def yX1_add : MethodName := ⟨RX1, "add", "(II)Z"⟩
abbrev cX1_remove : ByteArray := prog_3_method_7_code
def yX1_remove : MethodName := ⟨RX1, "remove", "(I)V"⟩
def RX2 : String := "ArmtowerLine$Dispatch"
def TX2 : u_T := fun k => match k with
  | 0 => ("ArmtowerLine$Dispatch", "begun", "I", true)
  | 1 => ("ArmtowerLine$Dispatch", "ended", "I", false)
  | 2 => ("ArmtowerLine$Dispatch", "urgent", "Z", true)
  | 3 => ("ArmtowerLine$Dispatch", "signs", "[I", true)
  | 4 => ("ArmtowerLine$Dispatch", "count", "I", false)
  | _ => ("ArmtowerLine$Dispatch", "below", "LArmtowerLine$Dispatch;", true)
def tyX2 : Nat → FieldType := fun k => match k with
  | 0 => .int
  | 1 => .int
  | 2 => .boolean
  | 3 => .array .int
  | 4 => .int
  | _ => .object "ArmtowerLine$Dispatch"
abbrev wsX20 : List Cond := u_ws RX2 TX2 6
theorem nmX2 : ∀ a, a < 6 → ∀ b, b < 6 → a ≠ b → (TX2 a).2.1 ≠ (TX2 b).2.1 := by decide +kernel
theorem tyX2_ok : ∀ k, k < 6 → parseFieldDescriptor (TX2 k).2.2.1 = some (tyX2 k) := by decide +kernel
abbrev cX2_init : ByteArray := prog_4_method_1_code
def yX2_init : MethodName := ⟨RX2, "<init>", "(IZLArmtowerLine$Dispatch;)V"⟩
abbrev cX2_add : ByteArray := prog_4_method_2_code
def yX2_add : MethodName := ⟨RX2, "add", "(I)V"⟩
abbrev cX2_spots : ByteArray := prog_4_method_3_code
def yX2_spots : MethodName := ⟨RX2, "spots", "()I"⟩
abbrev cX2_tell : ByteArray := prog_4_method_4_code
def yX2_tell : MethodName := ⟨RX2, "tell", "(I)I"⟩
def RX3 : String := "ArmtowerLine$Log"
def TX3 : u_T := fun k => match k with
  | 0 => ("ArmtowerLine$Log", "minutes", "[I", true)
  | 1 => ("ArmtowerLine$Log", "signs", "[I", true)
  | 2 => ("ArmtowerLine$Log", "own", "[Z", true)
  | _ => ("ArmtowerLine$Log", "count", "I", false)
def tyX3 : Nat → FieldType := fun k => match k with
  | 0 => .array .int
  | 1 => .array .int
  | 2 => .array .boolean
  | _ => .int
abbrev wsX30 : List Cond := u_ws RX3 TX3 4
theorem nmX3 : ∀ a, a < 4 → ∀ b, b < 4 → a ≠ b → (TX3 a).2.1 ≠ (TX3 b).2.1 := by decide +kernel
theorem tyX3_ok : ∀ k, k < 4 → parseFieldDescriptor (TX3 k).2.2.1 = some (tyX3 k) := by decide +kernel
abbrev cX3_init : ByteArray := prog_5_method_1_code
def yX3_init : MethodName := ⟨RX3, "<init>", "()V"⟩
abbrev cX3_enter : ByteArray := prog_5_method_2_code
def yX3_enter : MethodName := ⟨RX3, "enter", "(IIZ)V"⟩
abbrev cX3_nextTaken : ByteArray := prog_5_method_4_code
def yX3_nextTaken : MethodName := ⟨RX3, "nextTaken", "(I)I"⟩
def RX4 : String := "ArmtowerLine$Spy"
def TX4 : u_T := fun k => match k with
  | _ => ("", "", "", false)
def tyX4 : Nat → FieldType := fun k => match k with
  | _ => .int
abbrev wsX40 : List Cond := u_ws RX4 TX4 0
theorem nmX4 : ∀ a, a < 0 → ∀ b, b < 0 → a ≠ b → (TX4 a).2.1 ≠ (TX4 b).2.1 := by decide +kernel
theorem tyX4_ok : ∀ k, k < 0 → parseFieldDescriptor (TX4 k).2.2.1 = some (tyX4 k) := by decide +kernel
abbrev cX4_note : ByteArray := prog_6_method_2_code
def yX4_note : MethodName := ⟨RX4, "note", "(I)V"⟩
def RX5 : String := "ArmtowerLine$Stretch"
def TX5 : u_T := fun k => match k with
  | 0 => ("ArmtowerLine$Stretch", "length", "I", true)
  | 1 => ("ArmtowerLine$Stretch", "heights", "[I", true)
  | 2 => ("ArmtowerLine$Stretch", "places", "[I", true)
  | 3 => ("ArmtowerLine$Stretch", "hills", "I", false)
  | _ => ("ArmtowerLine$Stretch", "weather", "I", false)
def tyX5 : Nat → FieldType := fun k => match k with
  | 0 => .int
  | 1 => .array .int
  | 2 => .array .int
  | 3 => .int
  | _ => .int
abbrev wsX50 : List Cond := u_ws RX5 TX5 5
theorem nmX5 : ∀ a, a < 5 → ∀ b, b < 5 → a ≠ b → (TX5 a).2.1 ≠ (TX5 b).2.1 := by decide +kernel
theorem tyX5_ok : ∀ k, k < 5 → parseFieldDescriptor (TX5 k).2.2.1 = some (tyX5 k) := by decide +kernel
abbrev cX5_init : ByteArray := prog_7_method_1_code
def yX5_init : MethodName := ⟨RX5, "<init>", "(I)V"⟩
abbrev cX5_isClear : ByteArray := prog_7_method_3_code
def yX5_isClear : MethodName := ⟨RX5, "isClear", "(II)Z"⟩
def RX6 : String := "ArmtowerLine$Tape"
def TX6 : u_T := fun k => match k with
  | 0 => ("ArmtowerLine$Tape", "arrived", "[LArmtowerLine$Dispatch;", true)
  | 1 => ("ArmtowerLine$Tape", "arrivals", "I", false)
  | 2 => ("ArmtowerLine$Tape", "latest", "LArmtowerLine$Dispatch;", false)
  | 3 => ("ArmtowerLine$Tape", "begunCount", "I", false)
  | _ => ("ArmtowerLine$Tape", "urgentAhead", "Z", false)
def tyX6 : Nat → FieldType := fun k => match k with
  | 0 => .array (.object "ArmtowerLine$Dispatch")
  | 1 => .int
  | 2 => .object "ArmtowerLine$Dispatch"
  | 3 => .int
  | _ => .boolean
abbrev wsX60 : List Cond := u_ws RX6 TX6 5
theorem nmX6 : ∀ a, a < 5 → ∀ b, b < 5 → a ≠ b → (TX6 a).2.1 ≠ (TX6 b).2.1 := by decide +kernel
theorem tyX6_ok : ∀ k, k < 5 → parseFieldDescriptor (TX6 k).2.2.1 = some (tyX6 k) := by decide +kernel
abbrev cX6_init : ByteArray := prog_8_method_1_code
def yX6_init : MethodName := ⟨RX6, "<init>", "()V"⟩
abbrev cX6_putOn : ByteArray := prog_8_method_2_code
def yX6_putOn : MethodName := ⟨RX6, "putOn", "(II)V"⟩
abbrev cX6_begin : ByteArray := prog_8_method_3_code
def yX6_begin : MethodName := ⟨RX6, "begin", "(IZ)V"⟩
abbrev cX6_end : ByteArray := prog_8_method_4_code
def yX6_end : MethodName := ⟨RX6, "end", "(I)V"⟩
abbrev cX6_dropAll : ByteArray := prog_8_method_5_code
def yX6_dropAll : MethodName := ⟨RX6, "dropAll", "()V"⟩
def RX7 : String := "ArmtowerLine$Tower"
def TX7 : u_T := fun k => match k with
  | 0 => ("ArmtowerLine$Tower", "height", "I", true)
  | 1 => ("ArmtowerLine$Tower", "tiredness", "I", false)
  | 2 => ("ArmtowerLine$Tower", "up", "LArmtowerLine$Arm;", true)
  | _ => ("ArmtowerLine$Tower", "down", "LArmtowerLine$Arm;", true)
def tyX7 : Nat → FieldType := fun k => match k with
  | 0 => .int
  | 1 => .int
  | 2 => .object "ArmtowerLine$Arm"
  | _ => .object "ArmtowerLine$Arm"
abbrev wsX70 : List Cond := u_ws RX7 TX7 4
theorem nmX7 : ∀ a, a < 4 → ∀ b, b < 4 → a ≠ b → (TX7 a).2.1 ≠ (TX7 b).2.1 := by decide +kernel
theorem tyX7_ok : ∀ k, k < 4 → parseFieldDescriptor (TX7 k).2.2.1 = some (tyX7 k) := by decide +kernel
abbrev cX7_init : ByteArray := prog_9_method_1_code
def yX7_init : MethodName := ⟨RX7, "<init>", "(I)V"⟩
abbrev cX7_armFor : ByteArray := prog_9_method_2_code
def yX7_armFor : MethodName := ⟨RX7, "armFor", "(Z)LArmtowerLine$Arm;"⟩
def RX8 : String := "ArmtowerLine"
def TX8 : u_T := fun k => match k with
  | 0 => ("ArmtowerLine", "towerRow", "[LArmtowerLine$Tower;", true)
  | 1 => ("ArmtowerLine", "stretchRow", "[LArmtowerLine$Stretch;", true)
  | 2 => ("ArmtowerLine", "built", "I", false)
  | 3 => ("ArmtowerLine", "begun", "Z", false)
  | 4 => ("ArmtowerLine", "now", "I", false)
  | 5 => ("ArmtowerLine", "readingSeed", "I", false)
  | 6 => ("ArmtowerLine", "books", "[LArmtowerLine$Book;", true)
  | 7 => ("ArmtowerLine", "text", "[I", true)
  | 8 => ("ArmtowerLine", "typed", "I", false)
  | 9 => ("ArmtowerLine", "dispatchRow", "[I", true)
  | 10 => ("ArmtowerLine", "upTape", "LArmtowerLine$Tape;", true)
  | 11 => ("ArmtowerLine", "downTape", "LArmtowerLine$Tape;", true)
  | 12 => ("ArmtowerLine", "spies", "[LArmtowerLine$Spy;", true)
  | _ => ("ArmtowerLine", "spying", "I", false)
def tyX8 : Nat → FieldType := fun k => match k with
  | 0 => .array (.object "ArmtowerLine$Tower")
  | 1 => .array (.object "ArmtowerLine$Stretch")
  | 2 => .int
  | 3 => .boolean
  | 4 => .int
  | 5 => .int
  | 6 => .array (.object "ArmtowerLine$Book")
  | 7 => .array .int
  | 8 => .int
  | 9 => .array .int
  | 10 => .object "ArmtowerLine$Tape"
  | 11 => .object "ArmtowerLine$Tape"
  | 12 => .array (.object "ArmtowerLine$Spy")
  | _ => .int
abbrev wsX80 : List Cond := u_ws RX8 TX8 14
theorem nmX8 : ∀ a, a < 14 → ∀ b, b < 14 → a ≠ b → (TX8 a).2.1 ≠ (TX8 b).2.1 := by decide +kernel
theorem tyX8_ok : ∀ k, k < 14 → parseFieldDescriptor (TX8 k).2.2.1 = some (tyX8 k) := by decide +kernel
abbrev cX8_init : ByteArray := prog_1_method_1_code
def yX8_init : MethodName := ⟨RX8, "<init>", "()V"⟩
abbrev cX8_tower : ByteArray := prog_1_method_2_code
def yX8_tower : MethodName := ⟨RX8, "tower", "(II)I"⟩
abbrev cX8_air : ByteArray := prog_1_method_4_code
def yX8_air : MethodName := ⟨RX8, "air", "(II)I"⟩
abbrev cX8_write : ByteArray := prog_1_method_7_code
def yX8_write : MethodName := ⟨RX8, "write", "(IIII)I"⟩
abbrev cX8_type : ByteArray := prog_1_method_8_code
def yX8_type : MethodName := ⟨RX8, "type", "(I)I"⟩
abbrev cX8_clear : ByteArray := prog_1_method_9_code
def yX8_clear : MethodName := ⟨RX8, "clear", "()I"⟩
abbrev cX8_send : ByteArray := prog_1_method_10_code
def yX8_send : MethodName := ⟨RX8, "send", "(ZIZ)I"⟩
abbrev cX8_pass : ByteArray := prog_1_method_13_code
def yX8_pass : MethodName := ⟨RX8, "pass", "(I)I"⟩
abbrev cX8_keeps : ByteArray := prog_1_method_18_code
def yX8_keeps : MethodName := ⟨RX8, "keeps", "(IZI)I"⟩
abbrev cX8_logs : ByteArray := prog_1_method_19_code
def yX8_logs : MethodName := ⟨RX8, "logs", "(IZ)I"⟩
abbrev cX8_differs : ByteArray := prog_1_method_21_code
def yX8_differs : MethodName := ⟨RX8, "differs", "(IIZ)I"⟩
abbrev cX8_came : ByteArray := prog_1_method_22_code
def yX8_came : MethodName := ⟨RX8, "came", "(Z)I"⟩
abbrev cX8_told : ByteArray := prog_1_method_23_code
def yX8_told : MethodName := ⟨RX8, "told", "(ZII)I"⟩
abbrev cX8_phrase : ByteArray := prog_1_method_24_code
def yX8_phrase : MethodName := ⟨RX8, "phrase", "(ZIII)I"⟩
abbrev cX8_open : ByteArray := prog_1_method_25_code
def yX8_open : MethodName := ⟨RX8, "open", "(Z)I"⟩
abbrev cX8_isOutside : ByteArray := prog_1_method_30_code
def yX8_isOutside : MethodName := ⟨RX8, "isOutside", "(III)Z"⟩
abbrev cX8_spotOf : ByteArray := prog_1_method_31_code
def yX8_spotOf : MethodName := ⟨RX8, "spotOf", "(II)I"⟩
abbrev cX8_towerAt : ByteArray := prog_1_method_32_code
def yX8_towerAt : MethodName := ⟨RX8, "towerAt", "(I)LArmtowerLine$Tower;"⟩
abbrev cX8_stretchAt : ByteArray := prog_1_method_33_code
def yX8_stretchAt : MethodName := ⟨RX8, "stretchAt", "(I)LArmtowerLine$Stretch;"⟩
abbrev cX8_bookAt : ByteArray := prog_1_method_34_code
def yX8_bookAt : MethodName := ⟨RX8, "bookAt", "(I)LArmtowerLine$Book;"⟩
abbrev cX8_dispatchAt : ByteArray := prog_1_method_36_code
def yX8_dispatchAt : MethodName := ⟨RX8, "dispatchAt", "(ZI)LArmtowerLine$Dispatch;"⟩
abbrev cX8_tapeOf : ByteArray := prog_1_method_37_code
def yX8_tapeOf : MethodName := ⟨RX8, "tapeOf", "(Z)LArmtowerLine$Tape;"⟩
abbrev cX8_isEnd : ByteArray := prog_1_method_38_code
def yX8_isEnd : MethodName := ⟨RX8, "isEnd", "(IZ)Z"⟩
abbrev cX8_isDay : ByteArray := prog_1_method_39_code
def yX8_isDay : MethodName := ⟨RX8, "isDay", "()Z"⟩
abbrev cX8_isSeenAlong : ByteArray := prog_1_method_40_code
def yX8_isSeenAlong : MethodName := ⟨RX8, "isSeenAlong", "(I)Z"⟩
abbrev cX8_layOut : ByteArray := prog_1_method_41_code
def yX8_layOut : MethodName := ⟨RX8, "layOut", "(LArmtowerLine$Book;Z)I"⟩
abbrev cX8_passOne : ByteArray := prog_1_method_42_code
def yX8_passOne : MethodName := ⟨RX8, "passOne", "()V"⟩
abbrev cX8_look : ByteArray := prog_1_method_43_code
def yX8_look : MethodName := ⟨RX8, "look", "(IZ)V"⟩
abbrev cX8_signAsRead : ByteArray := prog_1_method_44_code
def yX8_signAsRead : MethodName := ⟨RX8, "signAsRead", "(II)I"⟩
abbrev cX8_showNext : ByteArray := prog_1_method_45_code
def yX8_showNext : MethodName := ⟨RX8, "showNext", "(IZ)V"⟩
abbrev cX8_tellSpies : ByteArray := prog_1_method_46_code
def yX8_tellSpies : MethodName := ⟨RX8, "tellSpies", "(II)V"⟩
abbrev cX8_firstUnlike : ByteArray := prog_1_method_47_code
def yX8_firstUnlike : MethodName := ⟨RX8, "firstUnlike", "(LArmtowerLine$Log;LArmtowerLine$Log;)I"⟩
def RX9 : String := "ArmtowerLineModel"
def TX9 : u_T := fun k => match k with
  | _ => ("", "", "", false)
def tyX9 : Nat → FieldType := fun k => match k with
  | _ => .int
abbrev wsX90 : List Cond := u_ws RX9 TX9 0
theorem nmX9 : ∀ a, a < 0 → ∀ b, b < 0 → a ≠ b → (TX9 a).2.1 ≠ (TX9 b).2.1 := by decide +kernel
theorem tyX9_ok : ∀ k, k < 0 → parseFieldDescriptor (TX9 k).2.2.1 = some (tyX9 k) := by decide +kernel
def RJ9 : String := "java/lang/Math"
def TJ9 : u_T := fun k => match k with
  | _ => ("", "", "", false)
def tyJ9 : Nat → FieldType := fun k => match k with
  | _ => .int
abbrev wsJ90 : List Cond := u_ws RJ9 TJ9 0
theorem nmJ9 : ∀ a, a < 0 → ∀ b, b < 0 → a ≠ b → (TJ9 a).2.1 ≠ (TJ9 b).2.1 := by decide +kernel
theorem tyJ9_ok : ∀ k, k < 0 → parseFieldDescriptor (TJ9 k).2.2.1 = some (tyJ9 k) := by decide +kernel
abbrev cJ9_min_7cf53 : ByteArray := prog_16_method_69_code
def yJ9_min_7cf53 : MethodName := ⟨RJ9, "min", "(II)I"⟩
def RJ0 : String := "java/lang/String"
def TJ0 : u_T := fun k => match k with
  | _ => ("", "", "", false)
def tyJ0 : Nat → FieldType := fun k => match k with
  | _ => .int
abbrev wsJ00 : List Cond := u_ws RJ0 TJ0 0
theorem nmJ0 : ∀ a, a < 0 → ∀ b, b < 0 → a ≠ b → (TJ0 a).2.1 ≠ (TJ0 b).2.1 := by decide +kernel
theorem tyJ0_ok : ∀ k, k < 0 → parseFieldDescriptor (TJ0 k).2.2.1 = some (tyJ0 k) := by decide +kernel
def RJ10 : String := "java/lang/System"
def TJ10 : u_T := fun k => match k with
  | _ => ("", "", "", false)
def tyJ10 : Nat → FieldType := fun k => match k with
  | _ => .int
abbrev wsJ100 : List Cond := u_ws RJ10 TJ10 0
theorem nmJ10 : ∀ a, a < 0 → ∀ b, b < 0 → a ≠ b → (TJ10 a).2.1 ≠ (TJ10 b).2.1 := by decide +kernel
theorem tyJ10_ok : ∀ k, k < 0 → parseFieldDescriptor (TJ10 k).2.2.1 = some (tyJ10 k) := by decide +kernel
def RL : String := "ArmtowerLineLaw"
abbrev cL_cell : ByteArray := method_2_code
def yL_cell : MethodName := ⟨RL, "cell", "([II)I"⟩
abbrev cL_low : ByteArray := method_3_code
def yL_low : MethodName := ⟨RL, "low", "(II)I"⟩
abbrev cL_law : ByteArray := code
def yL_law : MethodName := ⟨RL, "law", "([I)Z"⟩
abbrev vwCl : List vw_C := [(RX0, TX0, 5), (RX1, TX1, 3), (RX2, TX2, 6), (RX3, TX3, 4), (RX4, TX4, 0), (RX5, TX5, 5), (RX6, TX6, 5), (RX7, TX7, 4), (RX8, TX8, 14)]
