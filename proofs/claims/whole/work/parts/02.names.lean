/-! ===== BEGIN printed: names, fields, word lists, decode rows ===== -/
def RX0 : String := "SegmentBox"
def TX0 : u_T := fun k => match k with
  | 0 => ("SegmentBox", "bytes", "[B", true)
  | 1 => ("SegmentBox", "heldBits", "J", false)
  | 2 => ("SegmentBox", "next", "I", false)
  | 3 => ("SegmentBox", "unread", "I", false)
  | 4 => ("SegmentBox", "endKnown", "Z", false)
  | _ => ("SegmentBox", "endNumber", "I", false)
def tyX0 : Nat → FieldType := fun k => match k with
  | 0 => .array .byte
  | 1 => .long
  | 2 => .int
  | 3 => .int
  | 4 => .boolean
  | _ => .int
abbrev wsX00 : List Cond := u_ws RX0 TX0 6
theorem nmX0 : ∀ a, a < 6 → ∀ b, b < 6 → a ≠ b → (TX0 a).2.1 ≠ (TX0 b).2.1 := by decide +kernel
theorem tyX0_ok : ∀ k, k < 6 → parseFieldDescriptor (TX0 k).2.2.1 = some (tyX0 k) := by decide +kernel
abbrev cX0_init : ByteArray := prog_1_method_1_code
def yX0_init : MethodName := ⟨RX0, "<init>", "()V"⟩
abbrev cX0_open : ByteArray := prog_1_method_2_code
def yX0_open : MethodName := ⟨RX0, "open", "(I)V"⟩
abbrev cX0_segment : ByteArray := prog_1_method_3_code
def yX0_segment : MethodName := ⟨RX0, "segment", "(IJI)I"⟩
abbrev cX0_end : ByteArray := prog_1_method_4_code
def yX0_end : MethodName := ⟨RX0, "end", "(I)Z"⟩
abbrev cX0_read : ByteArray := prog_1_method_5_code
def yX0_read : MethodName := ⟨RX0, "read", "()I"⟩
abbrev cX0_told : ByteArray := prog_1_method_6_code
def yX0_told : MethodName := ⟨RX0, "told", "(I)I"⟩
abbrev cX0_block : ByteArray := prog_1_method_7_code
def yX0_block : MethodName := ⟨RX0, "block", "(IZ)I"⟩
abbrev cX0_held : ByteArray := prog_1_method_8_code
def yX0_held : MethodName := ⟨RX0, "held", "(I)Z"⟩
abbrev cX0_window : ByteArray := prog_1_method_9_code
def yX0_window : MethodName := ⟨RX0, "window", "()I"⟩
abbrev cX0_slotOf : ByteArray := prog_1_method_10_code
def yX0_slotOf : MethodName := ⟨RX0, "slotOf", "(I)I"⟩
abbrev cX0_takeByte : ByteArray := prog_1_method_11_code
def yX0_takeByte : MethodName := ⟨RX0, "takeByte", "(IB)V"⟩
abbrev cX0_isBeforeEnd : ByteArray := prog_1_method_12_code
def yX0_isBeforeEnd : MethodName := ⟨RX0, "isBeforeEnd", "(I)Z"⟩
abbrev cX0_moveOn : ByteArray := prog_1_method_13_code
def yX0_moveOn : MethodName := ⟨RX0, "moveOn", "()I"⟩
abbrev cX0_isHeldAhead : ByteArray := prog_1_method_14_code
def yX0_isHeldAhead : MethodName := ⟨RX0, "isHeldAhead", "(I)Z"⟩
abbrev cX0_isHeldFrom : ByteArray := prog_1_method_15_code
def yX0_isHeldFrom : MethodName := ⟨RX0, "isHeldFrom", "(I)Z"⟩
abbrev cX0_blockStarts : ByteArray := prog_1_method_16_code
def yX0_blockStarts : MethodName := ⟨RX0, "blockStarts", "()J"⟩
abbrev cX0_startOfBlock : ByteArray := prog_1_method_17_code
def yX0_startOfBlock : MethodName := ⟨RX0, "startOfBlock", "(I)I"⟩
abbrev cX0_lengthOfBlock : ByteArray := prog_1_method_18_code
def yX0_lengthOfBlock : MethodName := ⟨RX0, "lengthOfBlock", "(I)I"⟩
def RX1 : String := "SegmentBoxModel"
def TX1 : u_T := fun k => match k with
  | 0 => ("SegmentBoxModel", "unread", "[I", true)
  | 1 => ("SegmentBoxModel", "byteAt", "[I", true)
  | 2 => ("SegmentBoxModel", "isHeld", "[Z", true)
  | 3 => ("SegmentBoxModel", "next", "I", false)
  | 4 => ("SegmentBoxModel", "many", "I", false)
  | 5 => ("SegmentBoxModel", "end", "I", false)
  | 6 => ("SegmentBoxModel", "thrown", "I", false)
  | _ => ("SegmentBoxModel", "hasEnd", "Z", false)
def tyX1 : Nat → FieldType := fun k => match k with
  | 0 => .array .int
  | 1 => .array .int
  | 2 => .array .boolean
  | 3 => .int
  | 4 => .int
  | 5 => .int
  | 6 => .int
  | _ => .boolean
abbrev wsX10 : List Cond := u_ws RX1 TX1 8
theorem nmX1 : ∀ a, a < 8 → ∀ b, b < 8 → a ≠ b → (TX1 a).2.1 ≠ (TX1 b).2.1 := by decide +kernel
theorem tyX1_ok : ∀ k, k < 8 → parseFieldDescriptor (TX1 k).2.2.1 = some (tyX1 k) := by decide +kernel
abbrev cX1_init : ByteArray := prog_3_method_1_code
def yX1_init : MethodName := ⟨RX1, "<init>", "()V"⟩
abbrev cX1_thrown : ByteArray := prog_3_method_2_code
def yX1_thrown : MethodName := ⟨RX1, "thrown", "()I"⟩
abbrev cX1_open : ByteArray := prog_3_method_3_code
def yX1_open : MethodName := ⟨RX1, "open", "(I)V"⟩
def RJ13 : String := "java/lang/Long"
def TJ13 : u_T := fun k => match k with
  | _ => ("", "", "", false)
def tyJ13 : Nat → FieldType := fun k => match k with
  | _ => .int
abbrev wsJ130 : List Cond := u_ws RJ13 TJ13 0
theorem nmJ13 : ∀ a, a < 0 → ∀ b, b < 0 → a ≠ b → (TJ13 a).2.1 ≠ (TJ13 b).2.1 := by decide +kernel
theorem tyJ13_ok : ∀ k, k < 0 → parseFieldDescriptor (TJ13 k).2.2.1 = some (tyJ13 k) := by decide +kernel
abbrev cJ13_bitCount_95d88 : ByteArray := prog_7_method_50_code
def yJ13_bitCount_95d88 : MethodName := ⟨RJ13, "bitCount", "(J)I"⟩
def RL : String := "SegmentBoxLaw"
abbrev cL_segment : ByteArray := method_3_code
def yL_segment : MethodName := ⟨RL, "segment", "(LSegmentBox;IJI[J)I"⟩
abbrev cL_told : ByteArray := method_4_code
def yL_told : MethodName := ⟨RL, "told", "(LSegmentBox;I[J)I"⟩
abbrev cL_block : ByteArray := method_5_code
def yL_block : MethodName := ⟨RL, "block", "(LSegmentBox;IZ[J)I"⟩
abbrev cL_law : ByteArray := code
def yL_law : MethodName := ⟨RL, "law", "([I)Z"⟩
def wsX0_init : List Cond := .code yX0_init cX0_init 1 none :: ([.methodLink RX0 1 objectInit, .instanceMethod objectInit, .code objectInit ⟨#[0xb1]⟩ 1 none, .arrayClass .byte, .fieldLink RX0 9 "SegmentBox" "bytes" "[B", .fieldLink RX0 13 "SegmentBox" "heldBits" "J", .fieldLink RX0 17 "SegmentBox" "next" "I", .fieldLink RX0 21 "SegmentBox" "unread" "I", .fieldLink RX0 24 "SegmentBox" "endKnown" "Z", .fieldLink RX0 28 "SegmentBox" "endNumber" "I"] ++ wsX00)
def wsX0_open : List Cond := .code yX0_open cX0_open 2 none :: ([.fieldLink RX0 13 "SegmentBox" "heldBits" "J", .fieldLink RX0 17 "SegmentBox" "next" "I", .fieldLink RX0 21 "SegmentBox" "unread" "I", .fieldLink RX0 24 "SegmentBox" "endKnown" "Z", .fieldLink RX0 28 "SegmentBox" "endNumber" "I"] ++ wsX00)
def wsX0_window : List Cond := .code yX0_window cX0_window 1 (some .int) :: ([.fieldLink RX0 21 "SegmentBox" "unread" "I"] ++ wsX00)
def wsX0_isHeldAhead : List Cond := .code yX0_isHeldAhead cX0_isHeldAhead 2 (some .boolean) :: ([.fieldLink RX0 13 "SegmentBox" "heldBits" "J"] ++ wsX00)
def wsX0_isBeforeEnd : List Cond := .code yX0_isBeforeEnd cX0_isBeforeEnd 2 (some .boolean) :: ([.fieldLink RX0 24 "SegmentBox" "endKnown" "Z", .fieldLink RX0 28 "SegmentBox" "endNumber" "I", .fieldLink RX0 17 "SegmentBox" "next" "I"] ++ wsX00)
def wsX0_slotOf : List Cond := .code yX0_slotOf cX0_slotOf 1 (some .int) :: ([])
def wsX0_takeByte : List Cond := .code yX0_takeByte cX0_takeByte 4 none :: ([.fieldLink RX0 17 "SegmentBox" "next" "I", .fieldLink RX0 9 "SegmentBox" "bytes" "[B", .fieldLink RX0 13 "SegmentBox" "heldBits" "J", .methodLink RX0 42 yX0_window, .instanceMethod yX0_window, .selects RX0 yX0_window yX0_window, .initialized RX0, .code yX0_window cX0_window 1 (some .int), .fieldLink RX0 21 "SegmentBox" "unread" "I", .methodLink RX0 72 yX0_isHeldAhead, .instanceMethod yX0_isHeldAhead, .selects RX0 yX0_isHeldAhead yX0_isHeldAhead, .code yX0_isHeldAhead cX0_isHeldAhead 2 (some .boolean), .methodLink RX0 75 yX0_isBeforeEnd, .instanceMethod yX0_isBeforeEnd, .selects RX0 yX0_isBeforeEnd yX0_isBeforeEnd, .code yX0_isBeforeEnd cX0_isBeforeEnd 2 (some .boolean), .fieldLink RX0 24 "SegmentBox" "endKnown" "Z", .fieldLink RX0 28 "SegmentBox" "endNumber" "I", .methodLink RX0 49 yX0_slotOf, .static yX0_slotOf, .code yX0_slotOf cX0_slotOf 1 (some .int)] ++ wsX00)
def wsX0_moveOn : List Cond := .code yX0_moveOn cX0_moveOn 2 (some .int) :: ([.fieldLink RX0 13 "SegmentBox" "heldBits" "J", .fieldLink RX0 17 "SegmentBox" "next" "I", .fieldLink RX0 21 "SegmentBox" "unread" "I"] ++ wsX00)
def wsX0_segment_r1 : List Cond := [Cond.classLink RX0 31 "java/lang/IllegalArgumentException", Cond.initialized "java/lang/IllegalArgumentException", Cond.methodLink RX0 34 yX0_takeByte, Cond.instanceMethod yX0_takeByte, Cond.selects RX0 yX0_takeByte yX0_takeByte, Cond.initialized RX0, Cond.code yX0_takeByte cX0_takeByte 4 none, Cond.fieldLink RX0 17 "SegmentBox" "next" "I", Cond.fieldLink RX0 9 "SegmentBox" "bytes" "[B", Cond.fieldLink RX0 13 "SegmentBox" "heldBits" "J", Cond.methodLink RX0 42 yX0_window, Cond.instanceMethod yX0_window, Cond.selects RX0 yX0_window yX0_window, Cond.code yX0_window cX0_window 1 (some .int), Cond.fieldLink RX0 21 "SegmentBox" "unread" "I", Cond.methodLink RX0 72 yX0_isHeldAhead, Cond.instanceMethod yX0_isHeldAhead, Cond.selects RX0 yX0_isHeldAhead yX0_isHeldAhead, Cond.code yX0_isHeldAhead cX0_isHeldAhead 2 (some .boolean), Cond.methodLink RX0 75 yX0_isBeforeEnd, Cond.instanceMethod yX0_isBeforeEnd, Cond.selects RX0 yX0_isBeforeEnd yX0_isBeforeEnd, Cond.code yX0_isBeforeEnd cX0_isBeforeEnd 2 (some .boolean), Cond.fieldLink RX0 24 "SegmentBox" "endKnown" "Z"]
def wsX0_segment_r2 : List Cond := [Cond.fieldLink RX0 28 "SegmentBox" "endNumber" "I", Cond.methodLink RX0 49 yX0_slotOf, Cond.static yX0_slotOf, Cond.code yX0_slotOf cX0_slotOf 1 (some .int), Cond.methodLink RX0 38 yX0_moveOn, Cond.instanceMethod yX0_moveOn, Cond.selects RX0 yX0_moveOn yX0_moveOn, Cond.code yX0_moveOn cX0_moveOn 2 (some .int)]
def wsX0_segment : List Cond := .code yX0_segment cX0_segment 6 (some .int) :: ((wsX0_segment_r1 ++ wsX0_segment_r2) ++ wsX00 ++ (vx_at0 RX0 33 "java/lang/IllegalArgumentException" ["java/lang/RuntimeException", "java/lang/Exception"]).filter goodWord)
def wsX0_isHeldFrom : List Cond := .code yX0_isHeldFrom cX0_isHeldFrom 2 (some .boolean) :: ([.fieldLink RX0 13 "SegmentBox" "heldBits" "J"] ++ wsX00)
def wsX0_end : List Cond := .code yX0_end cX0_end 3 (some .boolean) :: ([.fieldLink RX0 17 "SegmentBox" "next" "I", .fieldLink RX0 24 "SegmentBox" "endKnown" "Z", .fieldLink RX0 28 "SegmentBox" "endNumber" "I", .methodLink RX0 42 yX0_window, .instanceMethod yX0_window, .selects RX0 yX0_window yX0_window, .initialized RX0, .code yX0_window cX0_window 1 (some .int), .fieldLink RX0 21 "SegmentBox" "unread" "I", .methodLink RX0 45 yX0_isHeldFrom, .instanceMethod yX0_isHeldFrom, .selects RX0 yX0_isHeldFrom yX0_isHeldFrom, .code yX0_isHeldFrom cX0_isHeldFrom 2 (some .boolean), .fieldLink RX0 13 "SegmentBox" "heldBits" "J"] ++ wsX00)
def wsX0_read : List Cond := .code yX0_read cX0_read 2 (some .int) :: ([.fieldLink RX0 21 "SegmentBox" "unread" "I", .fieldLink RX0 24 "SegmentBox" "endKnown" "Z", .fieldLink RX0 17 "SegmentBox" "next" "I", .fieldLink RX0 28 "SegmentBox" "endNumber" "I", .fieldLink RX0 9 "SegmentBox" "bytes" "[B", .methodLink RX0 49 yX0_slotOf, .static yX0_slotOf, .initialized RX0, .code yX0_slotOf cX0_slotOf 1 (some .int)] ++ wsX00)
def wsJ13_bitCount_95d88 : List Cond := .code yJ13_bitCount_95d88 cJ13_bitCount_95d88 2 (some .int) :: ([.constantLong RJ13 314 (6148914691236517205), .constantLong RJ13 316 (3689348814741910323), .constantLong RJ13 318 (1085102592571150095)])
def wsX0_blockStarts : List Cond := .code yX0_blockStarts cX0_blockStarts 1 (some .long) :: ([.fieldLink RX0 13 "SegmentBox" "heldBits" "J", .constantLong RX0 78 (-1)] ++ wsX00)
def wsX0_told : List Cond := .code yX0_told cX0_told 2 (some .int) :: ([.classLink RX0 31 "java/lang/IllegalArgumentException", .initialized "java/lang/IllegalArgumentException", .fieldLink RX0 17 "SegmentBox" "next" "I", .fieldLink RX0 21 "SegmentBox" "unread" "I", .fieldLink RX0 13 "SegmentBox" "heldBits" "J", .fieldLink RX0 24 "SegmentBox" "endKnown" "Z", .methodLink RX0 42 yX0_window, .instanceMethod yX0_window, .selects RX0 yX0_window yX0_window, .initialized RX0, .code yX0_window cX0_window 1 (some .int), .methodLink RX0 53 yJ13_bitCount_95d88, .static yJ13_bitCount_95d88, .initialized RJ13, .code yJ13_bitCount_95d88 cJ13_bitCount_95d88 2 (some .int), .constantLong RJ13 314 (6148914691236517205), .constantLong RJ13 316 (3689348814741910323), .constantLong RJ13 318 (1085102592571150095), .methodLink RX0 59 yX0_blockStarts, .instanceMethod yX0_blockStarts, .selects RX0 yX0_blockStarts yX0_blockStarts, .code yX0_blockStarts cX0_blockStarts 1 (some .long), .constantLong RX0 78 (-1)] ++ wsX00 ++ (vx_at0 RX0 33 "java/lang/IllegalArgumentException" ["java/lang/RuntimeException", "java/lang/Exception"]).filter goodWord)
def wsX0_startOfBlock : List Cond := .code yX0_startOfBlock cX0_startOfBlock 6 (some .int) :: ([.methodLink RX0 59 yX0_blockStarts, .instanceMethod yX0_blockStarts, .selects RX0 yX0_blockStarts yX0_blockStarts, .initialized RX0, .code yX0_blockStarts cX0_blockStarts 1 (some .long), .fieldLink RX0 13 "SegmentBox" "heldBits" "J", .constantLong RX0 78 (-1)] ++ wsX00)
def wsX0_lengthOfBlock : List Cond := .code yX0_lengthOfBlock cX0_lengthOfBlock 3 (some .int) :: ([.methodLink RX0 72 yX0_isHeldAhead, .instanceMethod yX0_isHeldAhead, .selects RX0 yX0_isHeldAhead yX0_isHeldAhead, .initialized RX0, .code yX0_isHeldAhead cX0_isHeldAhead 2 (some .boolean), .fieldLink RX0 13 "SegmentBox" "heldBits" "J"] ++ wsX00)
def wsX0_block_r1 : List Cond := [Cond.classLink RX0 63 "java/lang/IndexOutOfBoundsException", Cond.initialized "java/lang/IndexOutOfBoundsException", Cond.fieldLink RX0 17 "SegmentBox" "next" "I", Cond.methodLink RX0 59 yX0_blockStarts, Cond.instanceMethod yX0_blockStarts, Cond.selects RX0 yX0_blockStarts yX0_blockStarts, Cond.initialized RX0, Cond.code yX0_blockStarts cX0_blockStarts 1 (some .long), Cond.fieldLink RX0 13 "SegmentBox" "heldBits" "J", Cond.constantLong RX0 78 (-1), Cond.methodLink RX0 53 yJ13_bitCount_95d88, Cond.static yJ13_bitCount_95d88, Cond.initialized RJ13, Cond.code yJ13_bitCount_95d88 cJ13_bitCount_95d88 2 (some .int), Cond.constantLong RJ13 314 (6148914691236517205), Cond.constantLong RJ13 316 (3689348814741910323), Cond.constantLong RJ13 318 (1085102592571150095), Cond.methodLink RX0 66 yX0_startOfBlock, Cond.instanceMethod yX0_startOfBlock, Cond.selects RX0 yX0_startOfBlock yX0_startOfBlock, Cond.code yX0_startOfBlock cX0_startOfBlock 6 (some .int), Cond.methodLink RX0 69 yX0_lengthOfBlock, Cond.instanceMethod yX0_lengthOfBlock, Cond.selects RX0 yX0_lengthOfBlock yX0_lengthOfBlock]
def wsX0_block_r2 : List Cond := [Cond.code yX0_lengthOfBlock cX0_lengthOfBlock 3 (some .int), Cond.methodLink RX0 72 yX0_isHeldAhead, Cond.instanceMethod yX0_isHeldAhead, Cond.selects RX0 yX0_isHeldAhead yX0_isHeldAhead, Cond.code yX0_isHeldAhead cX0_isHeldAhead 2 (some .boolean)]
def wsX0_block : List Cond := .code yX0_block cX0_block 4 (some .int) :: ((wsX0_block_r1 ++ wsX0_block_r2) ++ wsX00 ++ (vx_at0 RX0 65 "java/lang/IndexOutOfBoundsException" ["java/lang/RuntimeException", "java/lang/Exception"]).filter goodWord)
def wsX0_held : List Cond := .code yX0_held cX0_held 2 (some .boolean) :: ([.fieldLink RX0 17 "SegmentBox" "next" "I", .methodLink RX0 72 yX0_isHeldAhead, .instanceMethod yX0_isHeldAhead, .selects RX0 yX0_isHeldAhead yX0_isHeldAhead, .initialized RX0, .code yX0_isHeldAhead cX0_isHeldAhead 2 (some .boolean), .fieldLink RX0 13 "SegmentBox" "heldBits" "J"] ++ wsX00)
def wsX1_init : List Cond := .code yX1_init cX1_init 1 none :: ([.methodLink RX1 1 objectInit, .instanceMethod objectInit, .code objectInit ⟨#[0xb1]⟩ 1 none, .arrayClass .int, .fieldLink RX1 9 "SegmentBoxModel" "unread" "[I", .fieldLink RX1 13 "SegmentBoxModel" "byteAt" "[I", .arrayClass .boolean, .fieldLink RX1 16 "SegmentBoxModel" "isHeld" "[Z"] ++ wsX10)
def wsX1_thrown : List Cond := .code yX1_thrown cX1_thrown 1 (some .int) :: ([.fieldLink RX1 20 "SegmentBoxModel" "thrown" "I"] ++ wsX10)
def wsX1_open : List Cond := .code yX1_open cX1_open 3 none :: ([.fieldLink RX1 20 "SegmentBoxModel" "thrown" "I", .fieldLink RX1 24 "SegmentBoxModel" "next" "I", .fieldLink RX1 27 "SegmentBoxModel" "many" "I", .fieldLink RX1 30 "SegmentBoxModel" "hasEnd" "Z", .fieldLink RX1 16 "SegmentBoxModel" "isHeld" "[Z"] ++ wsX10)
def wsL_segment_r1 : List Cond := [Cond.classLink RL 13 "java/lang/IllegalArgumentException", Cond.methodLink RL 7 yX0_segment, Cond.instanceMethod yX0_segment, Cond.selects RX0 yX0_segment yX0_segment, Cond.initialized RX0, Cond.code yX0_segment cX0_segment 6 (some .int), Cond.classLink RX0 31 "java/lang/IllegalArgumentException", Cond.initialized "java/lang/IllegalArgumentException", Cond.methodLink RX0 34 yX0_takeByte, Cond.instanceMethod yX0_takeByte, Cond.selects RX0 yX0_takeByte yX0_takeByte, Cond.code yX0_takeByte cX0_takeByte 4 none, Cond.fieldLink RX0 17 "SegmentBox" "next" "I", Cond.fieldLink RX0 9 "SegmentBox" "bytes" "[B", Cond.fieldLink RX0 13 "SegmentBox" "heldBits" "J", Cond.methodLink RX0 42 yX0_window, Cond.instanceMethod yX0_window, Cond.selects RX0 yX0_window yX0_window, Cond.code yX0_window cX0_window 1 (some .int), Cond.fieldLink RX0 21 "SegmentBox" "unread" "I", Cond.methodLink RX0 72 yX0_isHeldAhead, Cond.instanceMethod yX0_isHeldAhead, Cond.selects RX0 yX0_isHeldAhead yX0_isHeldAhead, Cond.code yX0_isHeldAhead cX0_isHeldAhead 2 (some .boolean)]
def wsL_segment_r2 : List Cond := [Cond.methodLink RX0 75 yX0_isBeforeEnd, Cond.instanceMethod yX0_isBeforeEnd, Cond.selects RX0 yX0_isBeforeEnd yX0_isBeforeEnd, Cond.code yX0_isBeforeEnd cX0_isBeforeEnd 2 (some .boolean), Cond.fieldLink RX0 24 "SegmentBox" "endKnown" "Z", Cond.fieldLink RX0 28 "SegmentBox" "endNumber" "I", Cond.methodLink RX0 49 yX0_slotOf, Cond.static yX0_slotOf, Cond.code yX0_slotOf cX0_slotOf 1 (some .int), Cond.methodLink RX0 38 yX0_moveOn, Cond.instanceMethod yX0_moveOn, Cond.selects RX0 yX0_moveOn yX0_moveOn, Cond.code yX0_moveOn cX0_moveOn 2 (some .int)]
def wsL_segment : List Cond := .codeWith yL_segment cL_segment 7 (some .int) [(0, 13, 16, 13)] :: ((wsL_segment_r1 ++ wsL_segment_r2) ++ wsX00 ++ (vx_at0 RX0 33 "java/lang/IllegalArgumentException" ["java/lang/RuntimeException", "java/lang/Exception"]).filter goodWord)
def wsL_told_r1 : List Cond := [Cond.classLink RL 13 "java/lang/IllegalArgumentException", Cond.methodLink RL 15 yX0_told, Cond.instanceMethod yX0_told, Cond.selects RX0 yX0_told yX0_told, Cond.initialized RX0, Cond.code yX0_told cX0_told 2 (some .int), Cond.classLink RX0 31 "java/lang/IllegalArgumentException", Cond.initialized "java/lang/IllegalArgumentException", Cond.fieldLink RX0 17 "SegmentBox" "next" "I", Cond.fieldLink RX0 21 "SegmentBox" "unread" "I", Cond.fieldLink RX0 13 "SegmentBox" "heldBits" "J", Cond.fieldLink RX0 24 "SegmentBox" "endKnown" "Z", Cond.methodLink RX0 42 yX0_window, Cond.instanceMethod yX0_window, Cond.selects RX0 yX0_window yX0_window, Cond.code yX0_window cX0_window 1 (some .int), Cond.methodLink RX0 53 yJ13_bitCount_95d88, Cond.static yJ13_bitCount_95d88, Cond.initialized RJ13, Cond.code yJ13_bitCount_95d88 cJ13_bitCount_95d88 2 (some .int), Cond.constantLong RJ13 314 (6148914691236517205), Cond.constantLong RJ13 316 (3689348814741910323), Cond.constantLong RJ13 318 (1085102592571150095), Cond.methodLink RX0 59 yX0_blockStarts]
def wsL_told_r2 : List Cond := [Cond.instanceMethod yX0_blockStarts, Cond.selects RX0 yX0_blockStarts yX0_blockStarts, Cond.code yX0_blockStarts cX0_blockStarts 1 (some .long), Cond.constantLong RX0 78 (-1)]
def wsL_told : List Cond := .codeWith yL_told cL_told 4 (some .int) [(0, 9, 12, 13)] :: ((wsL_told_r1 ++ wsL_told_r2) ++ wsX00 ++ (vx_at0 RX0 33 "java/lang/IllegalArgumentException" ["java/lang/RuntimeException", "java/lang/Exception"]).filter goodWord)
def wsL_block_r1 : List Cond := [Cond.classLink RL 23 "java/lang/IndexOutOfBoundsException", Cond.methodLink RL 19 yX0_block, Cond.instanceMethod yX0_block, Cond.selects RX0 yX0_block yX0_block, Cond.initialized RX0, Cond.code yX0_block cX0_block 4 (some .int), Cond.classLink RX0 63 "java/lang/IndexOutOfBoundsException", Cond.initialized "java/lang/IndexOutOfBoundsException", Cond.fieldLink RX0 17 "SegmentBox" "next" "I", Cond.methodLink RX0 59 yX0_blockStarts, Cond.instanceMethod yX0_blockStarts, Cond.selects RX0 yX0_blockStarts yX0_blockStarts, Cond.code yX0_blockStarts cX0_blockStarts 1 (some .long), Cond.fieldLink RX0 13 "SegmentBox" "heldBits" "J", Cond.constantLong RX0 78 (-1), Cond.methodLink RX0 53 yJ13_bitCount_95d88, Cond.static yJ13_bitCount_95d88, Cond.initialized RJ13, Cond.code yJ13_bitCount_95d88 cJ13_bitCount_95d88 2 (some .int), Cond.constantLong RJ13 314 (6148914691236517205), Cond.constantLong RJ13 316 (3689348814741910323), Cond.constantLong RJ13 318 (1085102592571150095), Cond.methodLink RX0 66 yX0_startOfBlock, Cond.instanceMethod yX0_startOfBlock]
def wsL_block_r2 : List Cond := [Cond.selects RX0 yX0_startOfBlock yX0_startOfBlock, Cond.code yX0_startOfBlock cX0_startOfBlock 6 (some .int), Cond.methodLink RX0 69 yX0_lengthOfBlock, Cond.instanceMethod yX0_lengthOfBlock, Cond.selects RX0 yX0_lengthOfBlock yX0_lengthOfBlock, Cond.code yX0_lengthOfBlock cX0_lengthOfBlock 3 (some .int), Cond.methodLink RX0 72 yX0_isHeldAhead, Cond.instanceMethod yX0_isHeldAhead, Cond.selects RX0 yX0_isHeldAhead yX0_isHeldAhead, Cond.code yX0_isHeldAhead cX0_isHeldAhead 2 (some .boolean)]
def wsL_block : List Cond := .codeWith yL_block cL_block 5 (some .int) [(0, 10, 13, 23)] :: ((wsL_block_r1 ++ wsL_block_r2) ++ wsX00 ++ (vx_at0 RX0 65 "java/lang/IndexOutOfBoundsException" ["java/lang/RuntimeException", "java/lang/Exception"]).filter goodWord)
def wsL_law0_r1 : List Cond := [Cond.classLink RL 8 RX0, Cond.instantiable RX0 6, Cond.initialized RX0, Cond.classLink RL 26 RX1, Cond.instantiable RX1 8, Cond.initialized RX1, Cond.methodLink RL 25 yX0_init, Cond.instanceMethod yX0_init, Cond.code yX0_init cX0_init 1 none, Cond.methodLink RX0 1 objectInit, Cond.instanceMethod objectInit, Cond.code objectInit ⟨#[0xb1]⟩ 1 none, Cond.arrayClass .byte, Cond.fieldLink RX0 9 "SegmentBox" "bytes" "[B", Cond.fieldLink RX0 13 "SegmentBox" "heldBits" "J", Cond.fieldLink RX0 17 "SegmentBox" "next" "I", Cond.fieldLink RX0 21 "SegmentBox" "unread" "I", Cond.fieldLink RX0 24 "SegmentBox" "endKnown" "Z", Cond.fieldLink RX0 28 "SegmentBox" "endNumber" "I", Cond.methodLink RL 28 yX1_init, Cond.instanceMethod yX1_init, Cond.code yX1_init cX1_init 1 none, Cond.methodLink RX1 1 objectInit, Cond.arrayClass .int]
def wsL_law0_r2 : List Cond := [Cond.fieldLink RX1 9 "SegmentBoxModel" "unread" "[I", Cond.fieldLink RX1 13 "SegmentBoxModel" "byteAt" "[I", Cond.arrayClass .boolean, Cond.fieldLink RX1 16 "SegmentBoxModel" "isHeld" "[Z", Cond.methodLink RL 29 yX0_open, Cond.instanceMethod yX0_open, Cond.selects RX0 yX0_open yX0_open, Cond.code yX0_open cX0_open 2 none, Cond.methodLink RL 33 yX1_open, Cond.instanceMethod yX1_open, Cond.selects RX1 yX1_open yX1_open, Cond.code yX1_open cX1_open 3 none, Cond.fieldLink RX1 20 "SegmentBoxModel" "thrown" "I", Cond.fieldLink RX1 24 "SegmentBoxModel" "next" "I", Cond.fieldLink RX1 27 "SegmentBoxModel" "many" "I", Cond.fieldLink RX1 30 "SegmentBoxModel" "hasEnd" "Z", Cond.methodLink RL 36 yL_segment, Cond.static yL_segment, Cond.initialized RL, Cond.codeWith yL_segment cL_segment 7 (some .int) [(0, 13, 16, 13)], Cond.classLink RL 13 "java/lang/IllegalArgumentException", Cond.methodLink RL 7 yX0_segment, Cond.instanceMethod yX0_segment, Cond.selects RX0 yX0_segment yX0_segment]
def wsL_law0_r3 : List Cond := [Cond.code yX0_segment cX0_segment 6 (some .int), Cond.classLink RX0 31 "java/lang/IllegalArgumentException", Cond.initialized "java/lang/IllegalArgumentException", Cond.methodLink RX0 34 yX0_takeByte, Cond.instanceMethod yX0_takeByte, Cond.selects RX0 yX0_takeByte yX0_takeByte, Cond.code yX0_takeByte cX0_takeByte 4 none, Cond.methodLink RX0 42 yX0_window, Cond.instanceMethod yX0_window, Cond.selects RX0 yX0_window yX0_window, Cond.code yX0_window cX0_window 1 (some .int), Cond.methodLink RX0 72 yX0_isHeldAhead, Cond.instanceMethod yX0_isHeldAhead, Cond.selects RX0 yX0_isHeldAhead yX0_isHeldAhead, Cond.code yX0_isHeldAhead cX0_isHeldAhead 2 (some .boolean), Cond.methodLink RX0 75 yX0_isBeforeEnd, Cond.instanceMethod yX0_isBeforeEnd, Cond.selects RX0 yX0_isBeforeEnd yX0_isBeforeEnd, Cond.code yX0_isBeforeEnd cX0_isBeforeEnd 2 (some .boolean), Cond.methodLink RX0 49 yX0_slotOf, Cond.static yX0_slotOf, Cond.code yX0_slotOf cX0_slotOf 1 (some .int), Cond.methodLink RX0 38 yX0_moveOn, Cond.instanceMethod yX0_moveOn]
def wsL_law0_r4 : List Cond := [Cond.selects RX0 yX0_moveOn yX0_moveOn, Cond.code yX0_moveOn cX0_moveOn 2 (some .int), Cond.methodLink RL 42 yX1_thrown, Cond.instanceMethod yX1_thrown, Cond.selects RX1 yX1_thrown yX1_thrown, Cond.code yX1_thrown cX1_thrown 1 (some .int), Cond.methodLink RL 46 yX0_end, Cond.instanceMethod yX0_end, Cond.selects RX0 yX0_end yX0_end, Cond.code yX0_end cX0_end 3 (some .boolean), Cond.methodLink RX0 45 yX0_isHeldFrom, Cond.instanceMethod yX0_isHeldFrom, Cond.selects RX0 yX0_isHeldFrom yX0_isHeldFrom, Cond.code yX0_isHeldFrom cX0_isHeldFrom 2 (some .boolean), Cond.methodLink RL 51 yX0_read, Cond.instanceMethod yX0_read, Cond.selects RX0 yX0_read yX0_read, Cond.code yX0_read cX0_read 2 (some .int), Cond.methodLink RL 55 yL_told, Cond.static yL_told, Cond.codeWith yL_told cL_told 4 (some .int) [(0, 9, 12, 13)], Cond.methodLink RL 15 yX0_told, Cond.instanceMethod yX0_told, Cond.selects RX0 yX0_told yX0_told]
def wsL_law0_r5 : List Cond := [Cond.code yX0_told cX0_told 2 (some .int), Cond.methodLink RX0 53 yJ13_bitCount_95d88, Cond.static yJ13_bitCount_95d88, Cond.initialized RJ13, Cond.code yJ13_bitCount_95d88 cJ13_bitCount_95d88 2 (some .int), Cond.constantLong RJ13 314 (6148914691236517205), Cond.constantLong RJ13 316 (3689348814741910323), Cond.constantLong RJ13 318 (1085102592571150095), Cond.methodLink RX0 59 yX0_blockStarts, Cond.instanceMethod yX0_blockStarts, Cond.selects RX0 yX0_blockStarts yX0_blockStarts, Cond.code yX0_blockStarts cX0_blockStarts 1 (some .long), Cond.constantLong RX0 78 (-1), Cond.methodLink RL 59 yL_block, Cond.static yL_block, Cond.codeWith yL_block cL_block 5 (some .int) [(0, 10, 13, 23)], Cond.classLink RL 23 "java/lang/IndexOutOfBoundsException", Cond.methodLink RL 19 yX0_block, Cond.instanceMethod yX0_block, Cond.selects RX0 yX0_block yX0_block, Cond.code yX0_block cX0_block 4 (some .int), Cond.classLink RX0 63 "java/lang/IndexOutOfBoundsException", Cond.initialized "java/lang/IndexOutOfBoundsException", Cond.methodLink RX0 66 yX0_startOfBlock]
def wsL_law0_r6 : List Cond := [Cond.instanceMethod yX0_startOfBlock, Cond.selects RX0 yX0_startOfBlock yX0_startOfBlock, Cond.code yX0_startOfBlock cX0_startOfBlock 6 (some .int), Cond.methodLink RX0 69 yX0_lengthOfBlock, Cond.instanceMethod yX0_lengthOfBlock, Cond.selects RX0 yX0_lengthOfBlock yX0_lengthOfBlock, Cond.code yX0_lengthOfBlock cX0_lengthOfBlock 3 (some .int), Cond.methodLink RL 63 yX0_held, Cond.instanceMethod yX0_held, Cond.selects RX0 yX0_held yX0_held, Cond.code yX0_held cX0_held 2 (some .boolean)]
def wsL_law0 : List Cond := (wsL_law0_r1 ++ (wsL_law0_r2 ++ (wsL_law0_r3 ++ (wsL_law0_r4 ++ (wsL_law0_r5 ++ wsL_law0_r6))))) ++ wsX00 ++ wsX10 ++ ([] : List Cond)
def wsL_law : List Cond := wsL_law0 ++ (vx_at0 RX0 33 "java/lang/IllegalArgumentException" ["java/lang/RuntimeException", "java/lang/Exception"]).filter goodWord ++ (vx_at0 RX0 65 "java/lang/IndexOutOfBoundsException" ["java/lang/RuntimeException", "java/lang/Exception"]).filter goodWord
set_option maxRecDepth 20000 in
theorem wsL_law_in0 : ∀ w ∈ wsL_law0, w ∈ lw_tbl := by decide +kernel
theorem wsL_law_x0 : ∀ w ∈ (vx_at0 RX0 33 "java/lang/IllegalArgumentException" ["java/lang/RuntimeException", "java/lang/Exception"]).filter goodWord, w ∈ lw_tbl := by decide +kernel
theorem wsL_law_x1 : ∀ w ∈ (vx_at0 RX0 65 "java/lang/IndexOutOfBoundsException" ["java/lang/RuntimeException", "java/lang/Exception"]).filter goodWord, w ∈ lw_tbl := by decide +kernel
theorem wsL_law_in : ∀ w ∈ wsL_law, w ∈ lw_tbl := fun w h => (List.mem_append.mp h).elim (fun h => (List.mem_append.mp h).elim (fun h => wsL_law_in0 w h) (fun h => wsL_law_x0 w h)) (fun h => wsL_law_x1 w h)
theorem inlX0 : ∀ w ∈ wsX00, w ∈ wsL_law := fun _ h => List.mem_append_left _ (List.mem_append_left _ (List.mem_append_left _ (List.mem_append_left _ (List.mem_append_right _ h))))
theorem inX0 : ∀ w ∈ wsX00, w ∈ lw_tbl := fun w h => wsL_law_in w (inlX0 w h)
theorem inlX1 : ∀ w ∈ wsX10, w ∈ wsL_law := fun _ h => List.mem_append_left _ (List.mem_append_left _ (List.mem_append_left _ (List.mem_append_right _ h)))
theorem inX1 : ∀ w ∈ wsX10, w ∈ lw_tbl := fun w h => wsL_law_in w (inlX1 w h)
theorem inJ13 : ∀ w ∈ wsJ130, w ∈ lw_tbl := by decide +kernel
theorem dX0_init_0 : decode cX0_init 0 = .ok (.aload_n 0, 1) := by decide +kernel
theorem dX0_init_1 : decode cX0_init 1 = .ok (.invokespecial 1, 3) := by decide +kernel
theorem dX0_init_4 : decode cX0_init 4 = .ok (.aload_n 0, 1) := by decide +kernel
theorem dX0_init_5 : decode cX0_init 5 = .ok (.bipush 64, 2) := by decide +kernel
theorem dX0_init_7 : decode cX0_init 7 = .ok (.newarray .byte, 2) := by decide +kernel
theorem dX0_init_9 : decode cX0_init 9 = .ok (.putfield 9, 3) := by decide +kernel
theorem dX0_init_12 : decode cX0_init 12 = .ok (.aload_n 0, 1) := by decide +kernel
theorem dX0_init_13 : decode cX0_init 13 = .ok (.lconst 0, 1) := by decide +kernel
theorem dX0_init_14 : decode cX0_init 14 = .ok (.putfield 13, 3) := by decide +kernel
theorem dX0_init_17 : decode cX0_init 17 = .ok (.aload_n 0, 1) := by decide +kernel
theorem dX0_init_18 : decode cX0_init 18 = .ok (.iconst 0, 1) := by decide +kernel
theorem dX0_init_19 : decode cX0_init 19 = .ok (.putfield 17, 3) := by decide +kernel
theorem dX0_init_22 : decode cX0_init 22 = .ok (.aload_n 0, 1) := by decide +kernel
theorem dX0_init_23 : decode cX0_init 23 = .ok (.iconst 0, 1) := by decide +kernel
theorem dX0_init_24 : decode cX0_init 24 = .ok (.putfield 21, 3) := by decide +kernel
theorem dX0_init_27 : decode cX0_init 27 = .ok (.aload_n 0, 1) := by decide +kernel
theorem dX0_init_28 : decode cX0_init 28 = .ok (.iconst 0, 1) := by decide +kernel
theorem dX0_init_29 : decode cX0_init 29 = .ok (.putfield 24, 3) := by decide +kernel
theorem dX0_init_32 : decode cX0_init 32 = .ok (.aload_n 0, 1) := by decide +kernel
theorem dX0_init_33 : decode cX0_init 33 = .ok (.iconst 0, 1) := by decide +kernel
theorem dX0_init_34 : decode cX0_init 34 = .ok (.putfield 28, 3) := by decide +kernel
theorem dX0_init_37 : decode cX0_init 37 = .ok (.return_, 1) := by decide +kernel
theorem dX0_open_0 : decode cX0_open 0 = .ok (.aload_n 0, 1) := by decide +kernel
theorem dX0_open_1 : decode cX0_open 1 = .ok (.lconst 0, 1) := by decide +kernel
theorem dX0_open_2 : decode cX0_open 2 = .ok (.putfield 13, 3) := by decide +kernel
theorem dX0_open_5 : decode cX0_open 5 = .ok (.aload_n 0, 1) := by decide +kernel
theorem dX0_open_6 : decode cX0_open 6 = .ok (.iload_n 1, 1) := by decide +kernel
theorem dX0_open_7 : decode cX0_open 7 = .ok (.putfield 17, 3) := by decide +kernel
theorem dX0_open_10 : decode cX0_open 10 = .ok (.aload_n 0, 1) := by decide +kernel
theorem dX0_open_11 : decode cX0_open 11 = .ok (.iconst 0, 1) := by decide +kernel
theorem dX0_open_12 : decode cX0_open 12 = .ok (.putfield 21, 3) := by decide +kernel
theorem dX0_open_15 : decode cX0_open 15 = .ok (.aload_n 0, 1) := by decide +kernel
theorem dX0_open_16 : decode cX0_open 16 = .ok (.iconst 0, 1) := by decide +kernel
theorem dX0_open_17 : decode cX0_open 17 = .ok (.putfield 24, 3) := by decide +kernel
theorem dX0_open_20 : decode cX0_open 20 = .ok (.aload_n 0, 1) := by decide +kernel
theorem dX0_open_21 : decode cX0_open 21 = .ok (.iconst 0, 1) := by decide +kernel
theorem dX0_open_22 : decode cX0_open 22 = .ok (.putfield 28, 3) := by decide +kernel
theorem dX0_open_25 : decode cX0_open 25 = .ok (.return_, 1) := by decide +kernel
set_option maxRecDepth 20000 in
theorem ggX0_segment_X0_takeByte : GoodIn wsX0_segment wsX0_takeByte := goodIn_r _ [7, 8, 9, 10, 11, 12, 13, 6, 14, 15, 16, 17, 18, 19, 20, 21, 22, 23, 24, 25, 26, 27, 28, 33, 34, 35, 36, 37, 38] (by decide +kernel) (by decide +kernel)
set_option maxRecDepth 20000 in
theorem gX0_segment_X0_takeByte : GoodIn wsX0_segment (wsV RX0 34 RX0 yX0_takeByte wsX0_takeByte) := goodIn_app (goodIn_of _ (by decide +kernel)) ggX0_segment_X0_takeByte
set_option maxRecDepth 20000 in
theorem ggX0_segment_X0_moveOn : GoodIn wsX0_segment wsX0_moveOn := goodIn_r _ [32, 10, 8, 15, 33, 34, 35, 36, 37, 38] (by decide +kernel) (by decide +kernel)
set_option maxRecDepth 20000 in
theorem gX0_segment_X0_moveOn : GoodIn wsX0_segment (wsV RX0 38 RX0 yX0_moveOn wsX0_moveOn) := goodIn_app (goodIn_of _ (by decide +kernel)) ggX0_segment_X0_moveOn
theorem dX0_segment_0 : decode cX0_segment 0 = .ok (.iload 4, 2) := by decide +kernel
theorem dX0_segment_2 : decode cX0_segment 2 = .ok (.ifCond .lt 10, 3) := by decide +kernel
theorem dX0_segment_5 : decode cX0_segment 5 = .ok (.iload 4, 2) := by decide +kernel
theorem dX0_segment_7 : decode cX0_segment 7 = .ok (.bipush 8, 2) := by decide +kernel
theorem dX0_segment_9 : decode cX0_segment 9 = .ok (.if_icmp .le 11, 3) := by decide +kernel
theorem dX0_segment_12 : decode cX0_segment 12 = .ok (.new 31, 3) := by decide +kernel
theorem dX0_segment_15 : decode cX0_segment 15 = .ok (.dup, 1) := by decide +kernel
theorem dX0_segment_16 : decode cX0_segment 16 = .ok (.invokespecial 33, 3) := by decide +kernel
theorem dX0_segment_19 : decode cX0_segment 19 = .ok (.athrow, 1) := by decide +kernel
theorem dX0_segment_20 : decode cX0_segment 20 = .ok (.iconst 0, 1) := by decide +kernel
theorem dX0_segment_21 : decode cX0_segment 21 = .ok (.istore 5, 2) := by decide +kernel
theorem dX0_segment_23 : decode cX0_segment 23 = .ok (.iload 5, 2) := by decide +kernel
theorem dX0_segment_25 : decode cX0_segment 25 = .ok (.iload 4, 2) := by decide +kernel
theorem dX0_segment_27 : decode cX0_segment 27 = .ok (.if_icmp .ge 26, 3) := by decide +kernel
theorem dX0_segment_30 : decode cX0_segment 30 = .ok (.aload_n 0, 1) := by decide +kernel
theorem dX0_segment_31 : decode cX0_segment 31 = .ok (.iload_n 1, 1) := by decide +kernel
theorem dX0_segment_32 : decode cX0_segment 32 = .ok (.iload 5, 2) := by decide +kernel
theorem dX0_segment_34 : decode cX0_segment 34 = .ok (.iadd, 1) := by decide +kernel
theorem dX0_segment_35 : decode cX0_segment 35 = .ok (.lload_n 2, 1) := by decide +kernel
theorem dX0_segment_36 : decode cX0_segment 36 = .ok (.bipush 8, 2) := by decide +kernel
theorem dX0_segment_38 : decode cX0_segment 38 = .ok (.iload 5, 2) := by decide +kernel
theorem dX0_segment_40 : decode cX0_segment 40 = .ok (.imul, 1) := by decide +kernel
theorem dX0_segment_41 : decode cX0_segment 41 = .ok (.lushr, 1) := by decide +kernel
theorem dX0_segment_42 : decode cX0_segment 42 = .ok (.l2i, 1) := by decide +kernel
theorem dX0_segment_43 : decode cX0_segment 43 = .ok (.i2b, 1) := by decide +kernel
theorem dX0_segment_44 : decode cX0_segment 44 = .ok (.invokevirtual 34, 3) := by decide +kernel
theorem dX0_segment_47 : decode cX0_segment 47 = .ok (.iinc 5 1, 3) := by decide +kernel
theorem dX0_segment_50 : decode cX0_segment 50 = .ok (.goto (-27), 3) := by decide +kernel
theorem dX0_segment_53 : decode cX0_segment 53 = .ok (.aload_n 0, 1) := by decide +kernel
theorem dX0_segment_54 : decode cX0_segment 54 = .ok (.invokevirtual 38, 3) := by decide +kernel
theorem dX0_segment_57 : decode cX0_segment 57 = .ok (.ireturn, 1) := by decide +kernel
set_option maxRecDepth 20000 in
theorem ggX0_end_X0_window : GoodIn wsX0_end wsX0_window := goodIn_r _ [8, 9, 15, 16, 17, 18, 19, 20] (by decide +kernel) (by decide +kernel)
set_option maxRecDepth 20000 in
theorem gX0_end_X0_window : GoodIn wsX0_end (wsV RX0 42 RX0 yX0_window wsX0_window) := goodIn_app (goodIn_of _ (by decide +kernel)) ggX0_end_X0_window
set_option maxRecDepth 20000 in
theorem ggX0_end_X0_isHeldFrom : GoodIn wsX0_end wsX0_isHeldFrom := goodIn_r _ [13, 14, 15, 16, 17, 18, 19, 20] (by decide +kernel) (by decide +kernel)
set_option maxRecDepth 20000 in
theorem gX0_end_X0_isHeldFrom : GoodIn wsX0_end (wsV RX0 45 RX0 yX0_isHeldFrom wsX0_isHeldFrom) := goodIn_app (goodIn_of _ (by decide +kernel)) ggX0_end_X0_isHeldFrom
theorem dX0_end_0 : decode cX0_end 0 = .ok (.iload_n 1, 1) := by decide +kernel
theorem dX0_end_1 : decode cX0_end 1 = .ok (.aload_n 0, 1) := by decide +kernel
theorem dX0_end_2 : decode cX0_end 2 = .ok (.getfield 17, 3) := by decide +kernel
theorem dX0_end_5 : decode cX0_end 5 = .ok (.isub, 1) := by decide +kernel
theorem dX0_end_6 : decode cX0_end 6 = .ok (.istore_n 2, 1) := by decide +kernel
theorem dX0_end_7 : decode cX0_end 7 = .ok (.aload_n 0, 1) := by decide +kernel
theorem dX0_end_8 : decode cX0_end 8 = .ok (.getfield 24, 3) := by decide +kernel
theorem dX0_end_11 : decode cX0_end 11 = .ok (.ifCond .ne 23, 3) := by decide +kernel
theorem dX0_end_14 : decode cX0_end 14 = .ok (.iload_n 2, 1) := by decide +kernel
theorem dX0_end_15 : decode cX0_end 15 = .ok (.ifCond .lt 19, 3) := by decide +kernel
theorem dX0_end_18 : decode cX0_end 18 = .ok (.iload_n 2, 1) := by decide +kernel
theorem dX0_end_19 : decode cX0_end 19 = .ok (.aload_n 0, 1) := by decide +kernel
theorem dX0_end_20 : decode cX0_end 20 = .ok (.invokevirtual 42, 3) := by decide +kernel
theorem dX0_end_23 : decode cX0_end 23 = .ok (.if_icmp .gt 11, 3) := by decide +kernel
theorem dX0_end_26 : decode cX0_end 26 = .ok (.aload_n 0, 1) := by decide +kernel
theorem dX0_end_27 : decode cX0_end 27 = .ok (.iload_n 2, 1) := by decide +kernel
theorem dX0_end_28 : decode cX0_end 28 = .ok (.invokevirtual 45, 3) := by decide +kernel
theorem dX0_end_31 : decode cX0_end 31 = .ok (.ifCond .eq 5, 3) := by decide +kernel
theorem dX0_end_34 : decode cX0_end 34 = .ok (.iconst 0, 1) := by decide +kernel
theorem dX0_end_35 : decode cX0_end 35 = .ok (.ireturn, 1) := by decide +kernel
theorem dX0_end_36 : decode cX0_end 36 = .ok (.aload_n 0, 1) := by decide +kernel
theorem dX0_end_37 : decode cX0_end 37 = .ok (.iconst 1, 1) := by decide +kernel
theorem dX0_end_38 : decode cX0_end 38 = .ok (.putfield 24, 3) := by decide +kernel
theorem dX0_end_41 : decode cX0_end 41 = .ok (.aload_n 0, 1) := by decide +kernel
theorem dX0_end_42 : decode cX0_end 42 = .ok (.iload_n 1, 1) := by decide +kernel
theorem dX0_end_43 : decode cX0_end 43 = .ok (.putfield 28, 3) := by decide +kernel
theorem dX0_end_46 : decode cX0_end 46 = .ok (.iconst 1, 1) := by decide +kernel
theorem dX0_end_47 : decode cX0_end 47 = .ok (.ireturn, 1) := by decide +kernel
set_option maxRecDepth 20000 in
theorem ggX0_read_X0_slotOf : GoodIn wsX0_read wsX0_slotOf := goodIn_r _ [9] (by decide +kernel) (by decide +kernel)
set_option maxRecDepth 20000 in
theorem gX0_read_X0_slotOf : GoodIn wsX0_read (va_wsS RX0 49 yX0_slotOf wsX0_slotOf) := goodIn_app (goodIn_of _ (by decide +kernel)) ggX0_read_X0_slotOf
theorem dX0_read_0 : decode cX0_read 0 = .ok (.aload_n 0, 1) := by decide +kernel
theorem dX0_read_1 : decode cX0_read 1 = .ok (.getfield 21, 3) := by decide +kernel
theorem dX0_read_4 : decode cX0_read 4 = .ok (.ifCond .ne 28, 3) := by decide +kernel
theorem dX0_read_7 : decode cX0_read 7 = .ok (.aload_n 0, 1) := by decide +kernel
theorem dX0_read_8 : decode cX0_read 8 = .ok (.getfield 24, 3) := by decide +kernel
theorem dX0_read_11 : decode cX0_read 11 = .ok (.ifCond .eq 19, 3) := by decide +kernel
theorem dX0_read_14 : decode cX0_read 14 = .ok (.aload_n 0, 1) := by decide +kernel
theorem dX0_read_15 : decode cX0_read 15 = .ok (.getfield 17, 3) := by decide +kernel
theorem dX0_read_18 : decode cX0_read 18 = .ok (.aload_n 0, 1) := by decide +kernel
theorem dX0_read_19 : decode cX0_read 19 = .ok (.getfield 28, 3) := by decide +kernel
theorem dX0_read_22 : decode cX0_read 22 = .ok (.if_icmp .ne 8, 3) := by decide +kernel
theorem dX0_read_25 : decode cX0_read 25 = .ok (.bipush (-2), 2) := by decide +kernel
theorem dX0_read_27 : decode cX0_read 27 = .ok (.goto 4, 3) := by decide +kernel
theorem dX0_read_30 : decode cX0_read 30 = .ok (.iconst (-1), 1) := by decide +kernel
theorem dX0_read_31 : decode cX0_read 31 = .ok (.ireturn, 1) := by decide +kernel
theorem dX0_read_32 : decode cX0_read 32 = .ok (.aload_n 0, 1) := by decide +kernel
theorem dX0_read_33 : decode cX0_read 33 = .ok (.getfield 9, 3) := by decide +kernel
theorem dX0_read_36 : decode cX0_read 36 = .ok (.aload_n 0, 1) := by decide +kernel
theorem dX0_read_37 : decode cX0_read 37 = .ok (.getfield 17, 3) := by decide +kernel
theorem dX0_read_40 : decode cX0_read 40 = .ok (.aload_n 0, 1) := by decide +kernel
theorem dX0_read_41 : decode cX0_read 41 = .ok (.getfield 21, 3) := by decide +kernel
theorem dX0_read_44 : decode cX0_read 44 = .ok (.isub, 1) := by decide +kernel
theorem dX0_read_45 : decode cX0_read 45 = .ok (.invokestatic 49, 3) := by decide +kernel
theorem dX0_read_48 : decode cX0_read 48 = .ok (.baload, 1) := by decide +kernel
theorem dX0_read_49 : decode cX0_read 49 = .ok (.sipush 255, 3) := by decide +kernel
theorem dX0_read_52 : decode cX0_read 52 = .ok (.iand, 1) := by decide +kernel
theorem dX0_read_53 : decode cX0_read 53 = .ok (.istore_n 1, 1) := by decide +kernel
theorem dX0_read_54 : decode cX0_read 54 = .ok (.aload_n 0, 1) := by decide +kernel
theorem dX0_read_55 : decode cX0_read 55 = .ok (.dup, 1) := by decide +kernel
theorem dX0_read_56 : decode cX0_read 56 = .ok (.getfield 21, 3) := by decide +kernel
theorem dX0_read_59 : decode cX0_read 59 = .ok (.iconst 1, 1) := by decide +kernel
theorem dX0_read_60 : decode cX0_read 60 = .ok (.isub, 1) := by decide +kernel
theorem dX0_read_61 : decode cX0_read 61 = .ok (.putfield 21, 3) := by decide +kernel
theorem dX0_read_64 : decode cX0_read 64 = .ok (.iload_n 1, 1) := by decide +kernel
theorem dX0_read_65 : decode cX0_read 65 = .ok (.ireturn, 1) := by decide +kernel
set_option maxRecDepth 20000 in
theorem ggX0_told_X0_window : GoodIn wsX0_told wsX0_window := goodIn_r _ [11, 4, 24, 25, 26, 27, 28, 29] (by decide +kernel) (by decide +kernel)
set_option maxRecDepth 20000 in
theorem gX0_told_X0_window : GoodIn wsX0_told (wsV RX0 42 RX0 yX0_window wsX0_window) := goodIn_app (goodIn_of _ (by decide +kernel)) ggX0_told_X0_window
set_option maxRecDepth 20000 in
theorem ggX0_told_J13_bitCount_95d88 : GoodIn wsX0_told wsJ13_bitCount_95d88 := goodIn_r _ [15, 16, 17, 18] (by decide +kernel) (by decide +kernel)
set_option maxRecDepth 20000 in
theorem gX0_told_J13_bitCount_95d88 : GoodIn wsX0_told (va_wsS RX0 53 yJ13_bitCount_95d88 wsJ13_bitCount_95d88) := goodIn_app (goodIn_of _ (by decide +kernel)) ggX0_told_J13_bitCount_95d88
set_option maxRecDepth 20000 in
theorem ggX0_told_X0_blockStarts : GoodIn wsX0_told wsX0_blockStarts := goodIn_r _ [22, 5, 23, 24, 25, 26, 27, 28, 29] (by decide +kernel) (by decide +kernel)
set_option maxRecDepth 20000 in
theorem gX0_told_X0_blockStarts : GoodIn wsX0_told (wsV RX0 59 RX0 yX0_blockStarts wsX0_blockStarts) := goodIn_app (goodIn_of _ (by decide +kernel)) ggX0_told_X0_blockStarts
theorem dX0_told_0 : decode cX0_told 0 = .ok (.iload_n 1, 1) := by decide +kernel
theorem dX0_told_1 : decode cX0_told 1 = .ok (.tableswitch 83 0 5 #[39, 44, 49, 54, 62, 70], 39) := by decide +kernel
theorem dX0_told_40 : decode cX0_told 40 = .ok (.aload_n 0, 1) := by decide +kernel
theorem dX0_told_41 : decode cX0_told 41 = .ok (.getfield 17, 3) := by decide +kernel
theorem dX0_told_44 : decode cX0_told 44 = .ok (.ireturn, 1) := by decide +kernel
theorem dX0_told_45 : decode cX0_told 45 = .ok (.aload_n 0, 1) := by decide +kernel
theorem dX0_told_46 : decode cX0_told 46 = .ok (.invokevirtual 42, 3) := by decide +kernel
theorem dX0_told_49 : decode cX0_told 49 = .ok (.ireturn, 1) := by decide +kernel
theorem dX0_told_50 : decode cX0_told 50 = .ok (.aload_n 0, 1) := by decide +kernel
theorem dX0_told_51 : decode cX0_told 51 = .ok (.getfield 21, 3) := by decide +kernel
theorem dX0_told_54 : decode cX0_told 54 = .ok (.ireturn, 1) := by decide +kernel
theorem dX0_told_55 : decode cX0_told 55 = .ok (.aload_n 0, 1) := by decide +kernel
theorem dX0_told_56 : decode cX0_told 56 = .ok (.getfield 13, 3) := by decide +kernel
theorem dX0_told_59 : decode cX0_told 59 = .ok (.invokestatic 53, 3) := by decide +kernel
theorem dX0_told_62 : decode cX0_told 62 = .ok (.ireturn, 1) := by decide +kernel
theorem dX0_told_63 : decode cX0_told 63 = .ok (.aload_n 0, 1) := by decide +kernel
theorem dX0_told_64 : decode cX0_told 64 = .ok (.invokevirtual 59, 3) := by decide +kernel
theorem dX0_told_67 : decode cX0_told 67 = .ok (.invokestatic 53, 3) := by decide +kernel
theorem dX0_told_70 : decode cX0_told 70 = .ok (.ireturn, 1) := by decide +kernel
theorem dX0_told_71 : decode cX0_told 71 = .ok (.aload_n 0, 1) := by decide +kernel
theorem dX0_told_72 : decode cX0_told 72 = .ok (.getfield 24, 3) := by decide +kernel
theorem dX0_told_75 : decode cX0_told 75 = .ok (.ifCond .eq 7, 3) := by decide +kernel
theorem dX0_told_78 : decode cX0_told 78 = .ok (.iconst 1, 1) := by decide +kernel
theorem dX0_told_79 : decode cX0_told 79 = .ok (.goto 4, 3) := by decide +kernel
theorem dX0_told_82 : decode cX0_told 82 = .ok (.iconst 0, 1) := by decide +kernel
theorem dX0_told_83 : decode cX0_told 83 = .ok (.ireturn, 1) := by decide +kernel
theorem dX0_told_84 : decode cX0_told 84 = .ok (.new 31, 3) := by decide +kernel
theorem dX0_told_87 : decode cX0_told 87 = .ok (.dup, 1) := by decide +kernel
theorem dX0_told_88 : decode cX0_told 88 = .ok (.invokespecial 33, 3) := by decide +kernel
theorem dX0_told_91 : decode cX0_told 91 = .ok (.athrow, 1) := by decide +kernel
set_option maxRecDepth 20000 in
theorem ggX0_block_X0_blockStarts : GoodIn wsX0_block wsX0_blockStarts := goodIn_r _ [8, 9, 10, 30, 31, 32, 33, 34, 35] (by decide +kernel) (by decide +kernel)
set_option maxRecDepth 20000 in
theorem gX0_block_X0_blockStarts : GoodIn wsX0_block (wsV RX0 59 RX0 yX0_blockStarts wsX0_blockStarts) := goodIn_app (goodIn_of _ (by decide +kernel)) ggX0_block_X0_blockStarts
set_option maxRecDepth 20000 in
theorem ggX0_block_J13_bitCount_95d88 : GoodIn wsX0_block wsJ13_bitCount_95d88 := goodIn_r _ [14, 15, 16, 17] (by decide +kernel) (by decide +kernel)
set_option maxRecDepth 20000 in
theorem gX0_block_J13_bitCount_95d88 : GoodIn wsX0_block (va_wsS RX0 53 yJ13_bitCount_95d88 wsJ13_bitCount_95d88) := goodIn_app (goodIn_of _ (by decide +kernel)) ggX0_block_J13_bitCount_95d88
set_option maxRecDepth 20000 in
theorem ggX0_block_X0_startOfBlock : GoodIn wsX0_block wsX0_startOfBlock := goodIn_r _ [21, 4, 5, 6, 7, 8, 9, 10, 30, 31, 32, 33, 34, 35] (by decide +kernel) (by decide +kernel)
set_option maxRecDepth 20000 in
theorem gX0_block_X0_startOfBlock : GoodIn wsX0_block (wsV RX0 66 RX0 yX0_startOfBlock wsX0_startOfBlock) := goodIn_app (goodIn_of _ (by decide +kernel)) ggX0_block_X0_startOfBlock
set_option maxRecDepth 20000 in
theorem ggX0_block_X0_lengthOfBlock : GoodIn wsX0_block wsX0_lengthOfBlock := goodIn_r _ [25, 26, 27, 28, 7, 29, 9, 30, 31, 32, 33, 34, 35] (by decide +kernel) (by decide +kernel)
set_option maxRecDepth 20000 in
theorem gX0_block_X0_lengthOfBlock : GoodIn wsX0_block (wsV RX0 69 RX0 yX0_lengthOfBlock wsX0_lengthOfBlock) := goodIn_app (goodIn_of _ (by decide +kernel)) ggX0_block_X0_lengthOfBlock
theorem dX0_block_0 : decode cX0_block 0 = .ok (.iload_n 1, 1) := by decide +kernel
theorem dX0_block_1 : decode cX0_block 1 = .ok (.ifCond .lt 14, 3) := by decide +kernel
theorem dX0_block_4 : decode cX0_block 4 = .ok (.iload_n 1, 1) := by decide +kernel
theorem dX0_block_5 : decode cX0_block 5 = .ok (.aload_n 0, 1) := by decide +kernel
theorem dX0_block_6 : decode cX0_block 6 = .ok (.invokevirtual 59, 3) := by decide +kernel
theorem dX0_block_9 : decode cX0_block 9 = .ok (.invokestatic 53, 3) := by decide +kernel
theorem dX0_block_12 : decode cX0_block 12 = .ok (.if_icmp .lt 11, 3) := by decide +kernel
theorem dX0_block_15 : decode cX0_block 15 = .ok (.new 63, 3) := by decide +kernel
theorem dX0_block_18 : decode cX0_block 18 = .ok (.dup, 1) := by decide +kernel
theorem dX0_block_19 : decode cX0_block 19 = .ok (.invokespecial 65, 3) := by decide +kernel
theorem dX0_block_22 : decode cX0_block 22 = .ok (.athrow, 1) := by decide +kernel
theorem dX0_block_23 : decode cX0_block 23 = .ok (.aload_n 0, 1) := by decide +kernel
theorem dX0_block_24 : decode cX0_block 24 = .ok (.iload_n 1, 1) := by decide +kernel
theorem dX0_block_25 : decode cX0_block 25 = .ok (.invokevirtual 66, 3) := by decide +kernel
theorem dX0_block_28 : decode cX0_block 28 = .ok (.istore_n 3, 1) := by decide +kernel
theorem dX0_block_29 : decode cX0_block 29 = .ok (.iload_n 2, 1) := by decide +kernel
theorem dX0_block_30 : decode cX0_block 30 = .ok (.ifCond .eq 11, 3) := by decide +kernel
theorem dX0_block_33 : decode cX0_block 33 = .ok (.aload_n 0, 1) := by decide +kernel
theorem dX0_block_34 : decode cX0_block 34 = .ok (.iload_n 3, 1) := by decide +kernel
theorem dX0_block_35 : decode cX0_block 35 = .ok (.invokevirtual 69, 3) := by decide +kernel
theorem dX0_block_38 : decode cX0_block 38 = .ok (.goto 9, 3) := by decide +kernel
theorem dX0_block_41 : decode cX0_block 41 = .ok (.aload_n 0, 1) := by decide +kernel
theorem dX0_block_42 : decode cX0_block 42 = .ok (.getfield 17, 3) := by decide +kernel
theorem dX0_block_45 : decode cX0_block 45 = .ok (.iload_n 3, 1) := by decide +kernel
theorem dX0_block_46 : decode cX0_block 46 = .ok (.iadd, 1) := by decide +kernel
theorem dX0_block_47 : decode cX0_block 47 = .ok (.ireturn, 1) := by decide +kernel
set_option maxRecDepth 20000 in
theorem ggX0_held_X0_isHeldAhead : GoodIn wsX0_held wsX0_isHeldAhead := goodIn_r _ [6, 7, 8, 9, 10, 11, 12, 13] (by decide +kernel) (by decide +kernel)
set_option maxRecDepth 20000 in
theorem gX0_held_X0_isHeldAhead : GoodIn wsX0_held (wsV RX0 72 RX0 yX0_isHeldAhead wsX0_isHeldAhead) := goodIn_app (goodIn_of _ (by decide +kernel)) ggX0_held_X0_isHeldAhead
theorem dX0_held_0 : decode cX0_held 0 = .ok (.aload_n 0, 1) := by decide +kernel
theorem dX0_held_1 : decode cX0_held 1 = .ok (.iload_n 1, 1) := by decide +kernel
theorem dX0_held_2 : decode cX0_held 2 = .ok (.aload_n 0, 1) := by decide +kernel
theorem dX0_held_3 : decode cX0_held 3 = .ok (.getfield 17, 3) := by decide +kernel
theorem dX0_held_6 : decode cX0_held 6 = .ok (.isub, 1) := by decide +kernel
theorem dX0_held_7 : decode cX0_held 7 = .ok (.invokevirtual 72, 3) := by decide +kernel
theorem dX0_held_10 : decode cX0_held 10 = .ok (.ireturn, 1) := by decide +kernel
theorem dX0_window_0 : decode cX0_window 0 = .ok (.bipush 64, 2) := by decide +kernel
theorem dX0_window_2 : decode cX0_window 2 = .ok (.aload_n 0, 1) := by decide +kernel
theorem dX0_window_3 : decode cX0_window 3 = .ok (.getfield 21, 3) := by decide +kernel
theorem dX0_window_6 : decode cX0_window 6 = .ok (.isub, 1) := by decide +kernel
theorem dX0_window_7 : decode cX0_window 7 = .ok (.ireturn, 1) := by decide +kernel
theorem dX0_slotOf_0 : decode cX0_slotOf 0 = .ok (.iload_n 0, 1) := by decide +kernel
theorem dX0_slotOf_1 : decode cX0_slotOf 1 = .ok (.bipush 63, 2) := by decide +kernel
theorem dX0_slotOf_3 : decode cX0_slotOf 3 = .ok (.iand, 1) := by decide +kernel
theorem dX0_slotOf_4 : decode cX0_slotOf 4 = .ok (.ireturn, 1) := by decide +kernel
set_option maxRecDepth 20000 in
theorem ggX0_takeByte_X0_window : GoodIn wsX0_takeByte wsX0_window := goodIn_r _ [8, 9, 23, 24, 25, 26, 27, 28] (by decide +kernel) (by decide +kernel)
set_option maxRecDepth 20000 in
theorem gX0_takeByte_X0_window : GoodIn wsX0_takeByte (wsV RX0 42 RX0 yX0_window wsX0_window) := goodIn_app (goodIn_of _ (by decide +kernel)) ggX0_takeByte_X0_window
set_option maxRecDepth 20000 in
theorem ggX0_takeByte_X0_isHeldAhead : GoodIn wsX0_takeByte wsX0_isHeldAhead := goodIn_r _ [13, 3, 23, 24, 25, 26, 27, 28] (by decide +kernel) (by decide +kernel)
set_option maxRecDepth 20000 in
theorem gX0_takeByte_X0_isHeldAhead : GoodIn wsX0_takeByte (wsV RX0 72 RX0 yX0_isHeldAhead wsX0_isHeldAhead) := goodIn_app (goodIn_of _ (by decide +kernel)) ggX0_takeByte_X0_isHeldAhead
set_option maxRecDepth 20000 in
theorem ggX0_takeByte_X0_isBeforeEnd : GoodIn wsX0_takeByte wsX0_isBeforeEnd := goodIn_r _ [17, 18, 19, 1, 23, 24, 25, 26, 27, 28] (by decide +kernel) (by decide +kernel)
set_option maxRecDepth 20000 in
theorem gX0_takeByte_X0_isBeforeEnd : GoodIn wsX0_takeByte (wsV RX0 75 RX0 yX0_isBeforeEnd wsX0_isBeforeEnd) := goodIn_app (goodIn_of _ (by decide +kernel)) ggX0_takeByte_X0_isBeforeEnd
set_option maxRecDepth 20000 in
theorem ggX0_takeByte_X0_slotOf : GoodIn wsX0_takeByte wsX0_slotOf := goodIn_r _ [22] (by decide +kernel) (by decide +kernel)
set_option maxRecDepth 20000 in
theorem gX0_takeByte_X0_slotOf : GoodIn wsX0_takeByte (va_wsS RX0 49 yX0_slotOf wsX0_slotOf) := goodIn_app (goodIn_of _ (by decide +kernel)) ggX0_takeByte_X0_slotOf
theorem dX0_takeByte_0 : decode cX0_takeByte 0 = .ok (.iload_n 1, 1) := by decide +kernel
theorem dX0_takeByte_1 : decode cX0_takeByte 1 = .ok (.aload_n 0, 1) := by decide +kernel
theorem dX0_takeByte_2 : decode cX0_takeByte 2 = .ok (.getfield 17, 3) := by decide +kernel
theorem dX0_takeByte_5 : decode cX0_takeByte 5 = .ok (.isub, 1) := by decide +kernel
theorem dX0_takeByte_6 : decode cX0_takeByte 6 = .ok (.istore_n 3, 1) := by decide +kernel
theorem dX0_takeByte_7 : decode cX0_takeByte 7 = .ok (.iload_n 3, 1) := by decide +kernel
theorem dX0_takeByte_8 : decode cX0_takeByte 8 = .ok (.ifCond .lt 49, 3) := by decide +kernel
theorem dX0_takeByte_11 : decode cX0_takeByte 11 = .ok (.iload_n 3, 1) := by decide +kernel
theorem dX0_takeByte_12 : decode cX0_takeByte 12 = .ok (.aload_n 0, 1) := by decide +kernel
theorem dX0_takeByte_13 : decode cX0_takeByte 13 = .ok (.invokevirtual 42, 3) := by decide +kernel
theorem dX0_takeByte_16 : decode cX0_takeByte 16 = .ok (.if_icmp .ge 41, 3) := by decide +kernel
theorem dX0_takeByte_19 : decode cX0_takeByte 19 = .ok (.aload_n 0, 1) := by decide +kernel
theorem dX0_takeByte_20 : decode cX0_takeByte 20 = .ok (.iload_n 3, 1) := by decide +kernel
theorem dX0_takeByte_21 : decode cX0_takeByte 21 = .ok (.invokevirtual 72, 3) := by decide +kernel
theorem dX0_takeByte_24 : decode cX0_takeByte 24 = .ok (.ifCond .ne 33, 3) := by decide +kernel
theorem dX0_takeByte_27 : decode cX0_takeByte 27 = .ok (.aload_n 0, 1) := by decide +kernel
theorem dX0_takeByte_28 : decode cX0_takeByte 28 = .ok (.iload_n 3, 1) := by decide +kernel
theorem dX0_takeByte_29 : decode cX0_takeByte 29 = .ok (.invokevirtual 75, 3) := by decide +kernel
theorem dX0_takeByte_32 : decode cX0_takeByte 32 = .ok (.ifCond .eq 25, 3) := by decide +kernel
theorem dX0_takeByte_35 : decode cX0_takeByte 35 = .ok (.aload_n 0, 1) := by decide +kernel
theorem dX0_takeByte_36 : decode cX0_takeByte 36 = .ok (.getfield 9, 3) := by decide +kernel
theorem dX0_takeByte_39 : decode cX0_takeByte 39 = .ok (.iload_n 1, 1) := by decide +kernel
theorem dX0_takeByte_40 : decode cX0_takeByte 40 = .ok (.invokestatic 49, 3) := by decide +kernel
theorem dX0_takeByte_43 : decode cX0_takeByte 43 = .ok (.iload_n 2, 1) := by decide +kernel
theorem dX0_takeByte_44 : decode cX0_takeByte 44 = .ok (.bastore, 1) := by decide +kernel
theorem dX0_takeByte_45 : decode cX0_takeByte 45 = .ok (.aload_n 0, 1) := by decide +kernel
theorem dX0_takeByte_46 : decode cX0_takeByte 46 = .ok (.dup, 1) := by decide +kernel
theorem dX0_takeByte_47 : decode cX0_takeByte 47 = .ok (.getfield 13, 3) := by decide +kernel
theorem dX0_takeByte_50 : decode cX0_takeByte 50 = .ok (.lconst 1, 1) := by decide +kernel
theorem dX0_takeByte_51 : decode cX0_takeByte 51 = .ok (.iload_n 3, 1) := by decide +kernel
theorem dX0_takeByte_52 : decode cX0_takeByte 52 = .ok (.lshl, 1) := by decide +kernel
theorem dX0_takeByte_53 : decode cX0_takeByte 53 = .ok (.lor, 1) := by decide +kernel
theorem dX0_takeByte_54 : decode cX0_takeByte 54 = .ok (.putfield 13, 3) := by decide +kernel
theorem dX0_takeByte_57 : decode cX0_takeByte 57 = .ok (.return_, 1) := by decide +kernel
theorem dX0_isBeforeEnd_0 : decode cX0_isBeforeEnd 0 = .ok (.aload_n 0, 1) := by decide +kernel
theorem dX0_isBeforeEnd_1 : decode cX0_isBeforeEnd 1 = .ok (.getfield 24, 3) := by decide +kernel
theorem dX0_isBeforeEnd_4 : decode cX0_isBeforeEnd 4 = .ok (.ifCond .eq 16, 3) := by decide +kernel
theorem dX0_isBeforeEnd_7 : decode cX0_isBeforeEnd 7 = .ok (.iload_n 1, 1) := by decide +kernel
theorem dX0_isBeforeEnd_8 : decode cX0_isBeforeEnd 8 = .ok (.aload_n 0, 1) := by decide +kernel
theorem dX0_isBeforeEnd_9 : decode cX0_isBeforeEnd 9 = .ok (.getfield 28, 3) := by decide +kernel
theorem dX0_isBeforeEnd_12 : decode cX0_isBeforeEnd 12 = .ok (.aload_n 0, 1) := by decide +kernel
theorem dX0_isBeforeEnd_13 : decode cX0_isBeforeEnd 13 = .ok (.getfield 17, 3) := by decide +kernel
theorem dX0_isBeforeEnd_16 : decode cX0_isBeforeEnd 16 = .ok (.isub, 1) := by decide +kernel
theorem dX0_isBeforeEnd_17 : decode cX0_isBeforeEnd 17 = .ok (.if_icmp .ge 7, 3) := by decide +kernel
theorem dX0_isBeforeEnd_20 : decode cX0_isBeforeEnd 20 = .ok (.iconst 1, 1) := by decide +kernel
theorem dX0_isBeforeEnd_21 : decode cX0_isBeforeEnd 21 = .ok (.goto 4, 3) := by decide +kernel
theorem dX0_isBeforeEnd_24 : decode cX0_isBeforeEnd 24 = .ok (.iconst 0, 1) := by decide +kernel
theorem dX0_isBeforeEnd_25 : decode cX0_isBeforeEnd 25 = .ok (.ireturn, 1) := by decide +kernel
theorem dX0_moveOn_0 : decode cX0_moveOn 0 = .ok (.iconst 0, 1) := by decide +kernel
theorem dX0_moveOn_1 : decode cX0_moveOn 1 = .ok (.istore_n 1, 1) := by decide +kernel
theorem dX0_moveOn_2 : decode cX0_moveOn 2 = .ok (.iload_n 1, 1) := by decide +kernel
theorem dX0_moveOn_3 : decode cX0_moveOn 3 = .ok (.bipush 64, 2) := by decide +kernel
theorem dX0_moveOn_5 : decode cX0_moveOn 5 = .ok (.if_icmp .ge 50, 3) := by decide +kernel
theorem dX0_moveOn_8 : decode cX0_moveOn 8 = .ok (.aload_n 0, 1) := by decide +kernel
theorem dX0_moveOn_9 : decode cX0_moveOn 9 = .ok (.getfield 13, 3) := by decide +kernel
theorem dX0_moveOn_12 : decode cX0_moveOn 12 = .ok (.lconst 1, 1) := by decide +kernel
theorem dX0_moveOn_13 : decode cX0_moveOn 13 = .ok (.land, 1) := by decide +kernel
theorem dX0_moveOn_14 : decode cX0_moveOn 14 = .ok (.lconst 0, 1) := by decide +kernel
theorem dX0_moveOn_15 : decode cX0_moveOn 15 = .ok (.lcmp, 1) := by decide +kernel
theorem dX0_moveOn_16 : decode cX0_moveOn 16 = .ok (.ifCond .eq 39, 3) := by decide +kernel
theorem dX0_moveOn_19 : decode cX0_moveOn 19 = .ok (.aload_n 0, 1) := by decide +kernel
theorem dX0_moveOn_20 : decode cX0_moveOn 20 = .ok (.dup, 1) := by decide +kernel
theorem dX0_moveOn_21 : decode cX0_moveOn 21 = .ok (.getfield 13, 3) := by decide +kernel
theorem dX0_moveOn_24 : decode cX0_moveOn 24 = .ok (.iconst 1, 1) := by decide +kernel
theorem dX0_moveOn_25 : decode cX0_moveOn 25 = .ok (.lushr, 1) := by decide +kernel
theorem dX0_moveOn_26 : decode cX0_moveOn 26 = .ok (.putfield 13, 3) := by decide +kernel
theorem dX0_moveOn_29 : decode cX0_moveOn 29 = .ok (.aload_n 0, 1) := by decide +kernel
theorem dX0_moveOn_30 : decode cX0_moveOn 30 = .ok (.dup, 1) := by decide +kernel
theorem dX0_moveOn_31 : decode cX0_moveOn 31 = .ok (.getfield 17, 3) := by decide +kernel
theorem dX0_moveOn_34 : decode cX0_moveOn 34 = .ok (.iconst 1, 1) := by decide +kernel
theorem dX0_moveOn_35 : decode cX0_moveOn 35 = .ok (.iadd, 1) := by decide +kernel
theorem dX0_moveOn_36 : decode cX0_moveOn 36 = .ok (.putfield 17, 3) := by decide +kernel
theorem dX0_moveOn_39 : decode cX0_moveOn 39 = .ok (.aload_n 0, 1) := by decide +kernel
theorem dX0_moveOn_40 : decode cX0_moveOn 40 = .ok (.dup, 1) := by decide +kernel
theorem dX0_moveOn_41 : decode cX0_moveOn 41 = .ok (.getfield 21, 3) := by decide +kernel
theorem dX0_moveOn_44 : decode cX0_moveOn 44 = .ok (.iconst 1, 1) := by decide +kernel
theorem dX0_moveOn_45 : decode cX0_moveOn 45 = .ok (.iadd, 1) := by decide +kernel
theorem dX0_moveOn_46 : decode cX0_moveOn 46 = .ok (.putfield 21, 3) := by decide +kernel
theorem dX0_moveOn_49 : decode cX0_moveOn 49 = .ok (.iinc 1 1, 3) := by decide +kernel
theorem dX0_moveOn_52 : decode cX0_moveOn 52 = .ok (.goto (-50), 3) := by decide +kernel
theorem dX0_moveOn_55 : decode cX0_moveOn 55 = .ok (.iload_n 1, 1) := by decide +kernel
theorem dX0_moveOn_56 : decode cX0_moveOn 56 = .ok (.ireturn, 1) := by decide +kernel
theorem dX0_isHeldAhead_0 : decode cX0_isHeldAhead 0 = .ok (.iload_n 1, 1) := by decide +kernel
theorem dX0_isHeldAhead_1 : decode cX0_isHeldAhead 1 = .ok (.ifCond .lt 26, 3) := by decide +kernel
theorem dX0_isHeldAhead_4 : decode cX0_isHeldAhead 4 = .ok (.iload_n 1, 1) := by decide +kernel
theorem dX0_isHeldAhead_5 : decode cX0_isHeldAhead 5 = .ok (.bipush 64, 2) := by decide +kernel
theorem dX0_isHeldAhead_7 : decode cX0_isHeldAhead 7 = .ok (.if_icmp .ge 20, 3) := by decide +kernel
theorem dX0_isHeldAhead_10 : decode cX0_isHeldAhead 10 = .ok (.aload_n 0, 1) := by decide +kernel
theorem dX0_isHeldAhead_11 : decode cX0_isHeldAhead 11 = .ok (.getfield 13, 3) := by decide +kernel
theorem dX0_isHeldAhead_14 : decode cX0_isHeldAhead 14 = .ok (.iload_n 1, 1) := by decide +kernel
theorem dX0_isHeldAhead_15 : decode cX0_isHeldAhead 15 = .ok (.lushr, 1) := by decide +kernel
theorem dX0_isHeldAhead_16 : decode cX0_isHeldAhead 16 = .ok (.lconst 1, 1) := by decide +kernel
theorem dX0_isHeldAhead_17 : decode cX0_isHeldAhead 17 = .ok (.land, 1) := by decide +kernel
theorem dX0_isHeldAhead_18 : decode cX0_isHeldAhead 18 = .ok (.lconst 0, 1) := by decide +kernel
theorem dX0_isHeldAhead_19 : decode cX0_isHeldAhead 19 = .ok (.lcmp, 1) := by decide +kernel
theorem dX0_isHeldAhead_20 : decode cX0_isHeldAhead 20 = .ok (.ifCond .eq 7, 3) := by decide +kernel
theorem dX0_isHeldAhead_23 : decode cX0_isHeldAhead 23 = .ok (.iconst 1, 1) := by decide +kernel
theorem dX0_isHeldAhead_24 : decode cX0_isHeldAhead 24 = .ok (.goto 4, 3) := by decide +kernel
theorem dX0_isHeldAhead_27 : decode cX0_isHeldAhead 27 = .ok (.iconst 0, 1) := by decide +kernel
theorem dX0_isHeldAhead_28 : decode cX0_isHeldAhead 28 = .ok (.ireturn, 1) := by decide +kernel
theorem dX0_isHeldFrom_0 : decode cX0_isHeldFrom 0 = .ok (.iload_n 1, 1) := by decide +kernel
theorem dX0_isHeldFrom_1 : decode cX0_isHeldFrom 1 = .ok (.ifCond .lt 24, 3) := by decide +kernel
theorem dX0_isHeldFrom_4 : decode cX0_isHeldFrom 4 = .ok (.iload_n 1, 1) := by decide +kernel
theorem dX0_isHeldFrom_5 : decode cX0_isHeldFrom 5 = .ok (.bipush 64, 2) := by decide +kernel
theorem dX0_isHeldFrom_7 : decode cX0_isHeldFrom 7 = .ok (.if_icmp .ge 18, 3) := by decide +kernel
theorem dX0_isHeldFrom_10 : decode cX0_isHeldFrom 10 = .ok (.aload_n 0, 1) := by decide +kernel
theorem dX0_isHeldFrom_11 : decode cX0_isHeldFrom 11 = .ok (.getfield 13, 3) := by decide +kernel
theorem dX0_isHeldFrom_14 : decode cX0_isHeldFrom 14 = .ok (.iload_n 1, 1) := by decide +kernel
theorem dX0_isHeldFrom_15 : decode cX0_isHeldFrom 15 = .ok (.lushr, 1) := by decide +kernel
theorem dX0_isHeldFrom_16 : decode cX0_isHeldFrom 16 = .ok (.lconst 0, 1) := by decide +kernel
theorem dX0_isHeldFrom_17 : decode cX0_isHeldFrom 17 = .ok (.lcmp, 1) := by decide +kernel
theorem dX0_isHeldFrom_18 : decode cX0_isHeldFrom 18 = .ok (.ifCond .eq 7, 3) := by decide +kernel
theorem dX0_isHeldFrom_21 : decode cX0_isHeldFrom 21 = .ok (.iconst 1, 1) := by decide +kernel
theorem dX0_isHeldFrom_22 : decode cX0_isHeldFrom 22 = .ok (.goto 4, 3) := by decide +kernel
theorem dX0_isHeldFrom_25 : decode cX0_isHeldFrom 25 = .ok (.iconst 0, 1) := by decide +kernel
theorem dX0_isHeldFrom_26 : decode cX0_isHeldFrom 26 = .ok (.ireturn, 1) := by decide +kernel
theorem dX0_blockStarts_0 : decode cX0_blockStarts 0 = .ok (.aload_n 0, 1) := by decide +kernel
theorem dX0_blockStarts_1 : decode cX0_blockStarts 1 = .ok (.getfield 13, 3) := by decide +kernel
theorem dX0_blockStarts_4 : decode cX0_blockStarts 4 = .ok (.aload_n 0, 1) := by decide +kernel
theorem dX0_blockStarts_5 : decode cX0_blockStarts 5 = .ok (.getfield 13, 3) := by decide +kernel
theorem dX0_blockStarts_8 : decode cX0_blockStarts 8 = .ok (.iconst 1, 1) := by decide +kernel
theorem dX0_blockStarts_9 : decode cX0_blockStarts 9 = .ok (.lshl, 1) := by decide +kernel
theorem dX0_blockStarts_10 : decode cX0_blockStarts 10 = .ok (.ldc2_w 78, 3) := by decide +kernel
theorem dX0_blockStarts_13 : decode cX0_blockStarts 13 = .ok (.lxor, 1) := by decide +kernel
theorem dX0_blockStarts_14 : decode cX0_blockStarts 14 = .ok (.land, 1) := by decide +kernel
theorem dX0_blockStarts_15 : decode cX0_blockStarts 15 = .ok (.lreturn, 1) := by decide +kernel
set_option maxRecDepth 20000 in
theorem ggX0_startOfBlock_X0_blockStarts : GoodIn wsX0_startOfBlock wsX0_blockStarts := goodIn_r _ [5, 6, 7, 8, 9, 10, 11, 12, 13] (by decide +kernel) (by decide +kernel)
set_option maxRecDepth 20000 in
theorem gX0_startOfBlock_X0_blockStarts : GoodIn wsX0_startOfBlock (wsV RX0 59 RX0 yX0_blockStarts wsX0_blockStarts) := goodIn_app (goodIn_of _ (by decide +kernel)) ggX0_startOfBlock_X0_blockStarts
theorem dX0_startOfBlock_0 : decode cX0_startOfBlock 0 = .ok (.aload_n 0, 1) := by decide +kernel
theorem dX0_startOfBlock_1 : decode cX0_startOfBlock 1 = .ok (.invokevirtual 59, 3) := by decide +kernel
theorem dX0_startOfBlock_4 : decode cX0_startOfBlock 4 = .ok (.lstore_n 2, 1) := by decide +kernel
theorem dX0_startOfBlock_5 : decode cX0_startOfBlock 5 = .ok (.iconst 0, 1) := by decide +kernel
theorem dX0_startOfBlock_6 : decode cX0_startOfBlock 6 = .ok (.istore 4, 2) := by decide +kernel
theorem dX0_startOfBlock_8 : decode cX0_startOfBlock 8 = .ok (.iconst 0, 1) := by decide +kernel
theorem dX0_startOfBlock_9 : decode cX0_startOfBlock 9 = .ok (.istore 5, 2) := by decide +kernel
theorem dX0_startOfBlock_11 : decode cX0_startOfBlock 11 = .ok (.iload 5, 2) := by decide +kernel
theorem dX0_startOfBlock_13 : decode cX0_startOfBlock 13 = .ok (.bipush 64, 2) := by decide +kernel
theorem dX0_startOfBlock_15 : decode cX0_startOfBlock 15 = .ok (.if_icmp .ge 32, 3) := by decide +kernel
theorem dX0_startOfBlock_18 : decode cX0_startOfBlock 18 = .ok (.lload_n 2, 1) := by decide +kernel
theorem dX0_startOfBlock_19 : decode cX0_startOfBlock 19 = .ok (.iload 5, 2) := by decide +kernel
theorem dX0_startOfBlock_21 : decode cX0_startOfBlock 21 = .ok (.lushr, 1) := by decide +kernel
theorem dX0_startOfBlock_22 : decode cX0_startOfBlock 22 = .ok (.lconst 1, 1) := by decide +kernel
theorem dX0_startOfBlock_23 : decode cX0_startOfBlock 23 = .ok (.land, 1) := by decide +kernel
theorem dX0_startOfBlock_24 : decode cX0_startOfBlock 24 = .ok (.lconst 0, 1) := by decide +kernel
theorem dX0_startOfBlock_25 : decode cX0_startOfBlock 25 = .ok (.lcmp, 1) := by decide +kernel
theorem dX0_startOfBlock_26 : decode cX0_startOfBlock 26 = .ok (.ifCond .eq 15, 3) := by decide +kernel
theorem dX0_startOfBlock_29 : decode cX0_startOfBlock 29 = .ok (.iload 4, 2) := by decide +kernel
theorem dX0_startOfBlock_31 : decode cX0_startOfBlock 31 = .ok (.iload_n 1, 1) := by decide +kernel
theorem dX0_startOfBlock_32 : decode cX0_startOfBlock 32 = .ok (.if_icmp .ne 6, 3) := by decide +kernel
theorem dX0_startOfBlock_35 : decode cX0_startOfBlock 35 = .ok (.iload 5, 2) := by decide +kernel
theorem dX0_startOfBlock_37 : decode cX0_startOfBlock 37 = .ok (.ireturn, 1) := by decide +kernel
theorem dX0_startOfBlock_38 : decode cX0_startOfBlock 38 = .ok (.iinc 4 1, 3) := by decide +kernel
theorem dX0_startOfBlock_41 : decode cX0_startOfBlock 41 = .ok (.iinc 5 1, 3) := by decide +kernel
theorem dX0_startOfBlock_44 : decode cX0_startOfBlock 44 = .ok (.goto (-33), 3) := by decide +kernel
theorem dX0_startOfBlock_47 : decode cX0_startOfBlock 47 = .ok (.bipush 64, 2) := by decide +kernel
theorem dX0_startOfBlock_49 : decode cX0_startOfBlock 49 = .ok (.ireturn, 1) := by decide +kernel
set_option maxRecDepth 20000 in
theorem ggX0_lengthOfBlock_X0_isHeldAhead : GoodIn wsX0_lengthOfBlock wsX0_isHeldAhead := goodIn_r _ [5, 6, 7, 8, 9, 10, 11, 12] (by decide +kernel) (by decide +kernel)
set_option maxRecDepth 20000 in
theorem gX0_lengthOfBlock_X0_isHeldAhead : GoodIn wsX0_lengthOfBlock (wsV RX0 72 RX0 yX0_isHeldAhead wsX0_isHeldAhead) := goodIn_app (goodIn_of _ (by decide +kernel)) ggX0_lengthOfBlock_X0_isHeldAhead
theorem dX0_lengthOfBlock_0 : decode cX0_lengthOfBlock 0 = .ok (.iconst 0, 1) := by decide +kernel
theorem dX0_lengthOfBlock_1 : decode cX0_lengthOfBlock 1 = .ok (.istore_n 2, 1) := by decide +kernel
theorem dX0_lengthOfBlock_2 : decode cX0_lengthOfBlock 2 = .ok (.iload_n 2, 1) := by decide +kernel
theorem dX0_lengthOfBlock_3 : decode cX0_lengthOfBlock 3 = .ok (.bipush 64, 2) := by decide +kernel
theorem dX0_lengthOfBlock_5 : decode cX0_lengthOfBlock 5 = .ok (.if_icmp .ge 19, 3) := by decide +kernel
theorem dX0_lengthOfBlock_8 : decode cX0_lengthOfBlock 8 = .ok (.aload_n 0, 1) := by decide +kernel
theorem dX0_lengthOfBlock_9 : decode cX0_lengthOfBlock 9 = .ok (.iload_n 1, 1) := by decide +kernel
theorem dX0_lengthOfBlock_10 : decode cX0_lengthOfBlock 10 = .ok (.iload_n 2, 1) := by decide +kernel
theorem dX0_lengthOfBlock_11 : decode cX0_lengthOfBlock 11 = .ok (.iadd, 1) := by decide +kernel
theorem dX0_lengthOfBlock_12 : decode cX0_lengthOfBlock 12 = .ok (.invokevirtual 72, 3) := by decide +kernel
theorem dX0_lengthOfBlock_15 : decode cX0_lengthOfBlock 15 = .ok (.ifCond .eq 9, 3) := by decide +kernel
theorem dX0_lengthOfBlock_18 : decode cX0_lengthOfBlock 18 = .ok (.iinc 2 1, 3) := by decide +kernel
theorem dX0_lengthOfBlock_21 : decode cX0_lengthOfBlock 21 = .ok (.goto (-19), 3) := by decide +kernel
theorem dX0_lengthOfBlock_24 : decode cX0_lengthOfBlock 24 = .ok (.iload_n 2, 1) := by decide +kernel
theorem dX0_lengthOfBlock_25 : decode cX0_lengthOfBlock 25 = .ok (.ireturn, 1) := by decide +kernel
theorem dX1_init_0 : decode cX1_init 0 = .ok (.aload_n 0, 1) := by decide +kernel
theorem dX1_init_1 : decode cX1_init 1 = .ok (.invokespecial 1, 3) := by decide +kernel
theorem dX1_init_4 : decode cX1_init 4 = .ok (.aload_n 0, 1) := by decide +kernel
theorem dX1_init_5 : decode cX1_init 5 = .ok (.bipush 64, 2) := by decide +kernel
theorem dX1_init_7 : decode cX1_init 7 = .ok (.newarray .int, 2) := by decide +kernel
theorem dX1_init_9 : decode cX1_init 9 = .ok (.putfield 9, 3) := by decide +kernel
theorem dX1_init_12 : decode cX1_init 12 = .ok (.aload_n 0, 1) := by decide +kernel
theorem dX1_init_13 : decode cX1_init 13 = .ok (.bipush 64, 2) := by decide +kernel
theorem dX1_init_15 : decode cX1_init 15 = .ok (.newarray .int, 2) := by decide +kernel
theorem dX1_init_17 : decode cX1_init 17 = .ok (.putfield 13, 3) := by decide +kernel
theorem dX1_init_20 : decode cX1_init 20 = .ok (.aload_n 0, 1) := by decide +kernel
theorem dX1_init_21 : decode cX1_init 21 = .ok (.bipush 64, 2) := by decide +kernel
theorem dX1_init_23 : decode cX1_init 23 = .ok (.newarray .boolean, 2) := by decide +kernel
theorem dX1_init_25 : decode cX1_init 25 = .ok (.putfield 16, 3) := by decide +kernel
theorem dX1_init_28 : decode cX1_init 28 = .ok (.return_, 1) := by decide +kernel
theorem dX1_thrown_0 : decode cX1_thrown 0 = .ok (.aload_n 0, 1) := by decide +kernel
theorem dX1_thrown_1 : decode cX1_thrown 1 = .ok (.getfield 20, 3) := by decide +kernel
theorem dX1_thrown_4 : decode cX1_thrown 4 = .ok (.ireturn, 1) := by decide +kernel
theorem dX1_open_0 : decode cX1_open 0 = .ok (.aload_n 0, 1) := by decide +kernel
theorem dX1_open_1 : decode cX1_open 1 = .ok (.iconst 0, 1) := by decide +kernel
theorem dX1_open_2 : decode cX1_open 2 = .ok (.putfield 20, 3) := by decide +kernel
theorem dX1_open_5 : decode cX1_open 5 = .ok (.aload_n 0, 1) := by decide +kernel
theorem dX1_open_6 : decode cX1_open 6 = .ok (.iload_n 1, 1) := by decide +kernel
theorem dX1_open_7 : decode cX1_open 7 = .ok (.putfield 24, 3) := by decide +kernel
theorem dX1_open_10 : decode cX1_open 10 = .ok (.aload_n 0, 1) := by decide +kernel
theorem dX1_open_11 : decode cX1_open 11 = .ok (.iconst 0, 1) := by decide +kernel
theorem dX1_open_12 : decode cX1_open 12 = .ok (.putfield 27, 3) := by decide +kernel
theorem dX1_open_15 : decode cX1_open 15 = .ok (.aload_n 0, 1) := by decide +kernel
theorem dX1_open_16 : decode cX1_open 16 = .ok (.iconst 0, 1) := by decide +kernel
theorem dX1_open_17 : decode cX1_open 17 = .ok (.putfield 30, 3) := by decide +kernel
theorem dX1_open_20 : decode cX1_open 20 = .ok (.iconst 0, 1) := by decide +kernel
theorem dX1_open_21 : decode cX1_open 21 = .ok (.istore_n 2, 1) := by decide +kernel
theorem dX1_open_22 : decode cX1_open 22 = .ok (.iload_n 2, 1) := by decide +kernel
theorem dX1_open_23 : decode cX1_open 23 = .ok (.bipush 64, 2) := by decide +kernel
theorem dX1_open_25 : decode cX1_open 25 = .ok (.if_icmp .ge 16, 3) := by decide +kernel
theorem dX1_open_28 : decode cX1_open 28 = .ok (.aload_n 0, 1) := by decide +kernel
theorem dX1_open_29 : decode cX1_open 29 = .ok (.getfield 16, 3) := by decide +kernel
theorem dX1_open_32 : decode cX1_open 32 = .ok (.iload_n 2, 1) := by decide +kernel
theorem dX1_open_33 : decode cX1_open 33 = .ok (.iconst 0, 1) := by decide +kernel
theorem dX1_open_34 : decode cX1_open 34 = .ok (.bastore, 1) := by decide +kernel
theorem dX1_open_35 : decode cX1_open 35 = .ok (.iinc 2 1, 3) := by decide +kernel
theorem dX1_open_38 : decode cX1_open 38 = .ok (.goto (-16), 3) := by decide +kernel
theorem dX1_open_41 : decode cX1_open 41 = .ok (.return_, 1) := by decide +kernel
theorem dJ13_bitCount_95d88_0 : decode cJ13_bitCount_95d88 0 = .ok (.lload_n 0, 1) := by decide +kernel
theorem dJ13_bitCount_95d88_1 : decode cJ13_bitCount_95d88 1 = .ok (.lload_n 0, 1) := by decide +kernel
theorem dJ13_bitCount_95d88_2 : decode cJ13_bitCount_95d88 2 = .ok (.iconst 1, 1) := by decide +kernel
theorem dJ13_bitCount_95d88_3 : decode cJ13_bitCount_95d88 3 = .ok (.lushr, 1) := by decide +kernel
theorem dJ13_bitCount_95d88_4 : decode cJ13_bitCount_95d88 4 = .ok (.ldc2_w 314, 3) := by decide +kernel
theorem dJ13_bitCount_95d88_7 : decode cJ13_bitCount_95d88 7 = .ok (.land, 1) := by decide +kernel
theorem dJ13_bitCount_95d88_8 : decode cJ13_bitCount_95d88 8 = .ok (.lsub, 1) := by decide +kernel
theorem dJ13_bitCount_95d88_9 : decode cJ13_bitCount_95d88 9 = .ok (.lstore_n 0, 1) := by decide +kernel
theorem dJ13_bitCount_95d88_10 : decode cJ13_bitCount_95d88 10 = .ok (.lload_n 0, 1) := by decide +kernel
theorem dJ13_bitCount_95d88_11 : decode cJ13_bitCount_95d88 11 = .ok (.ldc2_w 316, 3) := by decide +kernel
theorem dJ13_bitCount_95d88_14 : decode cJ13_bitCount_95d88 14 = .ok (.land, 1) := by decide +kernel
theorem dJ13_bitCount_95d88_15 : decode cJ13_bitCount_95d88 15 = .ok (.lload_n 0, 1) := by decide +kernel
theorem dJ13_bitCount_95d88_16 : decode cJ13_bitCount_95d88 16 = .ok (.iconst 2, 1) := by decide +kernel
theorem dJ13_bitCount_95d88_17 : decode cJ13_bitCount_95d88 17 = .ok (.lushr, 1) := by decide +kernel
theorem dJ13_bitCount_95d88_18 : decode cJ13_bitCount_95d88 18 = .ok (.ldc2_w 316, 3) := by decide +kernel
theorem dJ13_bitCount_95d88_21 : decode cJ13_bitCount_95d88 21 = .ok (.land, 1) := by decide +kernel
theorem dJ13_bitCount_95d88_22 : decode cJ13_bitCount_95d88 22 = .ok (.ladd, 1) := by decide +kernel
theorem dJ13_bitCount_95d88_23 : decode cJ13_bitCount_95d88 23 = .ok (.lstore_n 0, 1) := by decide +kernel
theorem dJ13_bitCount_95d88_24 : decode cJ13_bitCount_95d88 24 = .ok (.lload_n 0, 1) := by decide +kernel
theorem dJ13_bitCount_95d88_25 : decode cJ13_bitCount_95d88 25 = .ok (.lload_n 0, 1) := by decide +kernel
theorem dJ13_bitCount_95d88_26 : decode cJ13_bitCount_95d88 26 = .ok (.iconst 4, 1) := by decide +kernel
theorem dJ13_bitCount_95d88_27 : decode cJ13_bitCount_95d88 27 = .ok (.lushr, 1) := by decide +kernel
theorem dJ13_bitCount_95d88_28 : decode cJ13_bitCount_95d88 28 = .ok (.ladd, 1) := by decide +kernel
theorem dJ13_bitCount_95d88_29 : decode cJ13_bitCount_95d88 29 = .ok (.ldc2_w 318, 3) := by decide +kernel
theorem dJ13_bitCount_95d88_32 : decode cJ13_bitCount_95d88 32 = .ok (.land, 1) := by decide +kernel
theorem dJ13_bitCount_95d88_33 : decode cJ13_bitCount_95d88 33 = .ok (.lstore_n 0, 1) := by decide +kernel
theorem dJ13_bitCount_95d88_34 : decode cJ13_bitCount_95d88 34 = .ok (.lload_n 0, 1) := by decide +kernel
theorem dJ13_bitCount_95d88_35 : decode cJ13_bitCount_95d88 35 = .ok (.lload_n 0, 1) := by decide +kernel
theorem dJ13_bitCount_95d88_36 : decode cJ13_bitCount_95d88 36 = .ok (.bipush 8, 2) := by decide +kernel
theorem dJ13_bitCount_95d88_38 : decode cJ13_bitCount_95d88 38 = .ok (.lushr, 1) := by decide +kernel
theorem dJ13_bitCount_95d88_39 : decode cJ13_bitCount_95d88 39 = .ok (.ladd, 1) := by decide +kernel
theorem dJ13_bitCount_95d88_40 : decode cJ13_bitCount_95d88 40 = .ok (.lstore_n 0, 1) := by decide +kernel
theorem dJ13_bitCount_95d88_41 : decode cJ13_bitCount_95d88 41 = .ok (.lload_n 0, 1) := by decide +kernel
theorem dJ13_bitCount_95d88_42 : decode cJ13_bitCount_95d88 42 = .ok (.lload_n 0, 1) := by decide +kernel
theorem dJ13_bitCount_95d88_43 : decode cJ13_bitCount_95d88 43 = .ok (.bipush 16, 2) := by decide +kernel
theorem dJ13_bitCount_95d88_45 : decode cJ13_bitCount_95d88 45 = .ok (.lushr, 1) := by decide +kernel
theorem dJ13_bitCount_95d88_46 : decode cJ13_bitCount_95d88 46 = .ok (.ladd, 1) := by decide +kernel
theorem dJ13_bitCount_95d88_47 : decode cJ13_bitCount_95d88 47 = .ok (.lstore_n 0, 1) := by decide +kernel
theorem dJ13_bitCount_95d88_48 : decode cJ13_bitCount_95d88 48 = .ok (.lload_n 0, 1) := by decide +kernel
theorem dJ13_bitCount_95d88_49 : decode cJ13_bitCount_95d88 49 = .ok (.lload_n 0, 1) := by decide +kernel
theorem dJ13_bitCount_95d88_50 : decode cJ13_bitCount_95d88 50 = .ok (.bipush 32, 2) := by decide +kernel
theorem dJ13_bitCount_95d88_52 : decode cJ13_bitCount_95d88 52 = .ok (.lushr, 1) := by decide +kernel
theorem dJ13_bitCount_95d88_53 : decode cJ13_bitCount_95d88 53 = .ok (.ladd, 1) := by decide +kernel
theorem dJ13_bitCount_95d88_54 : decode cJ13_bitCount_95d88 54 = .ok (.lstore_n 0, 1) := by decide +kernel
theorem dJ13_bitCount_95d88_55 : decode cJ13_bitCount_95d88 55 = .ok (.lload_n 0, 1) := by decide +kernel
theorem dJ13_bitCount_95d88_56 : decode cJ13_bitCount_95d88 56 = .ok (.l2i, 1) := by decide +kernel
theorem dJ13_bitCount_95d88_57 : decode cJ13_bitCount_95d88 57 = .ok (.bipush 127, 2) := by decide +kernel
theorem dJ13_bitCount_95d88_59 : decode cJ13_bitCount_95d88 59 = .ok (.iand, 1) := by decide +kernel
theorem dJ13_bitCount_95d88_60 : decode cJ13_bitCount_95d88 60 = .ok (.ireturn, 1) := by decide +kernel
set_option maxRecDepth 20000 in
theorem ggL_segment_X0_segment : GoodIn wsL_segment wsX0_segment := goodIn_ca (goodIn_r _ [6, 7, 8, 9, 10, 11, 5, 12, 13, 14, 15, 16, 17, 18, 19, 20, 21, 22, 23, 24, 25, 26, 27, 28, 29, 30, 31, 32, 33, 34, 35, 36, 37, 38, 39, 40, 41, 42, 43] (by decide +kernel) (by decide +kernel)) (goodIn_sub (fun _ h => List.mem_cons_of_mem _ (List.mem_append_right _ h)) (by decide +kernel))
set_option maxRecDepth 20000 in
theorem gL_segment_X0_segment : GoodIn wsL_segment (wsV RL 7 RX0 yX0_segment wsX0_segment) := goodIn_app (goodIn_of _ (by decide +kernel)) ggL_segment_X0_segment
theorem dL_segment_0 : decode cL_segment 0 = .ok (.aload 5, 2) := by decide +kernel
theorem dL_segment_2 : decode cL_segment 2 = .ok (.iconst 0, 1) := by decide +kernel
theorem dL_segment_3 : decode cL_segment 3 = .ok (.aload_n 0, 1) := by decide +kernel
theorem dL_segment_4 : decode cL_segment 4 = .ok (.iload_n 1, 1) := by decide +kernel
theorem dL_segment_5 : decode cL_segment 5 = .ok (.lload_n 2, 1) := by decide +kernel
theorem dL_segment_6 : decode cL_segment 6 = .ok (.iload 4, 2) := by decide +kernel
theorem dL_segment_8 : decode cL_segment 8 = .ok (.invokevirtual 7, 3) := by decide +kernel
theorem dL_segment_11 : decode cL_segment 11 = .ok (.i2l, 1) := by decide +kernel
theorem dL_segment_12 : decode cL_segment 12 = .ok (.lastore, 1) := by decide +kernel
theorem dL_segment_13 : decode cL_segment 13 = .ok (.goto 7, 3) := by decide +kernel
theorem dL_segment_16 : decode cL_segment 16 = .ok (.astore 6, 2) := by decide +kernel
theorem dL_segment_18 : decode cL_segment 18 = .ok (.iconst 1, 1) := by decide +kernel
theorem dL_segment_19 : decode cL_segment 19 = .ok (.ireturn, 1) := by decide +kernel
theorem dL_segment_20 : decode cL_segment 20 = .ok (.iconst 0, 1) := by decide +kernel
theorem dL_segment_21 : decode cL_segment 21 = .ok (.ireturn, 1) := by decide +kernel
set_option maxRecDepth 20000 in
theorem ggL_told_X0_told : GoodIn wsL_told wsX0_told := goodIn_ca (goodIn_r _ [6, 7, 8, 9, 10, 11, 12, 13, 14, 15, 5, 16, 17, 18, 19, 20, 21, 22, 23, 24, 25, 26, 27, 28, 29, 30, 31, 32, 33, 34] (by decide +kernel) (by decide +kernel)) (goodIn_sub (fun _ h => List.mem_cons_of_mem _ (List.mem_append_right _ h)) (by decide +kernel))
set_option maxRecDepth 20000 in
theorem gL_told_X0_told : GoodIn wsL_told (wsV RL 15 RX0 yX0_told wsX0_told) := goodIn_app (goodIn_of _ (by decide +kernel)) ggL_told_X0_told
theorem dL_told_0 : decode cL_told 0 = .ok (.aload_n 2, 1) := by decide +kernel
theorem dL_told_1 : decode cL_told 1 = .ok (.iconst 0, 1) := by decide +kernel
theorem dL_told_2 : decode cL_told 2 = .ok (.aload_n 0, 1) := by decide +kernel
theorem dL_told_3 : decode cL_told 3 = .ok (.iload_n 1, 1) := by decide +kernel
theorem dL_told_4 : decode cL_told 4 = .ok (.invokevirtual 15, 3) := by decide +kernel
theorem dL_told_7 : decode cL_told 7 = .ok (.i2l, 1) := by decide +kernel
theorem dL_told_8 : decode cL_told 8 = .ok (.lastore, 1) := by decide +kernel
theorem dL_told_9 : decode cL_told 9 = .ok (.goto 6, 3) := by decide +kernel
theorem dL_told_12 : decode cL_told 12 = .ok (.astore_n 3, 1) := by decide +kernel
theorem dL_told_13 : decode cL_told 13 = .ok (.iconst 1, 1) := by decide +kernel
theorem dL_told_14 : decode cL_told 14 = .ok (.ireturn, 1) := by decide +kernel
theorem dL_told_15 : decode cL_told 15 = .ok (.iconst 0, 1) := by decide +kernel
theorem dL_told_16 : decode cL_told 16 = .ok (.ireturn, 1) := by decide +kernel
set_option maxRecDepth 20000 in
theorem ggL_block_X0_block : GoodIn wsL_block wsX0_block := goodIn_ca (goodIn_r _ [6, 7, 8, 9, 10, 11, 12, 5, 13, 14, 15, 16, 17, 18, 19, 20, 21, 22, 23, 24, 25, 26, 27, 28, 29, 30, 31, 32, 33, 34, 35, 36, 37, 38, 39, 40] (by decide +kernel) (by decide +kernel)) (goodIn_sub (fun _ h => List.mem_cons_of_mem _ (List.mem_append_right _ h)) (by decide +kernel))
set_option maxRecDepth 20000 in
theorem gL_block_X0_block : GoodIn wsL_block (wsV RL 19 RX0 yX0_block wsX0_block) := goodIn_app (goodIn_of _ (by decide +kernel)) ggL_block_X0_block
theorem dL_block_0 : decode cL_block 0 = .ok (.aload_n 3, 1) := by decide +kernel
theorem dL_block_1 : decode cL_block 1 = .ok (.iconst 0, 1) := by decide +kernel
theorem dL_block_2 : decode cL_block 2 = .ok (.aload_n 0, 1) := by decide +kernel
theorem dL_block_3 : decode cL_block 3 = .ok (.iload_n 1, 1) := by decide +kernel
theorem dL_block_4 : decode cL_block 4 = .ok (.iload_n 2, 1) := by decide +kernel
theorem dL_block_5 : decode cL_block 5 = .ok (.invokevirtual 19, 3) := by decide +kernel
theorem dL_block_8 : decode cL_block 8 = .ok (.i2l, 1) := by decide +kernel
theorem dL_block_9 : decode cL_block 9 = .ok (.lastore, 1) := by decide +kernel
theorem dL_block_10 : decode cL_block 10 = .ok (.goto 7, 3) := by decide +kernel
theorem dL_block_13 : decode cL_block 13 = .ok (.astore 4, 2) := by decide +kernel
theorem dL_block_15 : decode cL_block 15 = .ok (.iconst 1, 1) := by decide +kernel
theorem dL_block_16 : decode cL_block 16 = .ok (.ireturn, 1) := by decide +kernel
theorem dL_block_17 : decode cL_block 17 = .ok (.iconst 0, 1) := by decide +kernel
theorem dL_block_18 : decode cL_block 18 = .ok (.ireturn, 1) := by decide +kernel
set_option maxRecDepth 20000 in
theorem ggL_law_X0_init : GoodIn wsL_law wsX0_init := goodIn_r _ [8, 9, 10, 11, 12, 13, 14, 15, 16, 17, 18, 131, 132, 133, 134, 135, 136] (by decide +kernel) (by decide +kernel)
set_option maxRecDepth 20000 in
theorem gL_law_X0_init : GoodIn wsL_law (wsX0_init) := ggL_law_X0_init
set_option maxRecDepth 20000 in
theorem ggL_law_X1_init : GoodIn wsL_law wsX1_init := goodIn_r _ [21, 22, 10, 11, 23, 24, 25, 26, 27, 137, 138, 139, 140, 141, 142, 143, 144] (by decide +kernel) (by decide +kernel)
set_option maxRecDepth 20000 in
theorem gL_law_X1_init : GoodIn wsL_law (wsX1_init) := ggL_law_X1_init
set_option maxRecDepth 20000 in
theorem ggL_law_X0_open : GoodIn wsL_law wsX0_open := goodIn_r _ [31, 14, 15, 16, 17, 18, 131, 132, 133, 134, 135, 136] (by decide +kernel) (by decide +kernel)
set_option maxRecDepth 20000 in
theorem gL_law_X0_open : GoodIn wsL_law (wsV RL 29 RX0 yX0_open wsX0_open) := goodIn_app (goodIn_of _ (by decide +kernel)) ggL_law_X0_open
set_option maxRecDepth 20000 in
theorem ggL_law_X1_open : GoodIn wsL_law wsX1_open := goodIn_r _ [35, 36, 37, 38, 39, 27, 137, 138, 139, 140, 141, 142, 143, 144] (by decide +kernel) (by decide +kernel)
set_option maxRecDepth 20000 in
theorem gL_law_X1_open : GoodIn wsL_law (wsV RL 33 RX1 yX1_open wsX1_open) := goodIn_app (goodIn_of _ (by decide +kernel)) ggL_law_X1_open
set_option maxRecDepth 20000 in
theorem ggL_law_L_segment : GoodIn wsL_law wsL_segment := goodIn_ca (goodIn_r _ [43, 44, 45, 46, 47, 2, 48, 49, 50, 51, 52, 53, 54, 15, 13, 14, 55, 56, 57, 58, 16, 59, 60, 61, 62, 63, 64, 65, 66, 17, 18, 67, 68, 69, 70, 71, 72, 73, 131, 132, 133, 134, 135, 136] (by decide +kernel) (by decide +kernel)) (goodIn_sub (fun _ h => List.mem_append_left _ (List.mem_append_right _ h)) (by decide +kernel))
set_option maxRecDepth 20000 in
theorem gL_law_L_segment : GoodIn wsL_law (va_wsS RL 36 yL_segment wsL_segment) := goodIn_app (goodIn_of _ (by decide +kernel)) ggL_law_L_segment
set_option maxRecDepth 20000 in
theorem ggL_law_X1_thrown : GoodIn wsL_law wsX1_thrown := goodIn_r _ [77, 36, 137, 138, 139, 140, 141, 142, 143, 144] (by decide +kernel) (by decide +kernel)
set_option maxRecDepth 20000 in
theorem gL_law_X1_thrown : GoodIn wsL_law (wsV RL 42 RX1 yX1_thrown wsX1_thrown) := goodIn_app (goodIn_of _ (by decide +kernel)) ggL_law_X1_thrown
set_option maxRecDepth 20000 in
theorem ggL_law_X0_end : GoodIn wsL_law wsX0_end := goodIn_r _ [81, 15, 17, 18, 55, 56, 57, 2, 58, 16, 82, 83, 84, 85, 14, 131, 132, 133, 134, 135, 136] (by decide +kernel) (by decide +kernel)
set_option maxRecDepth 20000 in
theorem gL_law_X0_end : GoodIn wsL_law (wsV RL 46 RX0 yX0_end wsX0_end) := goodIn_app (goodIn_of _ (by decide +kernel)) ggL_law_X0_end
set_option maxRecDepth 20000 in
theorem ggL_law_X0_read : GoodIn wsL_law wsX0_read := goodIn_r _ [89, 16, 17, 15, 18, 13, 67, 68, 2, 69, 131, 132, 133, 134, 135, 136] (by decide +kernel) (by decide +kernel)
set_option maxRecDepth 20000 in
theorem gL_law_X0_read : GoodIn wsL_law (wsV RL 51 RX0 yX0_read wsX0_read) := goodIn_app (goodIn_of _ (by decide +kernel)) ggL_law_X0_read
set_option maxRecDepth 20000 in
theorem ggL_law_L_told : GoodIn wsL_law wsL_told := goodIn_ca (goodIn_r _ [92, 44, 93, 94, 95, 2, 96, 49, 50, 15, 16, 14, 17, 55, 56, 57, 58, 97, 98, 99, 100, 101, 102, 103, 104, 105, 106, 107, 108, 131, 132, 133, 134, 135, 136] (by decide +kernel) (by decide +kernel)) (goodIn_sub (fun _ h => List.mem_append_left _ (List.mem_append_right _ h)) (by decide +kernel))
set_option maxRecDepth 20000 in
theorem gL_law_L_told : GoodIn wsL_law (va_wsS RL 55 yL_told wsL_told) := goodIn_app (goodIn_of _ (by decide +kernel)) ggL_law_L_told
set_option maxRecDepth 20000 in
theorem ggL_law_L_block : GoodIn wsL_law wsL_block := goodIn_ca (goodIn_r _ [111, 112, 113, 114, 115, 2, 116, 117, 118, 15, 104, 105, 106, 107, 14, 108, 97, 98, 99, 100, 101, 102, 103, 119, 120, 121, 122, 123, 124, 125, 126, 59, 60, 61, 62, 131, 132, 133, 134, 135, 136] (by decide +kernel) (by decide +kernel)) (goodIn_sub (fun _ h => List.mem_append_right _ h) (by decide +kernel))
set_option maxRecDepth 20000 in
theorem gL_law_L_block : GoodIn wsL_law (va_wsS RL 59 yL_block wsL_block) := goodIn_app (goodIn_of _ (by decide +kernel)) ggL_law_L_block
set_option maxRecDepth 20000 in
theorem ggL_law_X0_held : GoodIn wsL_law wsX0_held := goodIn_r _ [130, 15, 59, 60, 61, 2, 62, 14, 131, 132, 133, 134, 135, 136] (by decide +kernel) (by decide +kernel)
set_option maxRecDepth 20000 in
theorem gL_law_X0_held : GoodIn wsL_law (wsV RL 63 RX0 yX0_held wsX0_held) := goodIn_app (goodIn_of _ (by decide +kernel)) ggL_law_X0_held
theorem dL_law_0 : decode cL_law 0 = .ok (.new 8, 3) := by decide +kernel
theorem dL_law_3 : decode cL_law 3 = .ok (.dup, 1) := by decide +kernel
theorem dL_law_4 : decode cL_law 4 = .ok (.invokespecial 25, 3) := by decide +kernel
theorem dL_law_7 : decode cL_law 7 = .ok (.astore_n 1, 1) := by decide +kernel
theorem dL_law_8 : decode cL_law 8 = .ok (.new 26, 3) := by decide +kernel
theorem dL_law_11 : decode cL_law 11 = .ok (.dup, 1) := by decide +kernel
theorem dL_law_12 : decode cL_law 12 = .ok (.invokespecial 28, 3) := by decide +kernel
theorem dL_law_15 : decode cL_law 15 = .ok (.astore_n 2, 1) := by decide +kernel
theorem dL_law_16 : decode cL_law 16 = .ok (.iconst 1, 1) := by decide +kernel
theorem dL_law_17 : decode cL_law 17 = .ok (.newarray .long, 2) := by decide +kernel
theorem dL_law_19 : decode cL_law 19 = .ok (.astore_n 3, 1) := by decide +kernel
theorem dL_law_20 : decode cL_law 20 = .ok (.iconst 0, 1) := by decide +kernel
theorem dL_law_21 : decode cL_law 21 = .ok (.istore 4, 2) := by decide +kernel
theorem dL_law_23 : decode cL_law 23 = .ok (.iload 4, 2) := by decide +kernel
theorem dL_law_25 : decode cL_law 25 = .ok (.aload_n 0, 1) := by decide +kernel
theorem dL_law_26 : decode cL_law 26 = .ok (.arraylength, 1) := by decide +kernel
theorem dL_law_27 : decode cL_law 27 = .ok (.iconst 5, 1) := by decide +kernel
theorem dL_law_28 : decode cL_law 28 = .ok (.isub, 1) := by decide +kernel
theorem dL_law_29 : decode cL_law 29 = .ok (.if_icmp .gt 395, 3) := by decide +kernel
theorem dL_law_32 : decode cL_law 32 = .ok (.aload_n 0, 1) := by decide +kernel
theorem dL_law_33 : decode cL_law 33 = .ok (.iload 4, 2) := by decide +kernel
theorem dL_law_35 : decode cL_law 35 = .ok (.iaload, 1) := by decide +kernel
theorem dL_law_36 : decode cL_law 36 = .ok (.bipush 7, 2) := by decide +kernel
theorem dL_law_38 : decode cL_law 38 = .ok (.iand, 1) := by decide +kernel
theorem dL_law_39 : decode cL_law 39 = .ok (.tableswitch 379 0 6 #[41, 64, 176, 201, 214, 270, 354], 41) := by decide +kernel
theorem dL_law_80 : decode cL_law 80 = .ok (.aload_n 1, 1) := by decide +kernel
theorem dL_law_81 : decode cL_law 81 = .ok (.aload_n 0, 1) := by decide +kernel
theorem dL_law_82 : decode cL_law 82 = .ok (.iload 4, 2) := by decide +kernel
theorem dL_law_84 : decode cL_law 84 = .ok (.iconst 1, 1) := by decide +kernel
theorem dL_law_85 : decode cL_law 85 = .ok (.iadd, 1) := by decide +kernel
theorem dL_law_86 : decode cL_law 86 = .ok (.iaload, 1) := by decide +kernel
theorem dL_law_87 : decode cL_law 87 = .ok (.invokevirtual 29, 3) := by decide +kernel
theorem dL_law_90 : decode cL_law 90 = .ok (.aload_n 2, 1) := by decide +kernel
theorem dL_law_91 : decode cL_law 91 = .ok (.aload_n 0, 1) := by decide +kernel
theorem dL_law_92 : decode cL_law 92 = .ok (.iload 4, 2) := by decide +kernel
theorem dL_law_94 : decode cL_law 94 = .ok (.iconst 1, 1) := by decide +kernel
theorem dL_law_95 : decode cL_law 95 = .ok (.iadd, 1) := by decide +kernel
theorem dL_law_96 : decode cL_law 96 = .ok (.iaload, 1) := by decide +kernel
theorem dL_law_97 : decode cL_law 97 = .ok (.invokevirtual 33, 3) := by decide +kernel
theorem dL_law_100 : decode cL_law 100 = .ok (.goto 318, 3) := by decide +kernel
theorem dL_law_103 : decode cL_law 103 = .ok (.aload_n 1, 1) := by decide +kernel
theorem dL_law_104 : decode cL_law 104 = .ok (.aload_n 0, 1) := by decide +kernel
theorem dL_law_105 : decode cL_law 105 = .ok (.iload 4, 2) := by decide +kernel
theorem dL_law_107 : decode cL_law 107 = .ok (.iconst 1, 1) := by decide +kernel
theorem dL_law_108 : decode cL_law 108 = .ok (.iadd, 1) := by decide +kernel
theorem dL_law_109 : decode cL_law 109 = .ok (.iaload, 1) := by decide +kernel
theorem dL_law_110 : decode cL_law 110 = .ok (.aload_n 0, 1) := by decide +kernel
theorem dL_law_111 : decode cL_law 111 = .ok (.iload 4, 2) := by decide +kernel
theorem dL_law_113 : decode cL_law 113 = .ok (.iconst 2, 1) := by decide +kernel
theorem dL_law_114 : decode cL_law 114 = .ok (.iadd, 1) := by decide +kernel
theorem dL_law_115 : decode cL_law 115 = .ok (.iaload, 1) := by decide +kernel
theorem dL_law_116 : decode cL_law 116 = .ok (.i2l, 1) := by decide +kernel
theorem dL_law_117 : decode cL_law 117 = .ok (.bipush 32, 2) := by decide +kernel
theorem dL_law_119 : decode cL_law 119 = .ok (.lshl, 1) := by decide +kernel
theorem dL_law_120 : decode cL_law 120 = .ok (.aload_n 0, 1) := by decide +kernel
theorem dL_law_121 : decode cL_law 121 = .ok (.iload 4, 2) := by decide +kernel
theorem dL_law_123 : decode cL_law 123 = .ok (.iconst 3, 1) := by decide +kernel
theorem dL_law_124 : decode cL_law 124 = .ok (.iadd, 1) := by decide +kernel
theorem dL_law_125 : decode cL_law 125 = .ok (.iaload, 1) := by decide +kernel
theorem dL_law_126 : decode cL_law 126 = .ok (.i2l, 1) := by decide +kernel
theorem dL_law_127 : decode cL_law 127 = .ok (.ldc2_w 34, 3) := by decide +kernel
theorem dL_law_130 : decode cL_law 130 = .ok (.land, 1) := by decide +kernel
theorem dL_law_131 : decode cL_law 131 = .ok (.lor, 1) := by decide +kernel
theorem dL_law_132 : decode cL_law 132 = .ok (.aload_n 0, 1) := by decide +kernel
theorem dL_law_133 : decode cL_law 133 = .ok (.iload 4, 2) := by decide +kernel
theorem dL_law_135 : decode cL_law 135 = .ok (.iconst 4, 1) := by decide +kernel
theorem dL_law_136 : decode cL_law 136 = .ok (.iadd, 1) := by decide +kernel
theorem dL_law_137 : decode cL_law 137 = .ok (.iaload, 1) := by decide +kernel
theorem dL_law_138 : decode cL_law 138 = .ok (.aload_n 3, 1) := by decide +kernel
theorem dL_law_139 : decode cL_law 139 = .ok (.invokestatic 36, 3) := by decide +kernel
theorem dL_law_142 : decode cL_law 142 = .ok (.istore 5, 2) := by decide +kernel
theorem dL_law_144 : decode cL_law 144 = .ok (.aload_n 2, 1) := by decide +kernel
theorem dL_law_145 : decode cL_law 145 = .ok (.aload_n 0, 1) := by decide +kernel
theorem dL_law_146 : decode cL_law 146 = .ok (.iload 4, 2) := by decide +kernel
theorem dL_law_148 : decode cL_law 148 = .ok (.iconst 1, 1) := by decide +kernel
theorem dL_law_149 : decode cL_law 149 = .ok (.iadd, 1) := by decide +kernel
theorem dL_law_150 : decode cL_law 150 = .ok (.iaload, 1) := by decide +kernel
theorem dL_law_151 : decode cL_law 151 = .ok (.aload_n 0, 1) := by decide +kernel
theorem dL_law_152 : decode cL_law 152 = .ok (.iload 4, 2) := by decide +kernel
theorem dL_law_154 : decode cL_law 154 = .ok (.iconst 2, 1) := by decide +kernel
theorem dL_law_155 : decode cL_law 155 = .ok (.iadd, 1) := by decide +kernel
theorem dL_law_156 : decode cL_law 156 = .ok (.iaload, 1) := by decide +kernel
theorem dL_law_157 : decode cL_law 157 = .ok (.i2l, 1) := by decide +kernel
theorem dL_law_158 : decode cL_law 158 = .ok (.bipush 32, 2) := by decide +kernel
theorem dL_law_160 : decode cL_law 160 = .ok (.lshl, 1) := by decide +kernel
theorem dL_law_161 : decode cL_law 161 = .ok (.aload_n 0, 1) := by decide +kernel
theorem dL_law_162 : decode cL_law 162 = .ok (.iload 4, 2) := by decide +kernel
theorem dL_law_164 : decode cL_law 164 = .ok (.iconst 3, 1) := by decide +kernel
theorem dL_law_165 : decode cL_law 165 = .ok (.iadd, 1) := by decide +kernel
theorem dL_law_166 : decode cL_law 166 = .ok (.iaload, 1) := by decide +kernel
theorem dL_law_167 : decode cL_law 167 = .ok (.i2l, 1) := by decide +kernel
theorem dL_law_168 : decode cL_law 168 = .ok (.ldc2_w 34, 3) := by decide +kernel
theorem dL_law_171 : decode cL_law 171 = .ok (.land, 1) := by decide +kernel
theorem dL_law_172 : decode cL_law 172 = .ok (.lor, 1) := by decide +kernel
theorem dL_law_173 : decode cL_law 173 = .ok (.aload_n 0, 1) := by decide +kernel
theorem dL_law_174 : decode cL_law 174 = .ok (.iload 4, 2) := by decide +kernel
theorem dL_law_176 : decode cL_law 176 = .ok (.iconst 4, 1) := by decide +kernel
theorem dL_law_177 : decode cL_law 177 = .ok (.iadd, 1) := by decide +kernel
theorem dL_law_178 : decode cL_law 178 = .ok (.iaload, 1) := by decide +kernel
theorem dL_law_179 : decode cL_law 179 = .ok (.invokevirtual 41, 3) := by decide +kernel
theorem dL_law_182 : decode cL_law 182 = .ok (.istore 6, 2) := by decide +kernel
theorem dL_law_184 : decode cL_law 184 = .ok (.aload_n 2, 1) := by decide +kernel
theorem dL_law_185 : decode cL_law 185 = .ok (.invokevirtual 42, 3) := by decide +kernel
theorem dL_law_188 : decode cL_law 188 = .ok (.iload 5, 2) := by decide +kernel
theorem dL_law_190 : decode cL_law 190 = .ok (.if_icmp .eq 5, 3) := by decide +kernel
theorem dL_law_193 : decode cL_law 193 = .ok (.iconst 0, 1) := by decide +kernel
theorem dL_law_194 : decode cL_law 194 = .ok (.ireturn, 1) := by decide +kernel
theorem dL_law_195 : decode cL_law 195 = .ok (.iload 5, 2) := by decide +kernel
theorem dL_law_197 : decode cL_law 197 = .ok (.ifCond .ne 15, 3) := by decide +kernel
theorem dL_law_200 : decode cL_law 200 = .ok (.aload_n 3, 1) := by decide +kernel
theorem dL_law_201 : decode cL_law 201 = .ok (.iconst 0, 1) := by decide +kernel
theorem dL_law_202 : decode cL_law 202 = .ok (.laload, 1) := by decide +kernel
theorem dL_law_203 : decode cL_law 203 = .ok (.iload 6, 2) := by decide +kernel
theorem dL_law_205 : decode cL_law 205 = .ok (.i2l, 1) := by decide +kernel
theorem dL_law_206 : decode cL_law 206 = .ok (.lcmp, 1) := by decide +kernel
theorem dL_law_207 : decode cL_law 207 = .ok (.ifCond .eq 5, 3) := by decide +kernel
theorem dL_law_210 : decode cL_law 210 = .ok (.iconst 0, 1) := by decide +kernel
theorem dL_law_211 : decode cL_law 211 = .ok (.ireturn, 1) := by decide +kernel
theorem dL_law_212 : decode cL_law 212 = .ok (.goto 206, 3) := by decide +kernel
theorem dL_law_215 : decode cL_law 215 = .ok (.aload_n 1, 1) := by decide +kernel
theorem dL_law_216 : decode cL_law 216 = .ok (.aload_n 0, 1) := by decide +kernel
theorem dL_law_217 : decode cL_law 217 = .ok (.iload 4, 2) := by decide +kernel
theorem dL_law_219 : decode cL_law 219 = .ok (.iconst 1, 1) := by decide +kernel
theorem dL_law_220 : decode cL_law 220 = .ok (.iadd, 1) := by decide +kernel
theorem dL_law_221 : decode cL_law 221 = .ok (.iaload, 1) := by decide +kernel
theorem dL_law_222 : decode cL_law 222 = .ok (.invokevirtual 46, 3) := by decide +kernel
theorem dL_law_225 : decode cL_law 225 = .ok (.aload_n 2, 1) := by decide +kernel
theorem dL_law_226 : decode cL_law 226 = .ok (.aload_n 0, 1) := by decide +kernel
theorem dL_law_227 : decode cL_law 227 = .ok (.iload 4, 2) := by decide +kernel
theorem dL_law_229 : decode cL_law 229 = .ok (.iconst 1, 1) := by decide +kernel
theorem dL_law_230 : decode cL_law 230 = .ok (.iadd, 1) := by decide +kernel
theorem dL_law_231 : decode cL_law 231 = .ok (.iaload, 1) := by decide +kernel
theorem dL_law_232 : decode cL_law 232 = .ok (.invokevirtual 50, 3) := by decide +kernel
theorem dL_law_235 : decode cL_law 235 = .ok (.if_icmp .eq 183, 3) := by decide +kernel
theorem dL_law_238 : decode cL_law 238 = .ok (.iconst 0, 1) := by decide +kernel
theorem dL_law_239 : decode cL_law 239 = .ok (.ireturn, 1) := by decide +kernel
theorem dL_law_240 : decode cL_law 240 = .ok (.aload_n 1, 1) := by decide +kernel
theorem dL_law_241 : decode cL_law 241 = .ok (.invokevirtual 51, 3) := by decide +kernel
theorem dL_law_244 : decode cL_law 244 = .ok (.aload_n 2, 1) := by decide +kernel
theorem dL_law_245 : decode cL_law 245 = .ok (.invokevirtual 54, 3) := by decide +kernel
theorem dL_law_248 : decode cL_law 248 = .ok (.if_icmp .eq 170, 3) := by decide +kernel
theorem dL_law_251 : decode cL_law 251 = .ok (.iconst 0, 1) := by decide +kernel
theorem dL_law_252 : decode cL_law 252 = .ok (.ireturn, 1) := by decide +kernel
theorem dL_law_253 : decode cL_law 253 = .ok (.aload_n 1, 1) := by decide +kernel
theorem dL_law_254 : decode cL_law 254 = .ok (.aload_n 0, 1) := by decide +kernel
theorem dL_law_255 : decode cL_law 255 = .ok (.iload 4, 2) := by decide +kernel
theorem dL_law_257 : decode cL_law 257 = .ok (.iconst 1, 1) := by decide +kernel
theorem dL_law_258 : decode cL_law 258 = .ok (.iadd, 1) := by decide +kernel
theorem dL_law_259 : decode cL_law 259 = .ok (.iaload, 1) := by decide +kernel
theorem dL_law_260 : decode cL_law 260 = .ok (.aload_n 3, 1) := by decide +kernel
theorem dL_law_261 : decode cL_law 261 = .ok (.invokestatic 55, 3) := by decide +kernel
theorem dL_law_264 : decode cL_law 264 = .ok (.istore 5, 2) := by decide +kernel
theorem dL_law_266 : decode cL_law 266 = .ok (.aload_n 2, 1) := by decide +kernel
theorem dL_law_267 : decode cL_law 267 = .ok (.aload_n 0, 1) := by decide +kernel
theorem dL_law_268 : decode cL_law 268 = .ok (.iload 4, 2) := by decide +kernel
theorem dL_law_270 : decode cL_law 270 = .ok (.iconst 1, 1) := by decide +kernel
theorem dL_law_271 : decode cL_law 271 = .ok (.iadd, 1) := by decide +kernel
theorem dL_law_272 : decode cL_law 272 = .ok (.iaload, 1) := by decide +kernel
theorem dL_law_273 : decode cL_law 273 = .ok (.invokevirtual 58, 3) := by decide +kernel
theorem dL_law_276 : decode cL_law 276 = .ok (.istore 6, 2) := by decide +kernel
theorem dL_law_278 : decode cL_law 278 = .ok (.aload_n 2, 1) := by decide +kernel
theorem dL_law_279 : decode cL_law 279 = .ok (.invokevirtual 42, 3) := by decide +kernel
theorem dL_law_282 : decode cL_law 282 = .ok (.iload 5, 2) := by decide +kernel
theorem dL_law_284 : decode cL_law 284 = .ok (.if_icmp .eq 5, 3) := by decide +kernel
theorem dL_law_287 : decode cL_law 287 = .ok (.iconst 0, 1) := by decide +kernel
theorem dL_law_288 : decode cL_law 288 = .ok (.ireturn, 1) := by decide +kernel
theorem dL_law_289 : decode cL_law 289 = .ok (.iload 5, 2) := by decide +kernel
theorem dL_law_291 : decode cL_law 291 = .ok (.ifCond .ne 15, 3) := by decide +kernel
theorem dL_law_294 : decode cL_law 294 = .ok (.aload_n 3, 1) := by decide +kernel
theorem dL_law_295 : decode cL_law 295 = .ok (.iconst 0, 1) := by decide +kernel
theorem dL_law_296 : decode cL_law 296 = .ok (.laload, 1) := by decide +kernel
theorem dL_law_297 : decode cL_law 297 = .ok (.iload 6, 2) := by decide +kernel
theorem dL_law_299 : decode cL_law 299 = .ok (.i2l, 1) := by decide +kernel
theorem dL_law_300 : decode cL_law 300 = .ok (.lcmp, 1) := by decide +kernel
theorem dL_law_301 : decode cL_law 301 = .ok (.ifCond .eq 5, 3) := by decide +kernel
theorem dL_law_304 : decode cL_law 304 = .ok (.iconst 0, 1) := by decide +kernel
theorem dL_law_305 : decode cL_law 305 = .ok (.ireturn, 1) := by decide +kernel
theorem dL_law_306 : decode cL_law 306 = .ok (.goto 112, 3) := by decide +kernel
theorem dL_law_309 : decode cL_law 309 = .ok (.aload_n 1, 1) := by decide +kernel
theorem dL_law_310 : decode cL_law 310 = .ok (.aload_n 0, 1) := by decide +kernel
theorem dL_law_311 : decode cL_law 311 = .ok (.iload 4, 2) := by decide +kernel
theorem dL_law_313 : decode cL_law 313 = .ok (.iconst 1, 1) := by decide +kernel
theorem dL_law_314 : decode cL_law 314 = .ok (.iadd, 1) := by decide +kernel
theorem dL_law_315 : decode cL_law 315 = .ok (.iaload, 1) := by decide +kernel
theorem dL_law_316 : decode cL_law 316 = .ok (.aload_n 0, 1) := by decide +kernel
theorem dL_law_317 : decode cL_law 317 = .ok (.iload 4, 2) := by decide +kernel
theorem dL_law_319 : decode cL_law 319 = .ok (.iconst 2, 1) := by decide +kernel
theorem dL_law_320 : decode cL_law 320 = .ok (.iadd, 1) := by decide +kernel
theorem dL_law_321 : decode cL_law 321 = .ok (.iaload, 1) := by decide +kernel
theorem dL_law_322 : decode cL_law 322 = .ok (.ifCond .eq 7, 3) := by decide +kernel
theorem dL_law_325 : decode cL_law 325 = .ok (.iconst 1, 1) := by decide +kernel
theorem dL_law_326 : decode cL_law 326 = .ok (.goto 4, 3) := by decide +kernel
theorem dL_law_329 : decode cL_law 329 = .ok (.iconst 0, 1) := by decide +kernel
theorem dL_law_330 : decode cL_law 330 = .ok (.aload_n 3, 1) := by decide +kernel
theorem dL_law_331 : decode cL_law 331 = .ok (.invokestatic 59, 3) := by decide +kernel
theorem dL_law_334 : decode cL_law 334 = .ok (.istore 5, 2) := by decide +kernel
theorem dL_law_336 : decode cL_law 336 = .ok (.aload_n 2, 1) := by decide +kernel
theorem dL_law_337 : decode cL_law 337 = .ok (.aload_n 0, 1) := by decide +kernel
theorem dL_law_338 : decode cL_law 338 = .ok (.iload 4, 2) := by decide +kernel
theorem dL_law_340 : decode cL_law 340 = .ok (.iconst 1, 1) := by decide +kernel
theorem dL_law_341 : decode cL_law 341 = .ok (.iadd, 1) := by decide +kernel
theorem dL_law_342 : decode cL_law 342 = .ok (.iaload, 1) := by decide +kernel
theorem dL_law_343 : decode cL_law 343 = .ok (.aload_n 0, 1) := by decide +kernel
theorem dL_law_344 : decode cL_law 344 = .ok (.iload 4, 2) := by decide +kernel
theorem dL_law_346 : decode cL_law 346 = .ok (.iconst 2, 1) := by decide +kernel
theorem dL_law_347 : decode cL_law 347 = .ok (.iadd, 1) := by decide +kernel
theorem dL_law_348 : decode cL_law 348 = .ok (.iaload, 1) := by decide +kernel
theorem dL_law_349 : decode cL_law 349 = .ok (.ifCond .eq 7, 3) := by decide +kernel
theorem dL_law_352 : decode cL_law 352 = .ok (.iconst 1, 1) := by decide +kernel
theorem dL_law_353 : decode cL_law 353 = .ok (.goto 4, 3) := by decide +kernel
theorem dL_law_356 : decode cL_law 356 = .ok (.iconst 0, 1) := by decide +kernel
theorem dL_law_357 : decode cL_law 357 = .ok (.invokevirtual 62, 3) := by decide +kernel
theorem dL_law_360 : decode cL_law 360 = .ok (.istore 6, 2) := by decide +kernel
theorem dL_law_362 : decode cL_law 362 = .ok (.aload_n 2, 1) := by decide +kernel
theorem dL_law_363 : decode cL_law 363 = .ok (.invokevirtual 42, 3) := by decide +kernel
theorem dL_law_366 : decode cL_law 366 = .ok (.iload 5, 2) := by decide +kernel
theorem dL_law_368 : decode cL_law 368 = .ok (.if_icmp .eq 5, 3) := by decide +kernel
theorem dL_law_371 : decode cL_law 371 = .ok (.iconst 0, 1) := by decide +kernel
theorem dL_law_372 : decode cL_law 372 = .ok (.ireturn, 1) := by decide +kernel
theorem dL_law_373 : decode cL_law 373 = .ok (.iload 5, 2) := by decide +kernel
theorem dL_law_375 : decode cL_law 375 = .ok (.ifCond .ne 15, 3) := by decide +kernel
theorem dL_law_378 : decode cL_law 378 = .ok (.aload_n 3, 1) := by decide +kernel
theorem dL_law_379 : decode cL_law 379 = .ok (.iconst 0, 1) := by decide +kernel
theorem dL_law_380 : decode cL_law 380 = .ok (.laload, 1) := by decide +kernel
theorem dL_law_381 : decode cL_law 381 = .ok (.iload 6, 2) := by decide +kernel
theorem dL_law_383 : decode cL_law 383 = .ok (.i2l, 1) := by decide +kernel
theorem dL_law_384 : decode cL_law 384 = .ok (.lcmp, 1) := by decide +kernel
theorem dL_law_385 : decode cL_law 385 = .ok (.ifCond .eq 5, 3) := by decide +kernel
theorem dL_law_388 : decode cL_law 388 = .ok (.iconst 0, 1) := by decide +kernel
theorem dL_law_389 : decode cL_law 389 = .ok (.ireturn, 1) := by decide +kernel
theorem dL_law_390 : decode cL_law 390 = .ok (.goto 28, 3) := by decide +kernel
theorem dL_law_393 : decode cL_law 393 = .ok (.aload_n 1, 1) := by decide +kernel
theorem dL_law_394 : decode cL_law 394 = .ok (.aload_n 0, 1) := by decide +kernel
theorem dL_law_395 : decode cL_law 395 = .ok (.iload 4, 2) := by decide +kernel
theorem dL_law_397 : decode cL_law 397 = .ok (.iconst 1, 1) := by decide +kernel
theorem dL_law_398 : decode cL_law 398 = .ok (.iadd, 1) := by decide +kernel
theorem dL_law_399 : decode cL_law 399 = .ok (.iaload, 1) := by decide +kernel
theorem dL_law_400 : decode cL_law 400 = .ok (.invokevirtual 63, 3) := by decide +kernel
theorem dL_law_403 : decode cL_law 403 = .ok (.aload_n 2, 1) := by decide +kernel
theorem dL_law_404 : decode cL_law 404 = .ok (.aload_n 0, 1) := by decide +kernel
theorem dL_law_405 : decode cL_law 405 = .ok (.iload 4, 2) := by decide +kernel
theorem dL_law_407 : decode cL_law 407 = .ok (.iconst 1, 1) := by decide +kernel
theorem dL_law_408 : decode cL_law 408 = .ok (.iadd, 1) := by decide +kernel
theorem dL_law_409 : decode cL_law 409 = .ok (.iaload, 1) := by decide +kernel
theorem dL_law_410 : decode cL_law 410 = .ok (.invokevirtual 66, 3) := by decide +kernel
theorem dL_law_413 : decode cL_law 413 = .ok (.if_icmp .eq 5, 3) := by decide +kernel
theorem dL_law_416 : decode cL_law 416 = .ok (.iconst 0, 1) := by decide +kernel
theorem dL_law_417 : decode cL_law 417 = .ok (.ireturn, 1) := by decide +kernel
theorem dL_law_418 : decode cL_law 418 = .ok (.iinc 4 5, 3) := by decide +kernel
theorem dL_law_421 : decode cL_law 421 = .ok (.goto (-398), 3) := by decide +kernel
theorem dL_law_424 : decode cL_law 424 = .ok (.iconst 1, 1) := by decide +kernel
theorem dL_law_425 : decode cL_law 425 = .ok (.ireturn, 1) := by decide +kernel
abbrev vwCl : List vw_C := [(RX0, TX0, 6), (RX1, TX1, 8)]
