/-! ===== BEGIN printed: names, fields, word lists, decode rows ===== -/
def RX0 : String := "Triggerwright$Capture"
def TX0 : u_T := fun k => match k with
  | 0 => ("Triggerwright$Capture", "values", "[[I", true)
  | 1 => ("Triggerwright$Capture", "triggerSample", "I", false)
  | 2 => ("Triggerwright$Capture", "wanted", "I", false)
  | _ => ("Triggerwright$Capture", "taken", "I", false)
def tyX0 : Nat → FieldType := fun k => match k with
  | 0 => .array (.array .int)
  | 1 => .int
  | 2 => .int
  | _ => .int
set_option maxRecDepth 100000 in
theorem nmX0 : ∀ a, a < 4 → ∀ b, b < 4 → a ≠ b → (TX0 a).2.1 ≠ (TX0 b).2.1 := by decide +kernel
theorem tyX0_ok : ∀ k, k < 4 → parseFieldDescriptor (TX0 k).2.2.1 = some (tyX0 k) := by decide +kernel
abbrev cX0_init : ByteArray := prog_2_method_1_code
def yX0_init : MethodName := ⟨RX0, "<init>", "()V"⟩
abbrev cX0_begin : ByteArray := prog_2_method_2_code
def yX0_begin : MethodName := ⟨RX0, "begin", "(II)V"⟩
abbrev cX0_add : ByteArray := prog_2_method_3_code
def yX0_add : MethodName := ⟨RX0, "add", "(II)V"⟩
abbrev cX0_isFull : ByteArray := prog_2_method_4_code
def yX0_isFull : MethodName := ⟨RX0, "isFull", "()Z"⟩
abbrev cX0_at : ByteArray := prog_2_method_5_code
def yX0_at : MethodName := ⟨RX0, "at", "(II)I"⟩
def RX1 : String := "Triggerwright$Condition"
def TX1 : u_T := fun k => match k with
  | _ => ("", "", "", false)
def tyX1 : Nat → FieldType := fun k => match k with
  | _ => .int
set_option maxRecDepth 100000 in
theorem nmX1 : ∀ a, a < 0 → ∀ b, b < 0 → a ≠ b → (TX1 a).2.1 ≠ (TX1 b).2.1 := by decide +kernel
theorem tyX1_ok : ∀ k, k < 0 → parseFieldDescriptor (TX1 k).2.2.1 = some (tyX1 k) := by decide +kernel
abbrev cX1_init : ByteArray := prog_3_method_1_code
def yX1_init : MethodName := ⟨RX1, "<init>", "()V"⟩
def RX2 : String := "Triggerwright$Edge"
def TX2 : u_T := fun k => match k with
  | 0 => ("Triggerwright$Edge", "channel", "I", true)
  | 1 => ("Triggerwright$Edge", "level", "I", true)
  | 2 => ("Triggerwright$Edge", "hysteresis", "I", true)
  | 3 => ("Triggerwright$Edge", "rising", "Z", true)
  | _ => ("Triggerwright$Edge", "ready", "Z", false)
def tyX2 : Nat → FieldType := fun k => match k with
  | 0 => .int
  | 1 => .int
  | 2 => .int
  | 3 => .boolean
  | _ => .boolean
set_option maxRecDepth 100000 in
theorem nmX2 : ∀ a, a < 5 → ∀ b, b < 5 → a ≠ b → (TX2 a).2.1 ≠ (TX2 b).2.1 := by decide +kernel
theorem tyX2_ok : ∀ k, k < 5 → parseFieldDescriptor (TX2 k).2.2.1 = some (tyX2 k) := by decide +kernel
abbrev cX2_init : ByteArray := prog_4_method_1_code
def yX2_init : MethodName := ⟨RX2, "<init>", "(IIIZ)V"⟩
abbrev cX2_firesAt : ByteArray := prog_4_method_2_code
def yX2_firesAt : MethodName := ⟨RX2, "firesAt", "(III)Z"⟩
abbrev cX2_begunAnew : ByteArray := prog_4_method_3_code
def yX2_begunAnew : MethodName := ⟨RX2, "begunAnew", "()LTriggerwright$Condition;"⟩
def RX3 : String := "Triggerwright$Expression"
def TX3 : u_T := fun k => match k with
  | 0 => ("Triggerwright$Expression", "kinds", "[I", true)
  | 1 => ("Triggerwright$Expression", "details", "[I", true)
  | 2 => ("Triggerwright$Expression", "carried", "[I", true)
  | 3 => ("Triggerwright$Expression", "stack", "[I", true)
  | 4 => ("Triggerwright$Expression", "parts", "I", false)
  | _ => ("Triggerwright$Expression", "height", "I", false)
def tyX3 : Nat → FieldType := fun k => match k with
  | 0 => .array .int
  | 1 => .array .int
  | 2 => .array .int
  | 3 => .array .int
  | 4 => .int
  | _ => .int
set_option maxRecDepth 100000 in
theorem nmX3 : ∀ a, a < 6 → ∀ b, b < 6 → a ≠ b → (TX3 a).2.1 ≠ (TX3 b).2.1 := by decide +kernel
theorem tyX3_ok : ∀ k, k < 6 → parseFieldDescriptor (TX3 k).2.2.1 = some (tyX3 k) := by decide +kernel
abbrev cX3_init : ByteArray := prog_5_method_1_code
def yX3_init : MethodName := ⟨RX3, "<init>", "()V"⟩
abbrev cX3_add : ByteArray := prog_5_method_2_code
def yX3_add : MethodName := ⟨RX3, "add", "(II)I"⟩
abbrev cX3_fill : ByteArray := prog_5_method_3_code
def yX3_fill : MethodName := ⟨RX3, "fill", "([ILTriggerwright$Capture;)V"⟩
abbrev cX3_compute : ByteArray := prog_5_method_4_code
def yX3_compute : MethodName := ⟨RX3, "compute", "(LTriggerwright$Capture;I)I"⟩
abbrev cX3_ofOne : ByteArray := prog_5_method_5_code
def yX3_ofOne : MethodName := ⟨RX3, "ofOne", "(III)I"⟩
abbrev cX3_ofTwo : ByteArray := prog_5_method_6_code
def yX3_ofTwo : MethodName := ⟨RX3, "ofTwo", "(III)I"⟩
abbrev cX3_keptResult : ByteArray := prog_5_method_7_code
def yX3_keptResult : MethodName := ⟨RX3, "keptResult", "(J)I"⟩
def RX4 : String := "Triggerwright$History"
def TX4 : u_T := fun k => match k with
  | 0 => ("Triggerwright$History", "values", "[[I", true)
  | _ => ("Triggerwright$History", "count", "I", false)
def tyX4 : Nat → FieldType := fun k => match k with
  | 0 => .array (.array .int)
  | _ => .int
set_option maxRecDepth 100000 in
theorem nmX4 : ∀ a, a < 2 → ∀ b, b < 2 → a ≠ b → (TX4 a).2.1 ≠ (TX4 b).2.1 := by decide +kernel
theorem tyX4_ok : ∀ k, k < 2 → parseFieldDescriptor (TX4 k).2.2.1 = some (tyX4 k) := by decide +kernel
abbrev cX4_init : ByteArray := prog_6_method_1_code
def yX4_init : MethodName := ⟨RX4, "<init>", "()V"⟩
abbrev cX4_add : ByteArray := prog_6_method_2_code
def yX4_add : MethodName := ⟨RX4, "add", "(II)V"⟩
abbrev cX4_back : ByteArray := prog_6_method_3_code
def yX4_back : MethodName := ⟨RX4, "back", "(II)I"⟩
def RX5 : String := "Triggerwright$Mask"
def TX5 : u_T := fun k => match k with
  | 0 => ("Triggerwright$Mask", "floor", "[I", true)
  | _ => ("Triggerwright$Mask", "ceiling", "[I", true)
def tyX5 : Nat → FieldType := fun k => match k with
  | 0 => .array .int
  | _ => .array .int
set_option maxRecDepth 100000 in
theorem nmX5 : ∀ a, a < 2 → ∀ b, b < 2 → a ≠ b → (TX5 a).2.1 ≠ (TX5 b).2.1 := by decide +kernel
theorem tyX5_ok : ∀ k, k < 2 → parseFieldDescriptor (TX5 k).2.2.1 = some (tyX5 k) := by decide +kernel
abbrev cX5_init : ByteArray := prog_7_method_1_code
def yX5_init : MethodName := ⟨RX5, "<init>", "()V"⟩
abbrev cX5_limit : ByteArray := prog_7_method_2_code
def yX5_limit : MethodName := ⟨RX5, "limit", "(IIII)V"⟩
abbrev cX5_lowestOffence : ByteArray := prog_7_method_3_code
def yX5_lowestOffence : MethodName := ⟨RX5, "lowestOffence", "(LTriggerwright$Capture;)I"⟩
def RX6 : String := "Triggerwright$Memory"
def TX6 : u_T := fun k => match k with
  | 0 => ("Triggerwright$Memory", "captures", "[LTriggerwright$Capture;", true)
  | 1 => ("Triggerwright$Memory", "complete", "I", false)
  | 2 => ("Triggerwright$Memory", "caught", "LTriggerwright$Capture;", false)
  | 3 => ("Triggerwright$Memory", "armed", "Z", false)
  | 4 => ("Triggerwright$Memory", "pre", "I", false)
  | 5 => ("Triggerwright$Memory", "post", "I", false)
  | 6 => ("Triggerwright$Memory", "holdoff", "I", false)
  | 7 => ("Triggerwright$Memory", "triggered", "Z", false)
  | 8 => ("Triggerwright$Memory", "latestTrigger", "I", false)
  | 9 => ("Triggerwright$Memory", "failed", "I", false)
  | _ => ("Triggerwright$Memory", "offence", "I", false)
def tyX6 : Nat → FieldType := fun k => match k with
  | 0 => .array (.object "Triggerwright$Capture")
  | 1 => .int
  | 2 => .object "Triggerwright$Capture"
  | 3 => .boolean
  | 4 => .int
  | 5 => .int
  | 6 => .int
  | 7 => .boolean
  | 8 => .int
  | 9 => .int
  | _ => .int
set_option maxRecDepth 100000 in
theorem nmX6 : ∀ a, a < 11 → ∀ b, b < 11 → a ≠ b → (TX6 a).2.1 ≠ (TX6 b).2.1 := by decide +kernel
theorem tyX6_ok : ∀ k, k < 11 → parseFieldDescriptor (TX6 k).2.2.1 = some (tyX6 k) := by decide +kernel
abbrev cX6_init : ByteArray := prog_8_method_1_code
def yX6_init : MethodName := ⟨RX6, "<init>", "()V"⟩
abbrev cX6_beginAnew : ByteArray := prog_8_method_2_code
def yX6_beginAnew : MethodName := ⟨RX6, "beginAnew", "()V"⟩
abbrev cX6_takeSample : ByteArray := prog_8_method_3_code
def yX6_takeSample : MethodName := ⟨RX6, "takeSample", "(ZIILTriggerwright$History;)Z"⟩
abbrev cX6_mayTrigger : ByteArray := prog_8_method_4_code
def yX6_mayTrigger : MethodName := ⟨RX6, "mayTrigger", "(I)Z"⟩
abbrev cX6_startCatching : ByteArray := prog_8_method_5_code
def yX6_startCatching : MethodName := ⟨RX6, "startCatching", "(LTriggerwright$History;)V"⟩
abbrev cX6_judgeLatest : ByteArray := prog_8_method_6_code
def yX6_judgeLatest : MethodName := ⟨RX6, "judgeLatest", "(LTriggerwright$Mask;)V"⟩
def RX7 : String := "Triggerwright$Runt"
def TX7 : u_T := fun k => match k with
  | 0 => ("Triggerwright$Runt", "channel", "I", true)
  | 1 => ("Triggerwright$Runt", "low", "I", true)
  | 2 => ("Triggerwright$Runt", "high", "I", true)
  | 3 => ("Triggerwright$Runt", "sawOutside", "Z", false)
  | 4 => ("Triggerwright$Runt", "inside", "Z", false)
  | _ => ("Triggerwright$Runt", "tooHigh", "Z", false)
def tyX7 : Nat → FieldType := fun k => match k with
  | 0 => .int
  | 1 => .int
  | 2 => .int
  | 3 => .boolean
  | 4 => .boolean
  | _ => .boolean
set_option maxRecDepth 100000 in
theorem nmX7 : ∀ a, a < 6 → ∀ b, b < 6 → a ≠ b → (TX7 a).2.1 ≠ (TX7 b).2.1 := by decide +kernel
theorem tyX7_ok : ∀ k, k < 6 → parseFieldDescriptor (TX7 k).2.2.1 = some (tyX7 k) := by decide +kernel
abbrev cX7_init : ByteArray := prog_9_method_1_code
def yX7_init : MethodName := ⟨RX7, "<init>", "(III)V"⟩
abbrev cX7_firesAt : ByteArray := prog_9_method_2_code
def yX7_firesAt : MethodName := ⟨RX7, "firesAt", "(III)Z"⟩
abbrev cX7_begunAnew : ByteArray := prog_9_method_3_code
def yX7_begunAnew : MethodName := ⟨RX7, "begunAnew", "()LTriggerwright$Condition;"⟩
def RX8 : String := "Triggerwright$Sequence"
def TX8 : u_T := fun k => match k with
  | 0 => ("Triggerwright$Sequence", "firstLevel", "I", true)
  | 1 => ("Triggerwright$Sequence", "secondLevel", "I", true)
  | 2 => ("Triggerwright$Sequence", "span", "I", true)
  | 3 => ("Triggerwright$Sequence", "looked", "Z", false)
  | 4 => ("Triggerwright$Sequence", "firstBefore", "I", false)
  | 5 => ("Triggerwright$Sequence", "secondBefore", "I", false)
  | 6 => ("Triggerwright$Sequence", "remembers", "Z", false)
  | _ => ("Triggerwright$Sequence", "remembered", "I", false)
def tyX8 : Nat → FieldType := fun k => match k with
  | 0 => .int
  | 1 => .int
  | 2 => .int
  | 3 => .boolean
  | 4 => .int
  | 5 => .int
  | 6 => .boolean
  | _ => .int
set_option maxRecDepth 100000 in
theorem nmX8 : ∀ a, a < 8 → ∀ b, b < 8 → a ≠ b → (TX8 a).2.1 ≠ (TX8 b).2.1 := by decide +kernel
theorem tyX8_ok : ∀ k, k < 8 → parseFieldDescriptor (TX8 k).2.2.1 = some (tyX8 k) := by decide +kernel
abbrev cX8_init : ByteArray := prog_10_method_1_code
def yX8_init : MethodName := ⟨RX8, "<init>", "(III)V"⟩
abbrev cX8_firesAt : ByteArray := prog_10_method_2_code
def yX8_firesAt : MethodName := ⟨RX8, "firesAt", "(III)Z"⟩
abbrev cX8_begunAnew : ByteArray := prog_10_method_3_code
def yX8_begunAnew : MethodName := ⟨RX8, "begunAnew", "()LTriggerwright$Condition;"⟩
def RX9 : String := "Triggerwright$Width"
def TX9 : u_T := fun k => match k with
  | 0 => ("Triggerwright$Width", "channel", "I", true)
  | 1 => ("Triggerwright$Width", "level", "I", true)
  | 2 => ("Triggerwright$Width", "least", "I", true)
  | 3 => ("Triggerwright$Width", "most", "I", true)
  | 4 => ("Triggerwright$Width", "high", "Z", true)
  | 5 => ("Triggerwright$Width", "sawOutside", "Z", false)
  | _ => ("Triggerwright$Width", "width", "I", false)
def tyX9 : Nat → FieldType := fun k => match k with
  | 0 => .int
  | 1 => .int
  | 2 => .int
  | 3 => .int
  | 4 => .boolean
  | 5 => .boolean
  | _ => .int
set_option maxRecDepth 100000 in
theorem nmX9 : ∀ a, a < 7 → ∀ b, b < 7 → a ≠ b → (TX9 a).2.1 ≠ (TX9 b).2.1 := by decide +kernel
theorem tyX9_ok : ∀ k, k < 7 → parseFieldDescriptor (TX9 k).2.2.1 = some (tyX9 k) := by decide +kernel
abbrev cX9_init : ByteArray := prog_11_method_1_code
def yX9_init : MethodName := ⟨RX9, "<init>", "(IIIIZ)V"⟩
abbrev cX9_firesAt : ByteArray := prog_11_method_2_code
def yX9_firesAt : MethodName := ⟨RX9, "firesAt", "(III)Z"⟩
abbrev cX9_begunAnew : ByteArray := prog_11_method_3_code
def yX9_begunAnew : MethodName := ⟨RX9, "begunAnew", "()LTriggerwright$Condition;"⟩
def RX10 : String := "Triggerwright"
def TX10 : u_T := fun k => match k with
  | 0 => ("Triggerwright", "history", "LTriggerwright$History;", true)
  | 1 => ("Triggerwright", "memory", "LTriggerwright$Memory;", true)
  | 2 => ("Triggerwright", "mask", "LTriggerwright$Mask;", true)
  | 3 => ("Triggerwright", "expression", "LTriggerwright$Expression;", true)
  | 4 => ("Triggerwright", "row", "[I", true)
  | 5 => ("Triggerwright", "condition", "LTriggerwright$Condition;", false)
  | _ => ("Triggerwright", "firings", "I", false)
def tyX10 : Nat → FieldType := fun k => match k with
  | 0 => .object "Triggerwright$History"
  | 1 => .object "Triggerwright$Memory"
  | 2 => .object "Triggerwright$Mask"
  | 3 => .object "Triggerwright$Expression"
  | 4 => .array .int
  | 5 => .object "Triggerwright$Condition"
  | _ => .int
set_option maxRecDepth 100000 in
theorem nmX10 : ∀ a, a < 7 → ∀ b, b < 7 → a ≠ b → (TX10 a).2.1 ≠ (TX10 b).2.1 := by decide +kernel
theorem tyX10_ok : ∀ k, k < 7 → parseFieldDescriptor (TX10 k).2.2.1 = some (tyX10 k) := by decide +kernel
abbrev cX10_init : ByteArray := prog_1_method_1_code
def yX10_init : MethodName := ⟨RX10, "<init>", "()V"⟩
abbrev cX10_setEdge : ByteArray := prog_1_method_2_code
def yX10_setEdge : MethodName := ⟨RX10, "setEdge", "(IIIZ)V"⟩
abbrev cX10_setWidth : ByteArray := prog_1_method_3_code
def yX10_setWidth : MethodName := ⟨RX10, "setWidth", "(IIIIZ)V"⟩
abbrev cX10_setRunt : ByteArray := prog_1_method_4_code
def yX10_setRunt : MethodName := ⟨RX10, "setRunt", "(III)V"⟩
abbrev cX10_setSequence : ByteArray := prog_1_method_5_code
def yX10_setSequence : MethodName := ⟨RX10, "setSequence", "(III)V"⟩
abbrev cX10_setLengths : ByteArray := prog_1_method_6_code
def yX10_setLengths : MethodName := ⟨RX10, "setLengths", "(II)V"⟩
abbrev cX10_setHoldoff : ByteArray := prog_1_method_7_code
def yX10_setHoldoff : MethodName := ⟨RX10, "setHoldoff", "(I)I"⟩
abbrev cX10_arm : ByteArray := prog_1_method_8_code
def yX10_arm : MethodName := ⟨RX10, "arm", "()I"⟩
abbrev cX10_disarm : ByteArray := prog_1_method_9_code
def yX10_disarm : MethodName := ⟨RX10, "disarm", "()Z"⟩
abbrev cX10_isArmed : ByteArray := prog_1_method_10_code
def yX10_isArmed : MethodName := ⟨RX10, "isArmed", "()Z"⟩
abbrev cX10_isCatching : ByteArray := prog_1_method_11_code
def yX10_isCatching : MethodName := ⟨RX10, "isCatching", "()Z"⟩
abbrev cX10_push : ByteArray := prog_1_method_12_code
def yX10_push : MethodName := ⟨RX10, "push", "(III)I"⟩
abbrev cX10_ramp : ByteArray := prog_1_method_13_code
def yX10_ramp : MethodName := ⟨RX10, "ramp", "(IIIII)I"⟩
abbrev cX10_samples : ByteArray := prog_1_method_14_code
def yX10_samples : MethodName := ⟨RX10, "samples", "()I"⟩
abbrev cX10_fired : ByteArray := prog_1_method_15_code
def yX10_fired : MethodName := ⟨RX10, "fired", "()I"⟩
abbrev cX10_takeRamp : ByteArray := prog_1_method_16_code
def yX10_takeRamp : MethodName := ⟨RX10, "takeRamp", "(IIIII)I"⟩
abbrev cX10_takeSample : ByteArray := prog_1_method_17_code
def yX10_takeSample : MethodName := ⟨RX10, "takeSample", "(II)Z"⟩
abbrev cX10_records : ByteArray := prog_1_method_18_code
def yX10_records : MethodName := ⟨RX10, "records", "()I"⟩
abbrev cX10_trigger : ByteArray := prog_1_method_19_code
def yX10_trigger : MethodName := ⟨RX10, "trigger", "(I)I"⟩
abbrev cX10_length : ByteArray := prog_1_method_20_code
def yX10_length : MethodName := ⟨RX10, "length", "(I)I"⟩
abbrev cX10_value : ByteArray := prog_1_method_21_code
def yX10_value : MethodName := ⟨RX10, "value", "(III)I"⟩
abbrev cX10_low : ByteArray := prog_1_method_22_code
def yX10_low : MethodName := ⟨RX10, "low", "(IIII)I"⟩
abbrev cX10_high : ByteArray := prog_1_method_23_code
def yX10_high : MethodName := ⟨RX10, "high", "(IIII)I"⟩
abbrev cX10_mean : ByteArray := prog_1_method_24_code
def yX10_mean : MethodName := ⟨RX10, "mean", "(IIII)I"⟩
abbrev cX10_rescan : ByteArray := prog_1_method_25_code
def yX10_rescan : MethodName := ⟨RX10, "rescan", "(I)I"⟩
abbrev cX10_groupEnd : ByteArray := prog_1_method_26_code
def yX10_groupEnd : MethodName := ⟨RX10, "groupEnd", "(LTriggerwright$Capture;II)I"⟩
abbrev cX10_setMask : ByteArray := prog_1_method_27_code
def yX10_setMask : MethodName := ⟨RX10, "setMask", "(IIII)V"⟩
abbrev cX10_clearMask : ByteArray := prog_1_method_28_code
def yX10_clearMask : MethodName := ⟨RX10, "clearMask", "()V"⟩
abbrev cX10_failures : ByteArray := prog_1_method_29_code
def yX10_failures : MethodName := ⟨RX10, "failures", "()I"⟩
abbrev cX10_firstOffence : ByteArray := prog_1_method_30_code
def yX10_firstOffence : MethodName := ⟨RX10, "firstOffence", "()I"⟩
abbrev cX10_putChannel : ByteArray := prog_1_method_31_code
def yX10_putChannel : MethodName := ⟨RX10, "putChannel", "(I)I"⟩
abbrev cX10_putConstant : ByteArray := prog_1_method_32_code
def yX10_putConstant : MethodName := ⟨RX10, "putConstant", "(I)I"⟩
abbrev cX10_apply : ByteArray := prog_1_method_33_code
def yX10_apply : MethodName := ⟨RX10, "apply", "(I)I"⟩
abbrev cX10_combine : ByteArray := prog_1_method_34_code
def yX10_combine : MethodName := ⟨RX10, "combine", "(I)I"⟩
abbrev cX10_clearTrace : ByteArray := prog_1_method_35_code
def yX10_clearTrace : MethodName := ⟨RX10, "clearTrace", "()I"⟩
abbrev cX10_trace : ByteArray := prog_1_method_36_code
def yX10_trace : MethodName := ⟨RX10, "trace", "(II)I"⟩
abbrev cX10_least : ByteArray := prog_1_method_37_code
def yX10_least : MethodName := ⟨RX10, "least", "(II)I"⟩
abbrev cX10_greatest : ByteArray := prog_1_method_38_code
def yX10_greatest : MethodName := ⟨RX10, "greatest", "(II)I"⟩
abbrev cX10_average : ByteArray := prog_1_method_39_code
def yX10_average : MethodName := ⟨RX10, "average", "(II)D"⟩
abbrev cX10_crossings : ByteArray := prog_1_method_40_code
def yX10_crossings : MethodName := ⟨RX10, "crossings", "(III)I"⟩
abbrev cX10_riseTime : ByteArray := prog_1_method_42_code
def yX10_riseTime : MethodName := ⟨RX10, "riseTime", "(IIII)I"⟩
abbrev cX10_crossesAt : ByteArray := prog_1_method_43_code
def yX10_crossesAt : MethodName := ⟨RX10, "crossesAt", "(II)Z"⟩
abbrev cX10_fillRow : ByteArray := prog_1_method_44_code
def yX10_fillRow : MethodName := ⟨RX10, "fillRow", "(II)I"⟩
abbrev cX10_checkRange : ByteArray := prog_1_method_45_code
def yX10_checkRange : MethodName := ⟨RX10, "checkRange", "(III)V"⟩
abbrev cX10_checkChannel : ByteArray := prog_1_method_46_code
def yX10_checkChannel : MethodName := ⟨RX10, "checkChannel", "(I)V"⟩
abbrev cX10_checkValue : ByteArray := prog_1_method_47_code
def yX10_checkValue : MethodName := ⟨RX10, "checkValue", "(I)V"⟩
abbrev cX10_checkSource : ByteArray := prog_1_method_48_code
def yX10_checkSource : MethodName := ⟨RX10, "checkSource", "(I)V"⟩
abbrev cX10_checkRecord : ByteArray := prog_1_method_49_code
def yX10_checkRecord : MethodName := ⟨RX10, "checkRecord", "(I)V"⟩
abbrev cX10_checkPosition : ByteArray := prog_1_method_50_code
def yX10_checkPosition : MethodName := ⟨RX10, "checkPosition", "(IJ)V"⟩
abbrev cX10_checkGroup : ByteArray := prog_1_method_51_code
def yX10_checkGroup : MethodName := ⟨RX10, "checkGroup", "(IIII)V"⟩
abbrev cX10_checkRoom : ByteArray := prog_1_method_52_code
def yX10_checkRoom : MethodName := ⟨RX10, "checkRoom", "()V"⟩
abbrev cX10_checkOperands : ByteArray := prog_1_method_53_code
def yX10_checkOperands : MethodName := ⟨RX10, "checkOperands", "(I)V"⟩
abbrev cX10_checkTrace : ByteArray := prog_1_method_54_code
def yX10_checkTrace : MethodName := ⟨RX10, "checkTrace", "(I)V"⟩
abbrev cX10_kept : ByteArray := prog_1_method_55_code
def yX10_kept : MethodName := ⟨RX10, "kept", "(JII)I"⟩
def RX11 : String := "TriggerwrightModel"
def TX11 : u_T := fun k => match k with
  | _ => ("", "", "", false)
def tyX11 : Nat → FieldType := fun k => match k with
  | _ => .int
set_option maxRecDepth 100000 in
theorem nmX11 : ∀ a, a < 0 → ∀ b, b < 0 → a ≠ b → (TX11 a).2.1 ≠ (TX11 b).2.1 := by decide +kernel
theorem tyX11_ok : ∀ k, k < 0 → parseFieldDescriptor (TX11 k).2.2.1 = some (tyX11 k) := by decide +kernel
def RJx145de : String := "java/io/Serializable"
def TJx145de : u_T := fun k => match k with
  | _ => ("", "", "", false)
def tyJx145de : Nat → FieldType := fun k => match k with
  | _ => .int
set_option maxRecDepth 100000 in
theorem nmJx145de : ∀ a, a < 0 → ∀ b, b < 0 → a ≠ b → (TJx145de a).2.1 ≠ (TJx145de b).2.1 := by decide +kernel
theorem tyJx145de_ok : ∀ k, k < 0 → parseFieldDescriptor (TJx145de k).2.2.1 = some (tyJx145de k) := by decide +kernel
def RJ9 : String := "java/lang/Math"
def TJ9 : u_T := fun k => match k with
  | _ => ("", "", "", false)
def tyJ9 : Nat → FieldType := fun k => match k with
  | _ => .int
set_option maxRecDepth 100000 in
theorem nmJ9 : ∀ a, a < 0 → ∀ b, b < 0 → a ≠ b → (TJ9 a).2.1 ≠ (TJ9 b).2.1 := by decide +kernel
theorem tyJ9_ok : ∀ k, k < 0 → parseFieldDescriptor (TJ9 k).2.2.1 = some (tyJ9 k) := by decide +kernel
abbrev cJ9_floorDiv_7cf53 : ByteArray := prog_19_method_47_code
def yJ9_floorDiv_7cf53 : MethodName := ⟨RJ9, "floorDiv", "(II)I"⟩
abbrev cJ9_abs_0f7a4 : ByteArray := prog_19_method_59_code
def yJ9_abs_0f7a4 : MethodName := ⟨RJ9, "abs", "(I)I"⟩
abbrev cJ9_max_7cf53 : ByteArray := prog_19_method_65_code
def yJ9_max_7cf53 : MethodName := ⟨RJ9, "max", "(II)I"⟩
abbrev cJ9_max_f86c9 : ByteArray := prog_19_method_66_code
def yJ9_max_f86c9 : MethodName := ⟨RJ9, "max", "(JJ)J"⟩
abbrev cJ9_min_7cf53 : ByteArray := prog_19_method_69_code
def yJ9_min_7cf53 : MethodName := ⟨RJ9, "min", "(II)I"⟩
abbrev cJ9_min_f86c9 : ByteArray := prog_19_method_70_code
def yJ9_min_f86c9 : MethodName := ⟨RJ9, "min", "(JJ)J"⟩
def RJ0 : String := "java/lang/String"
def TJ0 : u_T := fun k => match k with
  | _ => ("", "", "", false)
def tyJ0 : Nat → FieldType := fun k => match k with
  | _ => .int
set_option maxRecDepth 100000 in
theorem nmJ0 : ∀ a, a < 0 → ∀ b, b < 0 → a ≠ b → (TJ0 a).2.1 ≠ (TJ0 b).2.1 := by decide +kernel
theorem tyJ0_ok : ∀ k, k < 0 → parseFieldDescriptor (TJ0 k).2.2.1 = some (tyJ0 k) := by decide +kernel
def RJ7 : String := "java/util/Arrays"
def TJ7 : u_T := fun k => match k with
  | _ => ("", "", "", false)
def tyJ7 : Nat → FieldType := fun k => match k with
  | _ => .int
set_option maxRecDepth 100000 in
theorem nmJ7 : ∀ a, a < 0 → ∀ b, b < 0 → a ≠ b → (TJ7 a).2.1 ≠ (TJ7 b).2.1 := by decide +kernel
theorem tyJ7_ok : ∀ k, k < 0 → parseFieldDescriptor (TJ7 k).2.2.1 = some (tyJ7 k) := by decide +kernel
abbrev cJ7_fill_53178 : ByteArray := prog_23_method_103_code
def yJ7_fill_53178 : MethodName := ⟨RJ7, "fill", "([II)V"⟩
def RL : String := "TriggerwrightLaw"
abbrev cL_part : ByteArray := method_2_code
def yL_part : MethodName := ⟨RL, "part", "([III)I"⟩
abbrev cL_set : ByteArray := method_3_code
def yL_set : MethodName := ⟨RL, "set", "(LTriggerwright;IIIIIZ)I"⟩
abbrev cL_sets : ByteArray := method_4_code
def yL_sets : MethodName := ⟨RL, "sets", "(LTriggerwright;IIIIIZ)I"⟩
abbrev cL_holds : ByteArray := method_5_code
def yL_holds : MethodName := ⟨RL, "holds", "(LTriggerwright;I)I"⟩
abbrev cL_comes : ByteArray := method_6_code
def yL_comes : MethodName := ⟨RL, "comes", "(LTriggerwright;IIIII)I"⟩
abbrev cL_value : ByteArray := method_7_code
def yL_value : MethodName := ⟨RL, "value", "(LTriggerwright;III)I"⟩
abbrev cL_grouped : ByteArray := method_8_code
def yL_grouped : MethodName := ⟨RL, "grouped", "(LTriggerwright;IIIII)I"⟩
abbrev cL_puts : ByteArray := method_9_code
def yL_puts : MethodName := ⟨RL, "puts", "(LTriggerwright;II)I"⟩
abbrev cL_traced : ByteArray := method_10_code
def yL_traced : MethodName := ⟨RL, "traced", "(LTriggerwright;II)I"⟩
abbrev cL_offence : ByteArray := method_11_code
def yL_offence : MethodName := ⟨RL, "offence", "(LTriggerwright;)I"⟩
abbrev cL_measured : ByteArray := method_12_code
def yL_measured : MethodName := ⟨RL, "measured", "(LTriggerwright;IIIII)I"⟩
abbrev cL_rescanned : ByteArray := method_13_code
def yL_rescanned : MethodName := ⟨RL, "rescanned", "(LTriggerwright;I)I"⟩
abbrev cL_came : ByteArray := method_14_code
def yL_came : MethodName := ⟨RL, "came", "([I[I[I[II)I"⟩
abbrev cL_isRecord : ByteArray := method_15_code
def yL_isRecord : MethodName := ⟨RL, "isRecord", "(LTriggerwright;I[I[I[I[I[I[I)Z"⟩
abbrev cL_isGrouped : ByteArray := method_16_code
def yL_isGrouped : MethodName := ⟨RL, "isGrouped", "(LTriggerwright;II)Z"⟩
abbrev cL_isRising : ByteArray := method_17_code
def yL_isRising : MethodName := ⟨RL, "isRising", "(LTriggerwright;II)Z"⟩
abbrev cL_areAll : ByteArray := method_18_code
def yL_areAll : MethodName := ⟨RL, "areAll", "(LTriggerwright;[I[I[I[I[I[I)Z"⟩
abbrev cL_isCome : ByteArray := method_19_code
def yL_isCome : MethodName := ⟨RL, "isCome", "(LTriggerwright;[I[I[I[I[I[IIII)Z"⟩
abbrev cL_isSet : ByteArray := method_20_code
def yL_isSet : MethodName := ⟨RL, "isSet", "(LTriggerwright;IIIII)Z"⟩
abbrev cL_isArmed : ByteArray := method_21_code
def yL_isArmed : MethodName := ⟨RL, "isArmed", "(LTriggerwright;[III)Z"⟩
abbrev cL_isPut : ByteArray := method_22_code
def yL_isPut : MethodName := ⟨RL, "isPut", "(LTriggerwright;[III)Z"⟩
abbrev cL_isDone : ByteArray := method_23_code
def yL_isDone : MethodName := ⟨RL, "isDone", "(LTriggerwright;[II[I[I[I[I[I[I)Z"⟩
abbrev cL_law : ByteArray := code
def yL_law : MethodName := ⟨RL, "law", "([I)Z"⟩
abbrev vwCl : List vw_C := [(RX0, TX0, 4), (RX2, TX2, 5), (RX3, TX3, 6), (RX4, TX4, 2), (RX5, TX5, 2), (RX6, TX6, 11), (RX7, TX7, 6), (RX8, TX8, 8), (RX9, TX9, 7), (RX10, TX10, 7)]
