/-! ===== BEGIN printed: names, fields, word lists, decode rows ===== -/
def RX0 : String := "ChainBench$Device"
def TX0 : u_T := fun k => match k with
  | 0 => ("ChainBench$Device", "bits", "I", true)
  | 1 => ("ChainBench$Device", "identity", "I", true)
  | 2 => ("ChainBench$Device", "cells", "I", true)
  | 3 => ("ChainBench$Device", "drivers", "I", true)
  | 4 => ("ChainBench$Device", "wired", "I", false)
  | 5 => ("ChainBench$Device", "latches", "I", false)
  | 6 => ("ChainBench$Device", "cores", "I", false)
  | 7 => ("ChainBench$Device", "instruction", "I", false)
  | 8 => ("ChainBench$Device", "instructionShift", "I", false)
  | _ => ("ChainBench$Device", "data", "I", false)
def tyX0 : Nat → FieldType := fun k => match k with
  | 0 => .int
  | 1 => .int
  | 2 => .int
  | 3 => .int
  | 4 => .int
  | 5 => .int
  | 6 => .int
  | 7 => .int
  | 8 => .int
  | _ => .int
theorem nmX0 : ∀ a, a < 10 → ∀ b, b < 10 → a ≠ b → (TX0 a).2.1 ≠ (TX0 b).2.1 := by decide +kernel
theorem tyX0_ok : ∀ k, k < 10 → parseFieldDescriptor (TX0 k).2.2.1 = some (tyX0 k) := by decide +kernel
abbrev cX0_init : ByteArray := prog_2_method_1_code
def yX0_init : MethodName := ⟨RX0, "<init>", "(IIII)V"⟩
abbrev cX0_drives : ByteArray := prog_2_method_2_code
def yX0_drives : MethodName := ⟨RX0, "drives", "(I)Z"⟩
abbrev cX0_isWired : ByteArray := prog_2_method_3_code
def yX0_isWired : MethodName := ⟨RX0, "isWired", "(I)Z"⟩
abbrev cX0_wire : ByteArray := prog_2_method_4_code
def yX0_wire : MethodName := ⟨RX0, "wire", "(I)V"⟩
abbrev cX0_setCore : ByteArray := prog_2_method_5_code
def yX0_setCore : MethodName := ⟨RX0, "setCore", "(IZ)V"⟩
abbrev cX0_clearOutputs : ByteArray := prog_2_method_6_code
def yX0_clearOutputs : MethodName := ⟨RX0, "clearOutputs", "()V"⟩
abbrev cX0_outputs : ByteArray := prog_2_method_7_code
def yX0_outputs : MethodName := ⟨RX0, "outputs", "()I"⟩
abbrev cX0_hasBoundary : ByteArray := prog_2_method_8_code
def yX0_hasBoundary : MethodName := ⟨RX0, "hasBoundary", "()Z"⟩
abbrev cX0_dataLength : ByteArray := prog_2_method_9_code
def yX0_dataLength : MethodName := ⟨RX0, "dataLength", "()I"⟩
abbrev cX0_captureData : ByteArray := prog_2_method_10_code
def yX0_captureData : MethodName := ⟨RX0, "captureData", "(I)V"⟩
abbrev cX0_shiftData : ByteArray := prog_2_method_11_code
def yX0_shiftData : MethodName := ⟨RX0, "shiftData", "(Z)Z"⟩
abbrev cX0_shiftInstruction : ByteArray := prog_2_method_12_code
def yX0_shiftInstruction : MethodName := ⟨RX0, "shiftInstruction", "(Z)Z"⟩
abbrev cX0_updateData : ByteArray := prog_2_method_13_code
def yX0_updateData : MethodName := ⟨RX0, "updateData", "()V"⟩
abbrev cX0_shiftedDown : ByteArray := prog_2_method_14_code
def yX0_shiftedDown : MethodName := ⟨RX0, "shiftedDown", "(IIZ)I"⟩
def RX1 : String := "ChainBench$Net"
def TX1 : u_T := fun k => match k with
  | 0 => ("ChainBench$Net", "from", "LChainBench$Device;", true)
  | 1 => ("ChainBench$Net", "fromCell", "I", true)
  | 2 => ("ChainBench$Net", "to", "LChainBench$Device;", true)
  | 3 => ("ChainBench$Net", "toCell", "I", true)
  | 4 => ("ChainBench$Net", "faultKind", "I", false)
  | 5 => ("ChainBench$Net", "shortedWith", "LChainBench$Net;", false)
  | _ => ("ChainBench$Net", "seen", "I", false)
def tyX1 : Nat → FieldType := fun k => match k with
  | 0 => .object "ChainBench$Device"
  | 1 => .int
  | 2 => .object "ChainBench$Device"
  | 3 => .int
  | 4 => .int
  | 5 => .object "ChainBench$Net"
  | _ => .int
theorem nmX1 : ∀ a, a < 7 → ∀ b, b < 7 → a ≠ b → (TX1 a).2.1 ≠ (TX1 b).2.1 := by decide +kernel
theorem tyX1_ok : ∀ k, k < 7 → parseFieldDescriptor (TX1 k).2.2.1 = some (tyX1 k) := by decide +kernel
abbrev cX1_init : ByteArray := prog_3_method_1_code
def yX1_init : MethodName := ⟨RX1, "<init>", "(LChainBench$Device;ILChainBench$Device;I)V"⟩
abbrev cX1_carries : ByteArray := prog_3_method_2_code
def yX1_carries : MethodName := ⟨RX1, "carries", "()Z"⟩
abbrev cX1_breakAlone : ByteArray := prog_3_method_3_code
def yX1_breakAlone : MethodName := ⟨RX1, "breakAlone", "(I)V"⟩
abbrev cX1_breakWith : ByteArray := prog_3_method_4_code
def yX1_breakWith : MethodName := ⟨RX1, "breakWith", "(LChainBench$Net;I)V"⟩
abbrev cX1_mend : ByteArray := prog_3_method_5_code
def yX1_mend : MethodName := ⟨RX1, "mend", "()V"⟩
def RX2 : String := "ChainBench"
def TX2 : u_T := fun k => match k with
  | 0 => ("ChainBench", "devices", "Ljava/util/ArrayList;", true)
  | 1 => ("ChainBench", "nets", "Ljava/util/ArrayList;", true)
  | 2 => ("ChainBench", "portState", "I", false)
  | 3 => ("ChainBench", "clockCount", "I", false)
  | 4 => ("ChainBench", "scanRow", "[I", true)
  | 5 => ("ChainBench", "foundIdentities", "[I", true)
  | 6 => ("ChainBench", "foundCount", "I", false)
  | _ => ("ChainBench", "tested", "Z", false)
def tyX2 : Nat → FieldType := fun k => match k with
  | 0 => .object "java/util/ArrayList"
  | 1 => .object "java/util/ArrayList"
  | 2 => .int
  | 3 => .int
  | 4 => .array .int
  | 5 => .array .int
  | 6 => .int
  | _ => .boolean
theorem nmX2 : ∀ a, a < 8 → ∀ b, b < 8 → a ≠ b → (TX2 a).2.1 ≠ (TX2 b).2.1 := by decide +kernel
theorem tyX2_ok : ∀ k, k < 8 → parseFieldDescriptor (TX2 k).2.2.1 = some (tyX2 k) := by decide +kernel
abbrev cX2_init : ByteArray := prog_1_method_1_code
def yX2_init : MethodName := ⟨RX2, "<init>", "()V"⟩
abbrev cX2_device : ByteArray := prog_1_method_2_code
def yX2_device : MethodName := ⟨RX2, "device", "(IIII)I"⟩
abbrev cX2_net : ByteArray := prog_1_method_3_code
def yX2_net : MethodName := ⟨RX2, "net", "(IIII)I"⟩
abbrev cX2_fault : ByteArray := prog_1_method_4_code
def yX2_fault : MethodName := ⟨RX2, "fault", "(III)V"⟩
abbrev cX2_core : ByteArray := prog_1_method_5_code
def yX2_core : MethodName := ⟨RX2, "core", "(IIZ)V"⟩
abbrev cX2_clock : ByteArray := prog_1_method_6_code
def yX2_clock : MethodName := ⟨RX2, "clock", "(ZZ)Z"⟩
abbrev cX2_state : ByteArray := prog_1_method_7_code
def yX2_state : MethodName := ⟨RX2, "state", "()I"⟩
abbrev cX2_look : ByteArray := prog_1_method_8_code
def yX2_look : MethodName := ⟨RX2, "look", "(II)I"⟩
abbrev cX2_value : ByteArray := prog_1_method_9_code
def yX2_value : MethodName := ⟨RX2, "value", "(I)Z"⟩
abbrev cX2_find : ByteArray := prog_1_method_10_code
def yX2_find : MethodName := ⟨RX2, "find", "()I"⟩
abbrev cX2_found : ByteArray := prog_1_method_11_code
def yX2_found : MethodName := ⟨RX2, "found", "(I)I"⟩
abbrev cX2_test : ByteArray := prog_1_method_12_code
def yX2_test : MethodName := ⟨RX2, "test", "()I"⟩
abbrev cX2_saw : ByteArray := prog_1_method_13_code
def yX2_saw : MethodName := ⟨RX2, "saw", "(I)I"⟩
abbrev cX2_clocks : ByteArray := prog_1_method_14_code
def yX2_clocks : MethodName := ⟨RX2, "clocks", "()I"⟩
abbrev cX2_isDevice : ByteArray := prog_1_method_15_code
def yX2_isDevice : MethodName := ⟨RX2, "isDevice", "(I)Z"⟩
abbrev cX2_isCell : ByteArray := prog_1_method_16_code
def yX2_isCell : MethodName := ⟨RX2, "isCell", "(II)Z"⟩
abbrev cX2_isNet : ByteArray := prog_1_method_17_code
def yX2_isNet : MethodName := ⟨RX2, "isNet", "(I)Z"⟩
abbrev cX2_restartDevices : ByteArray := prog_1_method_18_code
def yX2_restartDevices : MethodName := ⟨RX2, "restartDevices", "()V"⟩
abbrev cX2_step : ByteArray := prog_1_method_19_code
def yX2_step : MethodName := ⟨RX2, "step", "(ZZ)Z"⟩
abbrev cX2_enterState : ByteArray := prog_1_method_20_code
def yX2_enterState : MethodName := ⟨RX2, "enterState", "(I)V"⟩
abbrev cX2_doState : ByteArray := prog_1_method_21_code
def yX2_doState : MethodName := ⟨RX2, "doState", "(Z)Z"⟩
abbrev cX2_signalsOf : ByteArray := prog_1_method_22_code
def yX2_signalsOf : MethodName := ⟨RX2, "signalsOf", "(LChainBench$Device;)I"⟩
abbrev cX2_goToIdle : ByteArray := prog_1_method_23_code
def yX2_goToIdle : MethodName := ⟨RX2, "goToIdle", "()V"⟩
abbrev cX2_scan : ByteArray := prog_1_method_24_code
def yX2_scan : MethodName := ⟨RX2, "scan", "(ZI)V"⟩
abbrev cX2_wordsBeforeAllOnes : ByteArray := prog_1_method_25_code
def yX2_wordsBeforeAllOnes : MethodName := ⟨RX2, "wordsBeforeAllOnes", "()I"⟩
abbrev cX2_giveAllExtest : ByteArray := prog_1_method_26_code
def yX2_giveAllExtest : MethodName := ⟨RX2, "giveAllExtest", "()V"⟩
abbrev cX2_allCells : ByteArray := prog_1_method_27_code
def yX2_allCells : MethodName := ⟨RX2, "allCells", "()I"⟩
abbrev cX2_forgetSeen : ByteArray := prog_1_method_28_code
def yX2_forgetSeen : MethodName := ⟨RX2, "forgetSeen", "()V"⟩
abbrev cX2_patternOfRound : ByteArray := prog_1_method_29_code
def yX2_patternOfRound : MethodName := ⟨RX2, "patternOfRound", "(I)I"⟩
abbrev cX2_noteSeen : ByteArray := prog_1_method_30_code
def yX2_noteSeen : MethodName := ⟨RX2, "noteSeen", "(II)V"⟩
abbrev cX2_placeInScan : ByteArray := prog_1_method_31_code
def yX2_placeInScan : MethodName := ⟨RX2, "placeInScan", "(LChainBench$Device;I)I"⟩
abbrev cX2_countFaulty : ByteArray := prog_1_method_32_code
def yX2_countFaulty : MethodName := ⟨RX2, "countFaulty", "()I"⟩
def RX3 : String := "ChainBenchModel"
def TX3 : u_T := fun k => match k with
  | 0 => ("ChainBenchModel", "thrown", "I", false)
  | 1 => ("ChainBenchModel", "count", "I", false)
  | 2 => ("ChainBenchModel", "width", "[I", true)
  | 3 => ("ChainBenchModel", "identity", "[I", true)
  | 4 => ("ChainBenchModel", "cells", "[I", true)
  | 5 => ("ChainBenchModel", "instruction", "[I", true)
  | 6 => ("ChainBenchModel", "shifted", "[I", true)
  | 7 => ("ChainBenchModel", "boundary", "[I", true)
  | 8 => ("ChainBenchModel", "identities", "[I", true)
  | 9 => ("ChainBenchModel", "bypass", "[I", true)
  | 10 => ("ChainBenchModel", "drives", "[Z", true)
  | 11 => ("ChainBenchModel", "latch", "[I", true)
  | 12 => ("ChainBenchModel", "core", "[I", true)
  | 13 => ("ChainBenchModel", "netOf", "[I", true)
  | 14 => ("ChainBenchModel", "nets", "I", false)
  | 15 => ("ChainBenchModel", "driver", "[I", true)
  | 16 => ("ChainBenchModel", "kind", "[I", true)
  | 17 => ("ChainBenchModel", "partner", "[I", true)
  | 18 => ("ChainBenchModel", "seen", "[I", true)
  | 19 => ("ChainBenchModel", "state", "I", false)
  | 20 => ("ChainBenchModel", "clocks", "I", false)
  | 21 => ("ChainBenchModel", "found", "I", false)
  | 22 => ("ChainBenchModel", "names", "[I", true)
  | _ => ("ChainBenchModel", "tested", "Z", false)
def tyX3 : Nat → FieldType := fun k => match k with
  | 0 => .int
  | 1 => .int
  | 2 => .array .int
  | 3 => .array .int
  | 4 => .array .int
  | 5 => .array .int
  | 6 => .array .int
  | 7 => .array .int
  | 8 => .array .int
  | 9 => .array .int
  | 10 => .array .boolean
  | 11 => .array .int
  | 12 => .array .int
  | 13 => .array .int
  | 14 => .int
  | 15 => .array .int
  | 16 => .array .int
  | 17 => .array .int
  | 18 => .array .int
  | 19 => .int
  | 20 => .int
  | 21 => .int
  | 22 => .array .int
  | _ => .boolean
theorem nmX3 : ∀ a, a < 24 → ∀ b, b < 24 → a ≠ b → (TX3 a).2.1 ≠ (TX3 b).2.1 := by decide +kernel
theorem tyX3_ok : ∀ k, k < 24 → parseFieldDescriptor (TX3 k).2.2.1 = some (tyX3 k) := by decide +kernel
abbrev cX3_init : ByteArray := prog_5_method_1_code
def yX3_init : MethodName := ⟨RX3, "<init>", "()V"⟩
abbrev cX3_thrown : ByteArray := prog_5_method_2_code
def yX3_thrown : MethodName := ⟨RX3, "thrown", "()I"⟩
abbrev cX3_out : ByteArray := prog_5_method_3_code
def yX3_out : MethodName := ⟨RX3, "out", "(II)Z"⟩
abbrev cX3_fail : ByteArray := prog_5_method_4_code
def yX3_fail : MethodName := ⟨RX3, "fail", "(I)I"⟩
abbrev cX3_after : ByteArray := prog_5_method_5_code
def yX3_after : MethodName := ⟨RX3, "after", "(IZ)I"⟩
abbrev cX3_device : ByteArray := prog_5_method_6_code
def yX3_device : MethodName := ⟨RX3, "device", "(IIII)I"⟩
abbrev cX3_isCell : ByteArray := prog_5_method_7_code
def yX3_isCell : MethodName := ⟨RX3, "isCell", "(II)Z"⟩
abbrev cX3_net : ByteArray := prog_5_method_8_code
def yX3_net : MethodName := ⟨RX3, "net", "(IIII)I"⟩
abbrev cX3_heal : ByteArray := prog_5_method_9_code
def yX3_heal : MethodName := ⟨RX3, "heal", "(I)V"⟩
abbrev cX3_fault : ByteArray := prog_5_method_10_code
def yX3_fault : MethodName := ⟨RX3, "fault", "(III)V"⟩
abbrev cX3_core : ByteArray := prog_5_method_11_code
def yX3_core : MethodName := ⟨RX3, "core", "(IIZ)V"⟩
abbrev cX3_output : ByteArray := prog_5_method_12_code
def yX3_output : MethodName := ⟨RX3, "output", "(I)I"⟩
abbrev cX3_valueOf : ByteArray := prog_5_method_13_code
def yX3_valueOf : MethodName := ⟨RX3, "valueOf", "(I)I"⟩
abbrev cX3_signal : ByteArray := prog_5_method_14_code
def yX3_signal : MethodName := ⟨RX3, "signal", "(I)I"⟩
abbrev cX3_down : ByteArray := prog_5_method_15_code
def yX3_down : MethodName := ⟨RX3, "down", "([IIII)I"⟩
abbrev cX3_shiftAll : ByteArray := prog_5_method_16_code
def yX3_shiftAll : MethodName := ⟨RX3, "shiftAll", "(ZI)I"⟩
abbrev cX3_capture : ByteArray := prog_5_method_17_code
def yX3_capture : MethodName := ⟨RX3, "capture", "(I)V"⟩
abbrev cX3_update : ByteArray := prog_5_method_18_code
def yX3_update : MethodName := ⟨RX3, "update", "(I)V"⟩
abbrev cX3_numberIn : ByteArray := prog_5_method_19_code
def yX3_numberIn : MethodName := ⟨RX3, "numberIn", "(I)I"⟩
abbrev cX3_tick : ByteArray := prog_5_method_20_code
def yX3_tick : MethodName := ⟨RX3, "tick", "(ZI)I"⟩
abbrev cX3_clock : ByteArray := prog_5_method_21_code
def yX3_clock : MethodName := ⟨RX3, "clock", "(ZZ)Z"⟩
abbrev cX3_goIdle : ByteArray := prog_5_method_22_code
def yX3_goIdle : MethodName := ⟨RX3, "goIdle", "()V"⟩
abbrev cX3_comeTo : ByteArray := prog_5_method_23_code
def yX3_comeTo : MethodName := ⟨RX3, "comeTo", "(Z)V"⟩
abbrev cX3_leave : ByteArray := prog_5_method_24_code
def yX3_leave : MethodName := ⟨RX3, "leave", "()V"⟩
abbrev cX3_find : ByteArray := prog_5_method_25_code
def yX3_find : MethodName := ⟨RX3, "find", "()I"⟩
abbrev cX3_found : ByteArray := prog_5_method_26_code
def yX3_found : MethodName := ⟨RX3, "found", "(I)I"⟩
abbrev cX3_round : ByteArray := prog_5_method_27_code
def yX3_round : MethodName := ⟨RX3, "round", "(IZ)V"⟩
abbrev cX3_test : ByteArray := prog_5_method_28_code
def yX3_test : MethodName := ⟨RX3, "test", "()I"⟩
abbrev cX3_saw : ByteArray := prog_5_method_29_code
def yX3_saw : MethodName := ⟨RX3, "saw", "(I)I"⟩
abbrev cX3_state : ByteArray := prog_5_method_30_code
def yX3_state : MethodName := ⟨RX3, "state", "()I"⟩
abbrev cX3_look : ByteArray := prog_5_method_31_code
def yX3_look : MethodName := ⟨RX3, "look", "(II)I"⟩
abbrev cX3_value : ByteArray := prog_5_method_32_code
def yX3_value : MethodName := ⟨RX3, "value", "(I)Z"⟩
abbrev cX3_clocks : ByteArray := prog_5_method_33_code
def yX3_clocks : MethodName := ⟨RX3, "clocks", "()I"⟩
def RJx145de : String := "java/io/Serializable"
def TJx145de : u_T := fun k => match k with
  | _ => ("", "", "", false)
def tyJx145de : Nat → FieldType := fun k => match k with
  | _ => .int
theorem nmJx145de : ∀ a, a < 0 → ∀ b, b < 0 → a ≠ b → (TJx145de a).2.1 ≠ (TJx145de b).2.1 := by decide +kernel
theorem tyJx145de_ok : ∀ k, k < 0 → parseFieldDescriptor (TJx145de k).2.2.1 = some (tyJx145de k) := by decide +kernel
def RJx8e188 : String := "java/lang/Cloneable"
def TJx8e188 : u_T := fun k => match k with
  | _ => ("", "", "", false)
def tyJx8e188 : Nat → FieldType := fun k => match k with
  | _ => .int
theorem nmJx8e188 : ∀ a, a < 0 → ∀ b, b < 0 → a ≠ b → (TJx8e188 a).2.1 ≠ (TJx8e188 b).2.1 := by decide +kernel
theorem tyJx8e188_ok : ∀ k, k < 0 → parseFieldDescriptor (TJx8e188 k).2.2.1 = some (tyJx8e188 k) := by decide +kernel
def RJxab1ab : String := "java/lang/Iterable"
def TJxab1ab : u_T := fun k => match k with
  | _ => ("", "", "", false)
def tyJxab1ab : Nat → FieldType := fun k => match k with
  | _ => .int
theorem nmJxab1ab : ∀ a, a < 0 → ∀ b, b < 0 → a ≠ b → (TJxab1ab a).2.1 ≠ (TJxab1ab b).2.1 := by decide +kernel
theorem tyJxab1ab_ok : ∀ k, k < 0 → parseFieldDescriptor (TJxab1ab k).2.2.1 = some (tyJxab1ab k) := by decide +kernel
def RJ9 : String := "java/lang/Math"
def TJ9 : u_T := fun k => match k with
  | _ => ("", "", "", false)
def tyJ9 : Nat → FieldType := fun k => match k with
  | _ => .int
theorem nmJ9 : ∀ a, a < 0 → ∀ b, b < 0 → a ≠ b → (TJ9 a).2.1 ≠ (TJ9 b).2.1 := by decide +kernel
theorem tyJ9_ok : ∀ k, k < 0 → parseFieldDescriptor (TJ9 k).2.2.1 = some (tyJ9 k) := by decide +kernel
abbrev cJ9_max_7cf53 : ByteArray := prog_13_method_65_code
def yJ9_max_7cf53 : MethodName := ⟨RJ9, "max", "(II)I"⟩
abbrev cJ9_min_7cf53 : ByteArray := prog_13_method_69_code
def yJ9_min_7cf53 : MethodName := ⟨RJ9, "min", "(II)I"⟩
def RJ10 : String := "java/lang/System"
def TJ10 : u_T := fun k => match k with
  | _ => ("", "", "", false)
def tyJ10 : Nat → FieldType := fun k => match k with
  | _ => .int
theorem nmJ10 : ∀ a, a < 0 → ∀ b, b < 0 → a ≠ b → (TJ10 a).2.1 ≠ (TJ10 b).2.1 := by decide +kernel
theorem tyJ10_ok : ∀ k, k < 0 → parseFieldDescriptor (TJ10 k).2.2.1 = some (tyJ10 k) := by decide +kernel
def RJxa1e45 : String := "java/util/AbstractCollection"
def TJxa1e45 : u_T := fun k => match k with
  | _ => ("", "", "", false)
def tyJxa1e45 : Nat → FieldType := fun k => match k with
  | _ => .int
theorem nmJxa1e45 : ∀ a, a < 0 → ∀ b, b < 0 → a ≠ b → (TJxa1e45 a).2.1 ≠ (TJxa1e45 b).2.1 := by decide +kernel
theorem tyJxa1e45_ok : ∀ k, k < 0 → parseFieldDescriptor (TJxa1e45 k).2.2.1 = some (tyJxa1e45 k) := by decide +kernel
abbrev cJxa1e45_init_da8c8 : ByteArray := prog_17_method_1_code
def yJxa1e45_init_da8c8 : MethodName := ⟨RJxa1e45, "<init>", "()V"⟩
def RJxc12de : String := "java/util/AbstractList"
def TJxc12de : u_T := fun k => match k with
  | _ => ("", "", "", false)
def tyJxc12de : Nat → FieldType := fun k => match k with
  | _ => .int
theorem nmJxc12de : ∀ a, a < 0 → ∀ b, b < 0 → a ≠ b → (TJxc12de a).2.1 ≠ (TJxc12de b).2.1 := by decide +kernel
theorem tyJxc12de_ok : ∀ k, k < 0 → parseFieldDescriptor (TJxc12de k).2.2.1 = some (tyJxc12de k) := by decide +kernel
abbrev cJxc12de_init_da8c8 : ByteArray := prog_18_method_1_code
def yJxc12de_init_da8c8 : MethodName := ⟨RJxc12de, "<init>", "()V"⟩
def RJx4a65c : String := "java/util/ArrayList"
def TJx4a65c : u_T := fun k => match k with
  | 0 => ("java/util/AbstractList", "modCount", "I", false)
  | 1 => ("java/util/ArrayList", "elementData", "[Ljava/lang/Object;", false)
  | _ => ("java/util/ArrayList", "size", "I", false)
def tyJx4a65c : Nat → FieldType := fun k => match k with
  | 0 => .int
  | 1 => .array (.object "java/lang/Object")
  | _ => .int
theorem nmJx4a65c : ∀ a, a < 3 → ∀ b, b < 3 → a ≠ b → (TJx4a65c a).2.1 ≠ (TJx4a65c b).2.1 := by decide +kernel
theorem tyJx4a65c_ok : ∀ k, k < 3 → parseFieldDescriptor (TJx4a65c k).2.2.1 = some (tyJx4a65c k) := by decide +kernel
abbrev cJx4a65c_init_da8c8 : ByteArray := prog_19_method_2_code
def yJx4a65c_init_da8c8 : MethodName := ⟨RJx4a65c, "<init>", "()V"⟩
abbrev cJx4a65c_grow_92f84 : ByteArray := prog_19_method_6_code
def yJx4a65c_grow_92f84 : MethodName := ⟨RJx4a65c, "grow", "(I)[Ljava/lang/Object;"⟩
abbrev cJx4a65c_grow_d5877 : ByteArray := prog_19_method_7_code
def yJx4a65c_grow_d5877 : MethodName := ⟨RJx4a65c, "grow", "()[Ljava/lang/Object;"⟩
abbrev cJx4a65c_size_8abf5 : ByteArray := prog_19_method_8_code
def yJx4a65c_size_8abf5 : MethodName := ⟨RJx4a65c, "size", "()I"⟩
abbrev cJx4a65c_isEmpty_aae02 : ByteArray := prog_19_method_9_code
def yJx4a65c_isEmpty_aae02 : MethodName := ⟨RJx4a65c, "isEmpty", "()Z"⟩
abbrev cJx4a65c_elementData_915e3 : ByteArray := prog_19_method_18_code
def yJx4a65c_elementData_915e3 : MethodName := ⟨RJx4a65c, "elementData", "(I)Ljava/lang/Object;"⟩
abbrev cJx4a65c_get_915e3 : ByteArray := prog_19_method_20_code
def yJx4a65c_get_915e3 : MethodName := ⟨RJx4a65c, "get", "(I)Ljava/lang/Object;"⟩
abbrev cJx4a65c_add_72be8 : ByteArray := prog_19_method_24_code
def yJx4a65c_add_72be8 : MethodName := ⟨RJx4a65c, "add", "(Ljava/lang/Object;[Ljava/lang/Object;I)V"⟩
abbrev cJx4a65c_add_9ea2d : ByteArray := prog_19_method_25_code
def yJx4a65c_add_9ea2d : MethodName := ⟨RJx4a65c, "add", "(Ljava/lang/Object;)Z"⟩
def RJ7 : String := "java/util/Arrays"
def TJ7 : u_T := fun k => match k with
  | _ => ("", "", "", false)
def tyJ7 : Nat → FieldType := fun k => match k with
  | _ => .int
theorem nmJ7 : ∀ a, a < 0 → ∀ b, b < 0 → a ≠ b → (TJ7 a).2.1 ≠ (TJ7 b).2.1 := by decide +kernel
theorem tyJ7_ok : ∀ k, k < 0 → parseFieldDescriptor (TJ7 k).2.2.1 = some (tyJ7 k) := by decide +kernel
abbrev cJ7_copyOf_1904c : ByteArray := prog_20_method_119_code
def yJ7_copyOf_1904c : MethodName := ⟨RJ7, "copyOf", "([Ljava/lang/Object;I)[Ljava/lang/Object;"⟩
abbrev cJ7_copyOf_6403c : ByteArray := prog_20_method_120_code
def yJ7_copyOf_6403c : MethodName := ⟨RJ7, "copyOf", "([Ljava/lang/Object;ILjava/lang/Class;)[Ljava/lang/Object;"⟩
def RJx5ef63 : String := "java/util/Collection"
def TJx5ef63 : u_T := fun k => match k with
  | _ => ("", "", "", false)
def tyJx5ef63 : Nat → FieldType := fun k => match k with
  | _ => .int
theorem nmJx5ef63 : ∀ a, a < 0 → ∀ b, b < 0 → a ≠ b → (TJx5ef63 a).2.1 ≠ (TJx5ef63 b).2.1 := by decide +kernel
theorem tyJx5ef63_ok : ∀ k, k < 0 → parseFieldDescriptor (TJx5ef63 k).2.2.1 = some (tyJx5ef63 k) := by decide +kernel
def RJxbd725 : String := "java/util/List"
def TJxbd725 : u_T := fun k => match k with
  | _ => ("", "", "", false)
def tyJxbd725 : Nat → FieldType := fun k => match k with
  | _ => .int
theorem nmJxbd725 : ∀ a, a < 0 → ∀ b, b < 0 → a ≠ b → (TJxbd725 a).2.1 ≠ (TJxbd725 b).2.1 := by decide +kernel
theorem tyJxbd725_ok : ∀ k, k < 0 → parseFieldDescriptor (TJxbd725 k).2.2.1 = some (tyJxbd725 k) := by decide +kernel
def RJ15 : String := "java/util/Objects"
def TJ15 : u_T := fun k => match k with
  | _ => ("", "", "", false)
def tyJ15 : Nat → FieldType := fun k => match k with
  | _ => .int
theorem nmJ15 : ∀ a, a < 0 → ∀ b, b < 0 → a ≠ b → (TJ15 a).2.1 ≠ (TJ15 b).2.1 := by decide +kernel
theorem tyJ15_ok : ∀ k, k < 0 → parseFieldDescriptor (TJ15 k).2.2.1 = some (tyJ15 k) := by decide +kernel
abbrev cJ15_checkIndex_7cf53 : ByteArray := prog_23_method_17_code
def yJ15_checkIndex_7cf53 : MethodName := ⟨RJ15, "checkIndex", "(II)I"⟩
def RJxf0a74 : String := "java/util/RandomAccess"
def TJxf0a74 : u_T := fun k => match k with
  | _ => ("", "", "", false)
def tyJxf0a74 : Nat → FieldType := fun k => match k with
  | _ => .int
theorem nmJxf0a74 : ∀ a, a < 0 → ∀ b, b < 0 → a ≠ b → (TJxf0a74 a).2.1 ≠ (TJxf0a74 b).2.1 := by decide +kernel
theorem tyJxf0a74_ok : ∀ k, k < 0 → parseFieldDescriptor (TJxf0a74 k).2.2.1 = some (tyJxf0a74 k) := by decide +kernel
def RJxa66e6 : String := "java/util/SequencedCollection"
def TJxa66e6 : u_T := fun k => match k with
  | _ => ("", "", "", false)
def tyJxa66e6 : Nat → FieldType := fun k => match k with
  | _ => .int
theorem nmJxa66e6 : ∀ a, a < 0 → ∀ b, b < 0 → a ≠ b → (TJxa66e6 a).2.1 ≠ (TJxa66e6 b).2.1 := by decide +kernel
theorem tyJxa66e6_ok : ∀ k, k < 0 → parseFieldDescriptor (TJxa66e6 k).2.2.1 = some (tyJxa66e6 k) := by decide +kernel
def RJ8 : String := "jdk/internal/util/ArraysSupport"
def TJ8 : u_T := fun k => match k with
  | _ => ("", "", "", false)
def tyJ8 : Nat → FieldType := fun k => match k with
  | _ => .int
theorem nmJ8 : ∀ a, a < 0 → ∀ b, b < 0 → a ≠ b → (TJ8 a).2.1 ≠ (TJ8 b).2.1 := by decide +kernel
theorem tyJ8_ok : ∀ k, k < 0 → parseFieldDescriptor (TJ8 k).2.2.1 = some (tyJ8 k) := by decide +kernel
abbrev cJ8_newLength_cabcc : ByteArray := prog_26_method_27_code
def yJ8_newLength_cabcc : MethodName := ⟨RJ8, "newLength", "(III)I"⟩
abbrev cJ8_hugeLength_7cf53 : ByteArray := prog_26_method_28_code
def yJ8_hugeLength_7cf53 : MethodName := ⟨RJ8, "hugeLength", "(II)I"⟩
def RJ3 : String := "jdk/internal/util/Preconditions"
def TJ3 : u_T := fun k => match k with
  | _ => ("", "", "", false)
def tyJ3 : Nat → FieldType := fun k => match k with
  | _ => .int
theorem nmJ3 : ∀ a, a < 0 → ∀ b, b < 0 → a ≠ b → (TJ3 a).2.1 ≠ (TJ3 b).2.1 := by decide +kernel
theorem tyJ3_ok : ∀ k, k < 0 → parseFieldDescriptor (TJ3 k).2.2.1 = some (tyJ3 k) := by decide +kernel
abbrev cJ3_checkIndex_8e157 : ByteArray := prog_27_method_11_code
def yJ3_checkIndex_8e157 : MethodName := ⟨RJ3, "checkIndex", "(IILjava/util/function/BiFunction;)I"⟩
def RL : String := "ChainBenchLaw"
abbrev cL_device : ByteArray := method_3_code
def yL_device : MethodName := ⟨RL, "device", "(LChainBench;IIII[J)I"⟩
abbrev cL_net : ByteArray := method_4_code
def yL_net : MethodName := ⟨RL, "net", "(LChainBench;IIII[J)I"⟩
abbrev cL_fault : ByteArray := method_5_code
def yL_fault : MethodName := ⟨RL, "fault", "(LChainBench;III)I"⟩
abbrev cL_core : ByteArray := method_6_code
def yL_core : MethodName := ⟨RL, "core", "(LChainBench;IIZ)I"⟩
abbrev cL_clock : ByteArray := method_7_code
def yL_clock : MethodName := ⟨RL, "clock", "(LChainBench;ZZ[J)I"⟩
abbrev cL_look : ByteArray := method_8_code
def yL_look : MethodName := ⟨RL, "look", "(LChainBench;II[J)I"⟩
abbrev cL_value : ByteArray := method_9_code
def yL_value : MethodName := ⟨RL, "value", "(LChainBench;I[J)I"⟩
abbrev cL_find : ByteArray := method_10_code
def yL_find : MethodName := ⟨RL, "find", "(LChainBench;[J)I"⟩
abbrev cL_found : ByteArray := method_11_code
def yL_found : MethodName := ⟨RL, "found", "(LChainBench;I[J)I"⟩
abbrev cL_test : ByteArray := method_12_code
def yL_test : MethodName := ⟨RL, "test", "(LChainBench;[J)I"⟩
abbrev cL_saw : ByteArray := method_13_code
def yL_saw : MethodName := ⟨RL, "saw", "(LChainBench;I[J)I"⟩
abbrev cL_law : ByteArray := code
def yL_law : MethodName := ⟨RL, "law", "([I)Z"⟩
/-! the classes whose objects the heap holds; the static rows; the words -/
abbrev mm_cl : List vw_C := [(RJx4a65c, TJx4a65c, 3), (RX0, TX0, 10), (RX1, TX1, 7), (RX2, TX2, 8), (RX3, TX3, 24)]
/-- words that ride into a callee -/
def mm_good (w : Cond) : Bool := goodWord w || (w.onTables && w.keepsFace)
def mm_W : List Cond := lw_tbl.filter mm_good
theorem mm_W_in {w : Cond} (h : w ∈ lw_tbl) (g : mm_good w = true) : w ∈ mm_W := List.mem_filter.mpr ⟨h, g⟩
theorem mm_W_good : ∀ w ∈ mm_W, mm_good w = true := fun w h => (List.mem_filter.mp h).2
theorem mm_word {args a' : Array Value} {s U : State} (hW : s.WarmedH U.vm) {w : Cond} (hg : mm_good w = true) (h : w.before args s = true) : w.before a' U = true := by
  simp only [mm_good, Bool.or_eq_true, Bool.and_eq_true] at hg
  rcases hg with hg | hg
  · exact word_at hW (good_of_word hg) h
  · have h1 : w.before args (s.setVm U.vm) = true := Cond.before_shiftedFace (State.Shifted.of_warmed hW) w hg.2 h
    rw [Cond.onTables_vm (A' := a') (U' := U) U.vm w hg.1, State.setVm_self] at h1
    exact h1
theorem mm_cl_in : ∀ q ∈ mm_cl, ∀ w ∈ u_ws q.1 q.2.1 q.2.2, w ∈ mm_W := by decide +kernel
theorem mm_cl_ty : ∀ q ∈ mm_cl, ∀ k, k < q.2.2 → (parseFieldDescriptor (q.2.1 k).2.2.1).isSome = true := by decide +kernel
theorem mm_cl_nm : ∀ q ∈ mm_cl, ∀ a, a < q.2.2 → ∀ b, b < q.2.2 → a ≠ b → (q.2.1 a).2.1 ≠ (q.2.1 b).2.1 := by decide +kernel
def mm_t0 : List Int32 := [1, 1, 3, 4, 4, 6, 6, 4, 1, 10, 11, 11, 13, 13, 11, 1]
def mm_t1 : List Int32 := [0, 2, 9, 5, 5, 8, 7, 8, 2, 0, 12, 12, 15, 14, 15, 2]
/-- the static rows: of which class, name, descriptor, component, length, contents -/
def mm_st : List (String × String × String × FieldType × Nat × (Nat → Value)) :=
  [("ChainBench", "AFTER_TMS_0", "[I", .int, 16, fun k => .int (mm_t0.getD k 0)), ("ChainBench", "AFTER_TMS_1", "[I", .int, 16, fun k => .int (mm_t1.getD k 0)),
   ("java/util/ArrayList", "DEFAULTCAPACITY_EMPTY_ELEMENTDATA", "[Ljava/lang/Object;", .object "java/lang/Object", 0, fun _ => .null)]

