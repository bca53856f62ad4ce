/-! Names, fields, methods (laid by wip/whole/gen/build.py out of the Statement). -/
def RX0 : String := "SnoopingCores$Bus"
def TX0 : u_T := fun k => match k with
  | 0 => ("SnoopingCores$Bus", "cores", "[LSnoopingCores$Core;", true)
  | 1 => ("SnoopingCores$Bus", "mainMemory", "LSnoopingCores$Memory;", true)
  | 2 => ("SnoopingCores$Bus", "phasesDone", "[I", true)
  | 3 => ("SnoopingCores$Bus", "kept", "[I", true)
  | 4 => ("SnoopingCores$Bus", "anotherHadIt", "Z", false)
  | 5 => ("SnoopingCores$Bus", "phase", "I", false)
  | 6 => ("SnoopingCores$Bus", "asker", "I", false)
  | 7 => ("SnoopingCores$Bus", "request", "I", false)
  | _ => ("SnoopingCores$Bus", "line", "I", false)
def tyX0 : Nat → FieldType := fun k => match k with
  | 0 => .array (.object "SnoopingCores$Core")
  | 1 => .object "SnoopingCores$Memory"
  | 2 => .array .int
  | 3 => .array .int
  | 4 => .boolean
  | 5 => .int
  | 6 => .int
  | 7 => .int
  | _ => .int
theorem nmX0 : ∀ a, a < 9 → ∀ b, b < 9 → a ≠ b → (TX0 a).2.1 ≠ (TX0 b).2.1 := by decide +kernel
theorem tyX0_ok : ∀ k, k < 9 → parseFieldDescriptor (TX0 k).2.2.1 = some (tyX0 k) := by decide +kernel
def RX1 : String := "SnoopingCores$Core"
def TX1 : u_T := fun k => match k with
  | 0 => ("SnoopingCores$Core", "number", "I", true)
  | 1 => ("SnoopingCores$Core", "mainMemory", "LSnoopingCores$Memory;", true)
  | 2 => ("SnoopingCores$Core", "code", "[I", true)
  | 3 => ("SnoopingCores$Core", "registers", "[I", true)
  | 4 => ("SnoopingCores$Core", "slots", "[LSnoopingCores$Slot;", true)
  | 5 => ("SnoopingCores$Core", "place", "I", false)
  | 6 => ("SnoopingCores$Core", "status", "I", false)
  | 7 => ("SnoopingCores$Core", "done", "I", false)
  | 8 => ("SnoopingCores$Core", "request", "I", false)
  | _ => ("SnoopingCores$Core", "requestLine", "I", false)
def tyX1 : Nat → FieldType := fun k => match k with
  | 0 => .int
  | 1 => .object "SnoopingCores$Memory"
  | 2 => .array .int
  | 3 => .array .int
  | 4 => .array (.object "SnoopingCores$Slot")
  | 5 => .int
  | 6 => .int
  | 7 => .int
  | 8 => .int
  | _ => .int
theorem nmX1 : ∀ a, a < 10 → ∀ b, b < 10 → a ≠ b → (TX1 a).2.1 ≠ (TX1 b).2.1 := by decide +kernel
theorem tyX1_ok : ∀ k, k < 10 → parseFieldDescriptor (TX1 k).2.2.1 = some (tyX1 k) := by decide +kernel
def RX2 : String := "SnoopingCores$Memory"
def TX2 : u_T := fun k => match k with
  | 0 => ("SnoopingCores$Memory", "width", "I", true)
  | _ => ("SnoopingCores$Memory", "words", "[I", true)
def tyX2 : Nat → FieldType := fun k => match k with
  | 0 => .int
  | _ => .array .int
theorem nmX2 : ∀ a, a < 2 → ∀ b, b < 2 → a ≠ b → (TX2 a).2.1 ≠ (TX2 b).2.1 := by decide +kernel
theorem tyX2_ok : ∀ k, k < 2 → parseFieldDescriptor (TX2 k).2.2.1 = some (tyX2 k) := by decide +kernel
def RX3 : String := "SnoopingCores$Slot"
def TX3 : u_T := fun k => match k with
  | 0 => ("SnoopingCores$Slot", "words", "[I", true)
  | 1 => ("SnoopingCores$Slot", "state", "I", false)
  | _ => ("SnoopingCores$Slot", "line", "I", false)
def tyX3 : Nat → FieldType := fun k => match k with
  | 0 => .array .int
  | 1 => .int
  | _ => .int
theorem nmX3 : ∀ a, a < 3 → ∀ b, b < 3 → a ≠ b → (TX3 a).2.1 ≠ (TX3 b).2.1 := by decide +kernel
theorem tyX3_ok : ∀ k, k < 3 → parseFieldDescriptor (TX3 k).2.2.1 = some (tyX3 k) := by decide +kernel
def RX4 : String := "SnoopingCores"
def TX4 : u_T := fun k => match k with
  | 0 => ("SnoopingCores", "mainMemory", "LSnoopingCores$Memory;", true)
  | 1 => ("SnoopingCores", "cores", "[LSnoopingCores$Core;", true)
  | 2 => ("SnoopingCores", "bus", "LSnoopingCores$Bus;", true)
  | _ => ("SnoopingCores", "stepped", "Z", false)
def tyX4 : Nat → FieldType := fun k => match k with
  | 0 => .object "SnoopingCores$Memory"
  | 1 => .array (.object "SnoopingCores$Core")
  | 2 => .object "SnoopingCores$Bus"
  | _ => .boolean
theorem nmX4 : ∀ a, a < 4 → ∀ b, b < 4 → a ≠ b → (TX4 a).2.1 ≠ (TX4 b).2.1 := by decide +kernel
theorem tyX4_ok : ∀ k, k < 4 → parseFieldDescriptor (TX4 k).2.2.1 = some (tyX4 k) := by decide +kernel
def RX5 : String := "SnoopingCoresModel"
def TX5 : u_T := fun k => match k with
  | 0 => ("SnoopingCoresModel", "cpus", "I", false)
  | 1 => ("SnoopingCoresModel", "slots", "I", false)
  | 2 => ("SnoopingCoresModel", "width", "I", false)
  | 3 => ("SnoopingCoresModel", "size", "I", false)
  | 4 => ("SnoopingCoresModel", "length", "I", false)
  | 5 => ("SnoopingCoresModel", "memory", "[I", false)
  | 6 => ("SnoopingCoresModel", "code", "[I", false)
  | 7 => ("SnoopingCoresModel", "stepped", "Z", false)
  | 8 => ("SnoopingCoresModel", "register", "[I", false)
  | 9 => ("SnoopingCoresModel", "place", "[I", false)
  | 10 => ("SnoopingCoresModel", "status", "[I", false)
  | 11 => ("SnoopingCoresModel", "did", "[I", false)
  | 12 => ("SnoopingCoresModel", "request", "[I", false)
  | 13 => ("SnoopingCoresModel", "wanted", "[I", false)
  | 14 => ("SnoopingCoresModel", "state", "[I", false)
  | 15 => ("SnoopingCoresModel", "line", "[I", false)
  | 16 => ("SnoopingCoresModel", "words", "[I", false)
  | 17 => ("SnoopingCoresModel", "phase", "I", false)
  | 18 => ("SnoopingCoresModel", "mover", "I", false)
  | 19 => ("SnoopingCoresModel", "kind", "I", false)
  | 20 => ("SnoopingCoresModel", "moved", "I", false)
  | 21 => ("SnoopingCoresModel", "others", "Z", false)
  | 22 => ("SnoopingCoresModel", "kept", "[I", false)
  | _ => ("SnoopingCoresModel", "phases", "[I", false)
def tyX5 : Nat → FieldType := fun k => match k with
  | 0 => .int
  | 1 => .int
  | 2 => .int
  | 3 => .int
  | 4 => .int
  | 5 => .array .int
  | 6 => .array .int
  | 7 => .boolean
  | 8 => .array .int
  | 9 => .array .int
  | 10 => .array .int
  | 11 => .array .int
  | 12 => .array .int
  | 13 => .array .int
  | 14 => .array .int
  | 15 => .array .int
  | 16 => .array .int
  | 17 => .int
  | 18 => .int
  | 19 => .int
  | 20 => .int
  | 21 => .boolean
  | 22 => .array .int
  | _ => .array .int
theorem nmX5 : ∀ a, a < 24 → ∀ b, b < 24 → a ≠ b → (TX5 a).2.1 ≠ (TX5 b).2.1 := by decide +kernel
theorem tyX5_ok : ∀ k, k < 24 → parseFieldDescriptor (TX5 k).2.2.1 = some (tyX5 k) := by decide +kernel
def RL : String := "SnoopingCoresLaw"
abbrev cX4_init : ByteArray := prog_1_method_1_code
def yX4_init : MethodName := ⟨RX4, "<init>", "(IIIII)V"⟩
abbrev cX4_limited : ByteArray := prog_1_method_16_code
def yX4_limited : MethodName := ⟨RX4, "limited", "(III)I"⟩
abbrev cX2_init : ByteArray := prog_4_method_1_code
def yX2_init : MethodName := ⟨RX2, "<init>", "(II)V"⟩
abbrev cX1_init : ByteArray := prog_3_method_1_code
def yX1_init : MethodName := ⟨RX1, "<init>", "(IIILSnoopingCores$Memory;)V"⟩
abbrev cX3_init : ByteArray := prog_5_method_1_code
def yX3_init : MethodName := ⟨RX3, "<init>", "(I)V"⟩
abbrev cX0_init : ByteArray := prog_2_method_1_code
def yX0_init : MethodName := ⟨RX0, "<init>", "([LSnoopingCores$Core;LSnoopingCores$Memory;)V"⟩
abbrev cX4_load : ByteArray := prog_1_method_2_code
def yX4_load : MethodName := ⟨RX4, "load", "(III)Z"⟩
abbrev cX4_hasCore : ByteArray := prog_1_method_13_code
def yX4_hasCore : MethodName := ⟨RX4, "hasCore", "(I)Z"⟩
abbrev cX4_within : ByteArray := prog_1_method_15_code
def yX4_within : MethodName := ⟨RX4, "within", "(II)Z"⟩
abbrev cX4_poke : ByteArray := prog_1_method_3_code
def yX4_poke : MethodName := ⟨RX4, "poke", "(II)Z"⟩
abbrev cX2_has : ByteArray := prog_4_method_2_code
def yX2_has : MethodName := ⟨RX2, "has", "(I)Z"⟩
abbrev cX4_step : ByteArray := prog_1_method_4_code
def yX4_step : MethodName := ⟨RX4, "step", "(I)I"⟩
abbrev cX1_goOn : ByteArray := prog_3_method_4_code
def yX1_goOn : MethodName := ⟨RX1, "goOn", "()V"⟩
abbrev cX1_tryInstruction : ByteArray := prog_3_method_5_code
def yX1_tryInstruction : MethodName := ⟨RX1, "tryInstruction", "(I)V"⟩
abbrev cX1_fieldA : ByteArray := prog_3_method_13_code
def yX1_fieldA : MethodName := ⟨RX1, "fieldA", "(I)I"⟩
abbrev cX1_fieldB : ByteArray := prog_3_method_14_code
def yX1_fieldB : MethodName := ⟨RX1, "fieldB", "(I)I"⟩
abbrev cX1_fieldC : ByteArray := prog_3_method_15_code
def yX1_fieldC : MethodName := ⟨RX1, "fieldC", "(I)I"⟩
abbrev cX1_fieldN : ByteArray := prog_3_method_16_code
def yX1_fieldN : MethodName := ⟨RX1, "fieldN", "(I)I"⟩
abbrev cX1_operation : ByteArray := prog_3_method_12_code
def yX1_operation : MethodName := ⟨RX1, "operation", "(I)I"⟩
abbrev cX1_finish : ByteArray := prog_3_method_11_code
def yX1_finish : MethodName := ⟨RX1, "finish", "(I)V"⟩
abbrev cX1_answer : ByteArray := prog_3_method_10_code
def yX1_answer : MethodName := ⟨RX1, "answer", "(II)V"⟩
abbrev cX1_tryAccess : ByteArray := prog_3_method_6_code
def yX1_tryAccess : MethodName := ⟨RX1, "tryAccess", "(II)V"⟩
abbrev cX2_lineOf : ByteArray := prog_4_method_3_code
def yX2_lineOf : MethodName := ⟨RX2, "lineOf", "(I)I"⟩
abbrev cX1_slotFor : ByteArray := prog_3_method_3_code
def yX1_slotFor : MethodName := ⟨RX1, "slotFor", "(I)LSnoopingCores$Slot;"⟩
abbrev cX1_indexFor : ByteArray := prog_3_method_2_code
def yX1_indexFor : MethodName := ⟨RX1, "indexFor", "(I)I"⟩
abbrev cX3_holds : ByteArray := prog_5_method_2_code
def yX3_holds : MethodName := ⟨RX3, "holds", "(I)Z"⟩
abbrev cX3_maySetWords : ByteArray := prog_5_method_4_code
def yX3_maySetWords : MethodName := ⟨RX3, "maySetWords", "()Z"⟩
abbrev cX2_offsetOf : ByteArray := prog_4_method_4_code
def yX2_offsetOf : MethodName := ⟨RX2, "offsetOf", "(I)I"⟩
abbrev cX1_access : ByteArray := prog_3_method_7_code
def yX1_access : MethodName := ⟨RX1, "access", "(ILSnoopingCores$Slot;I)V"⟩
abbrev cX3_setWord : ByteArray := prog_5_method_5_code
def yX3_setWord : MethodName := ⟨RX3, "setWord", "(II)V"⟩
abbrev cX1_ask : ByteArray := prog_3_method_8_code
def yX1_ask : MethodName := ⟨RX1, "ask", "(II)V"⟩
abbrev cX4_bus : ByteArray := prog_1_method_5_code
def yX4_bus : MethodName := ⟨RX4, "bus", "()I"⟩
abbrev cX0_doNextPhase : ByteArray := prog_2_method_3_code
def yX0_doNextPhase : MethodName := ⟨RX0, "doNextPhase", "()I"⟩
abbrev cX0_lowestWithRequest : ByteArray := prog_2_method_4_code
def yX0_lowestWithRequest : MethodName := ⟨RX0, "lowestWithRequest", "()I"⟩
abbrev cX0_phaseAfter : ByteArray := prog_2_method_5_code
def yX0_phaseAfter : MethodName := ⟨RX0, "phaseAfter", "(ILSnoopingCores$Core;)I"⟩
abbrev cX0_mustWriteBack : ByteArray := prog_2_method_6_code
def yX0_mustWriteBack : MethodName := ⟨RX0, "mustWriteBack", "(LSnoopingCores$Slot;)Z"⟩
abbrev cX3_isNewerThanMemory : ByteArray := prog_5_method_3_code
def yX3_isNewerThanMemory : MethodName := ⟨RX3, "isNewerThanMemory", "()Z"⟩
abbrev cX0_begin : ByteArray := prog_2_method_7_code
def yX0_begin : MethodName := ⟨RX0, "begin", "(LSnoopingCores$Core;)V"⟩
abbrev cX1_forgetRequest : ByteArray := prog_3_method_9_code
def yX1_forgetRequest : MethodName := ⟨RX1, "forgetRequest", "()V"⟩
abbrev cX2_giveUp : ByteArray := prog_4_method_6_code
def yX2_giveUp : MethodName := ⟨RX2, "giveUp", "(LSnoopingCores$Slot;)V"⟩
abbrev cX0_snoop : ByteArray := prog_2_method_8_code
def yX0_snoop : MethodName := ⟨RX0, "snoop", "()V"⟩
abbrev cX2_readLine : ByteArray := prog_4_method_5_code
def yX2_readLine : MethodName := ⟨RX2, "readLine", "(I[I)V"⟩
abbrev cX0_lookOn : ByteArray := prog_2_method_9_code
def yX0_lookOn : MethodName := ⟨RX0, "lookOn", "(LSnoopingCores$Slot;)V"⟩
abbrev cX3_letOthersRead : ByteArray := prog_5_method_7_code
def yX3_letOthersRead : MethodName := ⟨RX3, "letOthersRead", "()V"⟩
abbrev cX0_supply : ByteArray := prog_2_method_10_code
def yX0_supply : MethodName := ⟨RX0, "supply", "(LSnoopingCores$Core;)V"⟩
abbrev cX3_take : ByteArray := prog_5_method_6_code
def yX3_take : MethodName := ⟨RX3, "take", "(I[I)V"⟩
abbrev cX0_end : ByteArray := prog_2_method_11_code
def yX0_end : MethodName := ⟨RX0, "end", "()V"⟩
abbrev cX4_evict : ByteArray := prog_1_method_6_code
def yX4_evict : MethodName := ⟨RX4, "evict", "(II)I"⟩
abbrev cX4_hasSlot : ByteArray := prog_1_method_14_code
def yX4_hasSlot : MethodName := ⟨RX4, "hasSlot", "(II)Z"⟩
abbrev cX0_needs : ByteArray := prog_2_method_2_code
def yX0_needs : MethodName := ⟨RX0, "needs", "(II)Z"⟩
abbrev cX4_register : ByteArray := prog_1_method_7_code
def yX4_register : MethodName := ⟨RX4, "register", "(II)I"⟩
abbrev cX4_cpu : ByteArray := prog_1_method_8_code
def yX4_cpu : MethodName := ⟨RX4, "cpu", "(II)I"⟩
abbrev cX4_slot : ByteArray := prog_1_method_9_code
def yX4_slot : MethodName := ⟨RX4, "slot", "(III)I"⟩
abbrev cX4_peek : ByteArray := prog_1_method_10_code
def yX4_peek : MethodName := ⟨RX4, "peek", "(I)I"⟩
abbrev cX4_memory : ByteArray := prog_1_method_11_code
def yX4_memory : MethodName := ⟨RX4, "memory", "(I)I"⟩
abbrev cX4_state : ByteArray := prog_1_method_12_code
def yX4_state : MethodName := ⟨RX4, "state", "(I)I"⟩
abbrev cL_cell : ByteArray := method_2_code
def yL_cell : MethodName := ⟨RL, "cell", "([II)I"⟩
abbrev cX5_init : ByteArray := prog_7_method_1_code
def yX5_init : MethodName := ⟨RX5, "<init>", "(IIIII)V"⟩
abbrev cX5_clamp : ByteArray := prog_7_method_2_code
def yX5_clamp : MethodName := ⟨RX5, "clamp", "(III)I"⟩
abbrev cX5_load : ByteArray := prog_7_method_5_code
def yX5_load : MethodName := ⟨RX5, "load", "(III)Z"⟩
abbrev cX5_isCpu : ByteArray := prog_7_method_3_code
def yX5_isCpu : MethodName := ⟨RX5, "isCpu", "(I)Z"⟩
abbrev cX5_poke : ByteArray := prog_7_method_6_code
def yX5_poke : MethodName := ⟨RX5, "poke", "(II)Z"⟩
abbrev cX5_isAddress : ByteArray := prog_7_method_4_code
def yX5_isAddress : MethodName := ⟨RX5, "isAddress", "(I)Z"⟩
abbrev cX5_step : ByteArray := prog_7_method_16_code
def yX5_step : MethodName := ⟨RX5, "step", "(I)I"⟩
abbrev cX5_answer : ByteArray := prog_7_method_13_code
def yX5_answer : MethodName := ⟨RX5, "answer", "(I)I"⟩
abbrev cX5_trap : ByteArray := prog_7_method_12_code
def yX5_trap : MethodName := ⟨RX5, "trap", "(I)I"⟩
abbrev cX5_done : ByteArray := prog_7_method_14_code
def yX5_done : MethodName := ⟨RX5, "done", "(II)I"⟩
abbrev cX5_move : ByteArray := prog_7_method_15_code
def yX5_move : MethodName := ⟨RX5, "move", "(IIIII)I"⟩
abbrev cX5_stateOf : ByteArray := prog_7_method_8_code
def yX5_stateOf : MethodName := ⟨RX5, "stateOf", "(II)I"⟩
abbrev cX5_slotOf : ByteArray := prog_7_method_7_code
def yX5_slotOf : MethodName := ⟨RX5, "slotOf", "(II)I"⟩
abbrev cX5_bus : ByteArray := prog_7_method_21_code
def yX5_bus : MethodName := ⟨RX5, "bus", "()I"⟩
abbrev cX5_take : ByteArray := prog_7_method_18_code
def yX5_take : MethodName := ⟨RX5, "take", "()I"⟩
abbrev cX5_phase : ByteArray := prog_7_method_17_code
def yX5_phase : MethodName := ⟨RX5, "phase", "(I)I"⟩
abbrev cX5_supply : ByteArray := prog_7_method_20_code
def yX5_supply : MethodName := ⟨RX5, "supply", "()I"⟩
abbrev cX5_isDirty : ByteArray := prog_7_method_9_code
def yX5_isDirty : MethodName := ⟨RX5, "isDirty", "(I)Z"⟩
abbrev cX5_writeBack : ByteArray := prog_7_method_10_code
def yX5_writeBack : MethodName := ⟨RX5, "writeBack", "(I)V"⟩
abbrev cX5_empty : ByteArray := prog_7_method_11_code
def yX5_empty : MethodName := ⟨RX5, "empty", "(I)V"⟩
abbrev cX5_snoop : ByteArray := prog_7_method_19_code
def yX5_snoop : MethodName := ⟨RX5, "snoop", "()I"⟩
abbrev cX5_evict : ByteArray := prog_7_method_22_code
def yX5_evict : MethodName := ⟨RX5, "evict", "(II)I"⟩
abbrev cX5_register : ByteArray := prog_7_method_23_code
def yX5_register : MethodName := ⟨RX5, "register", "(II)I"⟩
abbrev cX5_cpu : ByteArray := prog_7_method_24_code
def yX5_cpu : MethodName := ⟨RX5, "cpu", "(II)I"⟩
abbrev cX5_slot : ByteArray := prog_7_method_25_code
def yX5_slot : MethodName := ⟨RX5, "slot", "(III)I"⟩
abbrev cX5_peek : ByteArray := prog_7_method_26_code
def yX5_peek : MethodName := ⟨RX5, "peek", "(I)I"⟩
abbrev cX5_memory : ByteArray := prog_7_method_27_code
def yX5_memory : MethodName := ⟨RX5, "memory", "(I)I"⟩
abbrev cX5_state : ByteArray := prog_7_method_28_code
def yX5_state : MethodName := ⟨RX5, "state", "(I)I"⟩
abbrev cL_law : ByteArray := code
def yL_law : MethodName := ⟨RL, "law", "([I)Z"⟩
theorem dX2_init_0 : decode cX2_init 0 = .ok (.aload_n 0, 1) := by decide +kernel
theorem dX2_init_1 : decode cX2_init 1 = .ok (.invokespecial 3, 3) := by decide +kernel
theorem dX2_init_4 : decode cX2_init 4 = .ok (.aload_n 0, 1) := by decide +kernel
theorem dX2_init_5 : decode cX2_init 5 = .ok (.iload_n 1, 1) := by decide +kernel
theorem dX2_init_6 : decode cX2_init 6 = .ok (.putfield 9, 3) := by decide +kernel
theorem dX2_init_9 : decode cX2_init 9 = .ok (.aload_n 0, 1) := by decide +kernel
theorem dX2_init_10 : decode cX2_init 10 = .ok (.iload_n 2, 1) := by decide +kernel
theorem dX2_init_11 : decode cX2_init 11 = .ok (.iload_n 2, 1) := by decide +kernel
theorem dX2_init_12 : decode cX2_init 12 = .ok (.iload_n 1, 1) := by decide +kernel
theorem dX2_init_13 : decode cX2_init 13 = .ok (.irem, 1) := by decide +kernel
theorem dX2_init_14 : decode cX2_init 14 = .ok (.isub, 1) := by decide +kernel
theorem dX2_init_15 : decode cX2_init 15 = .ok (.newarray .int, 2) := by decide +kernel
theorem dX2_init_17 : decode cX2_init 17 = .ok (.putfield 15, 3) := by decide +kernel
theorem dX2_init_20 : decode cX2_init 20 = .ok (.return_, 1) := by decide +kernel
theorem dX1_init_0 : decode cX1_init 0 = .ok (.aload_n 0, 1) := by decide +kernel
theorem dX1_init_1 : decode cX1_init 1 = .ok (.invokespecial 3, 3) := by decide +kernel
theorem dX1_init_4 : decode cX1_init 4 = .ok (.aload_n 0, 1) := by decide +kernel
theorem dX1_init_5 : decode cX1_init 5 = .ok (.iconst 4, 1) := by decide +kernel
theorem dX1_init_6 : decode cX1_init 6 = .ok (.newarray .int, 2) := by decide +kernel
theorem dX1_init_8 : decode cX1_init 8 = .ok (.putfield 9, 3) := by decide +kernel
theorem dX1_init_11 : decode cX1_init 11 = .ok (.aload_n 0, 1) := by decide +kernel
theorem dX1_init_12 : decode cX1_init 12 = .ok (.iconst 0, 1) := by decide +kernel
theorem dX1_init_13 : decode cX1_init 13 = .ok (.putfield 15, 3) := by decide +kernel
theorem dX1_init_16 : decode cX1_init 16 = .ok (.aload_n 0, 1) := by decide +kernel
theorem dX1_init_17 : decode cX1_init 17 = .ok (.iconst 0, 1) := by decide +kernel
theorem dX1_init_18 : decode cX1_init 18 = .ok (.putfield 19, 3) := by decide +kernel
theorem dX1_init_21 : decode cX1_init 21 = .ok (.aload_n 0, 1) := by decide +kernel
theorem dX1_init_22 : decode cX1_init 22 = .ok (.iconst 0, 1) := by decide +kernel
theorem dX1_init_23 : decode cX1_init 23 = .ok (.putfield 22, 3) := by decide +kernel
theorem dX1_init_26 : decode cX1_init 26 = .ok (.aload_n 0, 1) := by decide +kernel
theorem dX1_init_27 : decode cX1_init 27 = .ok (.iconst 0, 1) := by decide +kernel
theorem dX1_init_28 : decode cX1_init 28 = .ok (.putfield 25, 3) := by decide +kernel
theorem dX1_init_31 : decode cX1_init 31 = .ok (.aload_n 0, 1) := by decide +kernel
theorem dX1_init_32 : decode cX1_init 32 = .ok (.iconst (-1), 1) := by decide +kernel
theorem dX1_init_33 : decode cX1_init 33 = .ok (.putfield 28, 3) := by decide +kernel
theorem dX1_init_36 : decode cX1_init 36 = .ok (.aload_n 0, 1) := by decide +kernel
theorem dX1_init_37 : decode cX1_init 37 = .ok (.iload_n 1, 1) := by decide +kernel
theorem dX1_init_38 : decode cX1_init 38 = .ok (.putfield 31, 3) := by decide +kernel
theorem dX1_init_41 : decode cX1_init 41 = .ok (.aload_n 0, 1) := by decide +kernel
theorem dX1_init_42 : decode cX1_init 42 = .ok (.aload 4, 2) := by decide +kernel
theorem dX1_init_44 : decode cX1_init 44 = .ok (.putfield 34, 3) := by decide +kernel
theorem dX1_init_47 : decode cX1_init 47 = .ok (.aload_n 0, 1) := by decide +kernel
theorem dX1_init_48 : decode cX1_init 48 = .ok (.iload_n 3, 1) := by decide +kernel
theorem dX1_init_49 : decode cX1_init 49 = .ok (.newarray .int, 2) := by decide +kernel
theorem dX1_init_51 : decode cX1_init 51 = .ok (.putfield 38, 3) := by decide +kernel
theorem dX1_init_54 : decode cX1_init 54 = .ok (.aload_n 0, 1) := by decide +kernel
theorem dX1_init_55 : decode cX1_init 55 = .ok (.iload_n 2, 1) := by decide +kernel
theorem dX1_init_56 : decode cX1_init 56 = .ok (.anewarray 41, 3) := by decide +kernel
theorem dX1_init_59 : decode cX1_init 59 = .ok (.putfield 43, 3) := by decide +kernel
theorem dX1_init_62 : decode cX1_init 62 = .ok (.iconst 0, 1) := by decide +kernel
theorem dX1_init_63 : decode cX1_init 63 = .ok (.istore 5, 2) := by decide +kernel
theorem dX1_init_65 : decode cX1_init 65 = .ok (.iload 5, 2) := by decide +kernel
theorem dX1_init_67 : decode cX1_init 67 = .ok (.iload_n 2, 1) := by decide +kernel
theorem dX1_init_68 : decode cX1_init 68 = .ok (.if_icmp .ge 28, 3) := by decide +kernel
theorem dX1_init_71 : decode cX1_init 71 = .ok (.aload_n 0, 1) := by decide +kernel
theorem dX1_init_72 : decode cX1_init 72 = .ok (.getfield 43, 3) := by decide +kernel
theorem dX1_init_75 : decode cX1_init 75 = .ok (.iload 5, 2) := by decide +kernel
theorem dX1_init_77 : decode cX1_init 77 = .ok (.new 41, 3) := by decide +kernel
theorem dX1_init_80 : decode cX1_init 80 = .ok (.dup, 1) := by decide +kernel
theorem dX1_init_81 : decode cX1_init 81 = .ok (.aload 4, 2) := by decide +kernel
theorem dX1_init_83 : decode cX1_init 83 = .ok (.getfield 47, 3) := by decide +kernel
theorem dX1_init_86 : decode cX1_init 86 = .ok (.invokespecial 52, 3) := by decide +kernel
theorem dX1_init_89 : decode cX1_init 89 = .ok (.aastore, 1) := by decide +kernel
theorem dX1_init_90 : decode cX1_init 90 = .ok (.iinc 5 1, 3) := by decide +kernel
theorem dX1_init_93 : decode cX1_init 93 = .ok (.goto (-28), 3) := by decide +kernel
theorem dX1_init_96 : decode cX1_init 96 = .ok (.return_, 1) := by decide +kernel
theorem dX3_init_0 : decode cX3_init 0 = .ok (.aload_n 0, 1) := by decide +kernel
theorem dX3_init_1 : decode cX3_init 1 = .ok (.invokespecial 3, 3) := by decide +kernel
theorem dX3_init_4 : decode cX3_init 4 = .ok (.aload_n 0, 1) := by decide +kernel
theorem dX3_init_5 : decode cX3_init 5 = .ok (.iconst 0, 1) := by decide +kernel
theorem dX3_init_6 : decode cX3_init 6 = .ok (.putfield 9, 3) := by decide +kernel
theorem dX3_init_9 : decode cX3_init 9 = .ok (.aload_n 0, 1) := by decide +kernel
theorem dX3_init_10 : decode cX3_init 10 = .ok (.iconst (-1), 1) := by decide +kernel
theorem dX3_init_11 : decode cX3_init 11 = .ok (.putfield 15, 3) := by decide +kernel
theorem dX3_init_14 : decode cX3_init 14 = .ok (.aload_n 0, 1) := by decide +kernel
theorem dX3_init_15 : decode cX3_init 15 = .ok (.iload_n 1, 1) := by decide +kernel
theorem dX3_init_16 : decode cX3_init 16 = .ok (.newarray .int, 2) := by decide +kernel
theorem dX3_init_18 : decode cX3_init 18 = .ok (.putfield 18, 3) := by decide +kernel
theorem dX3_init_21 : decode cX3_init 21 = .ok (.return_, 1) := by decide +kernel
theorem dX0_init_0 : decode cX0_init 0 = .ok (.aload_n 0, 1) := by decide +kernel
theorem dX0_init_1 : decode cX0_init 1 = .ok (.invokespecial 3, 3) := by decide +kernel
theorem dX0_init_4 : decode cX0_init 4 = .ok (.aload_n 0, 1) := by decide +kernel
theorem dX0_init_5 : decode cX0_init 5 = .ok (.iconst 4, 1) := by decide +kernel
theorem dX0_init_6 : decode cX0_init 6 = .ok (.newarray .int, 2) := by decide +kernel
theorem dX0_init_8 : decode cX0_init 8 = .ok (.putfield 9, 3) := by decide +kernel
theorem dX0_init_11 : decode cX0_init 11 = .ok (.aload_n 0, 1) := by decide +kernel
theorem dX0_init_12 : decode cX0_init 12 = .ok (.iconst 0, 1) := by decide +kernel
theorem dX0_init_13 : decode cX0_init 13 = .ok (.putfield 15, 3) := by decide +kernel
theorem dX0_init_16 : decode cX0_init 16 = .ok (.aload_n 0, 1) := by decide +kernel
theorem dX0_init_17 : decode cX0_init 17 = .ok (.iconst 0, 1) := by decide +kernel
theorem dX0_init_18 : decode cX0_init 18 = .ok (.putfield 19, 3) := by decide +kernel
theorem dX0_init_21 : decode cX0_init 21 = .ok (.aload_n 0, 1) := by decide +kernel
theorem dX0_init_22 : decode cX0_init 22 = .ok (.iconst (-1), 1) := by decide +kernel
theorem dX0_init_23 : decode cX0_init 23 = .ok (.putfield 23, 3) := by decide +kernel
theorem dX0_init_26 : decode cX0_init 26 = .ok (.aload_n 0, 1) := by decide +kernel
theorem dX0_init_27 : decode cX0_init 27 = .ok (.iconst 0, 1) := by decide +kernel
theorem dX0_init_28 : decode cX0_init 28 = .ok (.putfield 26, 3) := by decide +kernel
theorem dX0_init_31 : decode cX0_init 31 = .ok (.aload_n 0, 1) := by decide +kernel
theorem dX0_init_32 : decode cX0_init 32 = .ok (.iconst (-1), 1) := by decide +kernel
theorem dX0_init_33 : decode cX0_init 33 = .ok (.putfield 29, 3) := by decide +kernel
theorem dX0_init_36 : decode cX0_init 36 = .ok (.aload_n 0, 1) := by decide +kernel
theorem dX0_init_37 : decode cX0_init 37 = .ok (.aload_n 1, 1) := by decide +kernel
theorem dX0_init_38 : decode cX0_init 38 = .ok (.putfield 32, 3) := by decide +kernel
theorem dX0_init_41 : decode cX0_init 41 = .ok (.aload_n 0, 1) := by decide +kernel
theorem dX0_init_42 : decode cX0_init 42 = .ok (.aload_n 2, 1) := by decide +kernel
theorem dX0_init_43 : decode cX0_init 43 = .ok (.putfield 36, 3) := by decide +kernel
theorem dX0_init_46 : decode cX0_init 46 = .ok (.aload_n 0, 1) := by decide +kernel
theorem dX0_init_47 : decode cX0_init 47 = .ok (.aload_n 2, 1) := by decide +kernel
theorem dX0_init_48 : decode cX0_init 48 = .ok (.getfield 40, 3) := by decide +kernel
theorem dX0_init_51 : decode cX0_init 51 = .ok (.newarray .int, 2) := by decide +kernel
theorem dX0_init_53 : decode cX0_init 53 = .ok (.putfield 45, 3) := by decide +kernel
theorem dX0_init_56 : decode cX0_init 56 = .ok (.return_, 1) := by decide +kernel
theorem dX2_has_0 : decode cX2_has 0 = .ok (.iload_n 1, 1) := by decide +kernel
theorem dX2_has_1 : decode cX2_has 1 = .ok (.aload_n 0, 1) := by decide +kernel
theorem dX2_has_2 : decode cX2_has 2 = .ok (.getfield 15, 3) := by decide +kernel
theorem dX2_has_5 : decode cX2_has 5 = .ok (.arraylength, 1) := by decide +kernel
theorem dX2_has_6 : decode cX2_has 6 = .ok (.invokestatic 19, 3) := by decide +kernel
theorem dX2_has_9 : decode cX2_has 9 = .ok (.ireturn, 1) := by decide +kernel
theorem dX1_goOn_0 : decode cX1_goOn 0 = .ok (.aload_n 0, 1) := by decide +kernel
theorem dX1_goOn_1 : decode cX1_goOn 1 = .ok (.getfield 19, 3) := by decide +kernel
theorem dX1_goOn_4 : decode cX1_goOn 4 = .ok (.ifCond .eq 4, 3) := by decide +kernel
theorem dX1_goOn_7 : decode cX1_goOn 7 = .ok (.return_, 1) := by decide +kernel
theorem dX1_goOn_8 : decode cX1_goOn 8 = .ok (.aload_n 0, 1) := by decide +kernel
theorem dX1_goOn_9 : decode cX1_goOn 9 = .ok (.getfield 15, 3) := by decide +kernel
theorem dX1_goOn_12 : decode cX1_goOn 12 = .ok (.aload_n 0, 1) := by decide +kernel
theorem dX1_goOn_13 : decode cX1_goOn 13 = .ok (.getfield 38, 3) := by decide +kernel
theorem dX1_goOn_16 : decode cX1_goOn 16 = .ok (.arraylength, 1) := by decide +kernel
theorem dX1_goOn_17 : decode cX1_goOn 17 = .ok (.invokestatic 59, 3) := by decide +kernel
theorem dX1_goOn_20 : decode cX1_goOn 20 = .ok (.ifCond .eq 19, 3) := by decide +kernel
theorem dX1_goOn_23 : decode cX1_goOn 23 = .ok (.aload_n 0, 1) := by decide +kernel
theorem dX1_goOn_24 : decode cX1_goOn 24 = .ok (.aload_n 0, 1) := by decide +kernel
theorem dX1_goOn_25 : decode cX1_goOn 25 = .ok (.getfield 38, 3) := by decide +kernel
theorem dX1_goOn_28 : decode cX1_goOn 28 = .ok (.aload_n 0, 1) := by decide +kernel
theorem dX1_goOn_29 : decode cX1_goOn 29 = .ok (.getfield 15, 3) := by decide +kernel
theorem dX1_goOn_32 : decode cX1_goOn 32 = .ok (.iaload, 1) := by decide +kernel
theorem dX1_goOn_33 : decode cX1_goOn 33 = .ok (.invokevirtual 63, 3) := by decide +kernel
theorem dX1_goOn_36 : decode cX1_goOn 36 = .ok (.goto 8, 3) := by decide +kernel
theorem dX1_goOn_39 : decode cX1_goOn 39 = .ok (.aload_n 0, 1) := by decide +kernel
theorem dX1_goOn_40 : decode cX1_goOn 40 = .ok (.iconst 3, 1) := by decide +kernel
theorem dX1_goOn_41 : decode cX1_goOn 41 = .ok (.putfield 19, 3) := by decide +kernel
theorem dX1_goOn_44 : decode cX1_goOn 44 = .ok (.return_, 1) := by decide +kernel
theorem dX1_tryInstruction_0 : decode cX1_tryInstruction 0 = .ok (.aload_n 0, 1) := by decide +kernel
theorem dX1_tryInstruction_1 : decode cX1_tryInstruction 1 = .ok (.getfield 9, 3) := by decide +kernel
theorem dX1_tryInstruction_4 : decode cX1_tryInstruction 4 = .ok (.iload_n 1, 1) := by decide +kernel
theorem dX1_tryInstruction_5 : decode cX1_tryInstruction 5 = .ok (.invokestatic 66, 3) := by decide +kernel
theorem dX1_tryInstruction_8 : decode cX1_tryInstruction 8 = .ok (.iaload, 1) := by decide +kernel
theorem dX1_tryInstruction_9 : decode cX1_tryInstruction 9 = .ok (.istore_n 2, 1) := by decide +kernel
theorem dX1_tryInstruction_10 : decode cX1_tryInstruction 10 = .ok (.aload_n 0, 1) := by decide +kernel
theorem dX1_tryInstruction_11 : decode cX1_tryInstruction 11 = .ok (.getfield 9, 3) := by decide +kernel
theorem dX1_tryInstruction_14 : decode cX1_tryInstruction 14 = .ok (.iload_n 1, 1) := by decide +kernel
theorem dX1_tryInstruction_15 : decode cX1_tryInstruction 15 = .ok (.invokestatic 69, 3) := by decide +kernel
theorem dX1_tryInstruction_18 : decode cX1_tryInstruction 18 = .ok (.iaload, 1) := by decide +kernel
theorem dX1_tryInstruction_19 : decode cX1_tryInstruction 19 = .ok (.istore_n 3, 1) := by decide +kernel
theorem dX1_tryInstruction_20 : decode cX1_tryInstruction 20 = .ok (.aload_n 0, 1) := by decide +kernel
theorem dX1_tryInstruction_21 : decode cX1_tryInstruction 21 = .ok (.getfield 9, 3) := by decide +kernel
theorem dX1_tryInstruction_24 : decode cX1_tryInstruction 24 = .ok (.iload_n 1, 1) := by decide +kernel
theorem dX1_tryInstruction_25 : decode cX1_tryInstruction 25 = .ok (.invokestatic 72, 3) := by decide +kernel
theorem dX1_tryInstruction_28 : decode cX1_tryInstruction 28 = .ok (.iaload, 1) := by decide +kernel
theorem dX1_tryInstruction_29 : decode cX1_tryInstruction 29 = .ok (.istore 4, 2) := by decide +kernel
theorem dX1_tryInstruction_31 : decode cX1_tryInstruction 31 = .ok (.iload_n 1, 1) := by decide +kernel
theorem dX1_tryInstruction_32 : decode cX1_tryInstruction 32 = .ok (.invokestatic 75, 3) := by decide +kernel
theorem dX1_tryInstruction_35 : decode cX1_tryInstruction 35 = .ok (.istore 5, 2) := by decide +kernel
theorem dX1_tryInstruction_37 : decode cX1_tryInstruction 37 = .ok (.iload_n 1, 1) := by decide +kernel
theorem dX1_tryInstruction_38 : decode cX1_tryInstruction 38 = .ok (.invokestatic 78, 3) := by decide +kernel
theorem dX1_tryInstruction_41 : decode cX1_tryInstruction 41 = .ok (.tableswitch 194 0 11 #[63, 81, 91, 103, 115, 127, 139, 151, 173, 182, 182, 182], 63) := by decide +kernel
theorem dX1_tryInstruction_104 : decode cX1_tryInstruction 104 = .ok (.aload_n 0, 1) := by decide +kernel
theorem dX1_tryInstruction_105 : decode cX1_tryInstruction 105 = .ok (.iconst 2, 1) := by decide +kernel
theorem dX1_tryInstruction_106 : decode cX1_tryInstruction 106 = .ok (.putfield 19, 3) := by decide +kernel
theorem dX1_tryInstruction_109 : decode cX1_tryInstruction 109 = .ok (.aload_n 0, 1) := by decide +kernel
theorem dX1_tryInstruction_110 : decode cX1_tryInstruction 110 = .ok (.aload_n 0, 1) := by decide +kernel
theorem dX1_tryInstruction_111 : decode cX1_tryInstruction 111 = .ok (.getfield 15, 3) := by decide +kernel
theorem dX1_tryInstruction_114 : decode cX1_tryInstruction 114 = .ok (.iconst 1, 1) := by decide +kernel
theorem dX1_tryInstruction_115 : decode cX1_tryInstruction 115 = .ok (.iadd, 1) := by decide +kernel
theorem dX1_tryInstruction_116 : decode cX1_tryInstruction 116 = .ok (.invokevirtual 81, 3) := by decide +kernel
theorem dX1_tryInstruction_119 : decode cX1_tryInstruction 119 = .ok (.goto 121, 3) := by decide +kernel
theorem dX1_tryInstruction_122 : decode cX1_tryInstruction 122 = .ok (.aload_n 0, 1) := by decide +kernel
theorem dX1_tryInstruction_123 : decode cX1_tryInstruction 123 = .ok (.iload_n 1, 1) := by decide +kernel
theorem dX1_tryInstruction_124 : decode cX1_tryInstruction 124 = .ok (.iload 5, 2) := by decide +kernel
theorem dX1_tryInstruction_126 : decode cX1_tryInstruction 126 = .ok (.invokevirtual 84, 3) := by decide +kernel
theorem dX1_tryInstruction_129 : decode cX1_tryInstruction 129 = .ok (.goto 111, 3) := by decide +kernel
theorem dX1_tryInstruction_132 : decode cX1_tryInstruction 132 = .ok (.aload_n 0, 1) := by decide +kernel
theorem dX1_tryInstruction_133 : decode cX1_tryInstruction 133 = .ok (.iload_n 1, 1) := by decide +kernel
theorem dX1_tryInstruction_134 : decode cX1_tryInstruction 134 = .ok (.iload_n 3, 1) := by decide +kernel
theorem dX1_tryInstruction_135 : decode cX1_tryInstruction 135 = .ok (.iload 4, 2) := by decide +kernel
theorem dX1_tryInstruction_137 : decode cX1_tryInstruction 137 = .ok (.iadd, 1) := by decide +kernel
theorem dX1_tryInstruction_138 : decode cX1_tryInstruction 138 = .ok (.invokevirtual 84, 3) := by decide +kernel
theorem dX1_tryInstruction_141 : decode cX1_tryInstruction 141 = .ok (.goto 99, 3) := by decide +kernel
theorem dX1_tryInstruction_144 : decode cX1_tryInstruction 144 = .ok (.aload_n 0, 1) := by decide +kernel
theorem dX1_tryInstruction_145 : decode cX1_tryInstruction 145 = .ok (.iload_n 1, 1) := by decide +kernel
theorem dX1_tryInstruction_146 : decode cX1_tryInstruction 146 = .ok (.iload_n 3, 1) := by decide +kernel
theorem dX1_tryInstruction_147 : decode cX1_tryInstruction 147 = .ok (.iload 4, 2) := by decide +kernel
theorem dX1_tryInstruction_149 : decode cX1_tryInstruction 149 = .ok (.isub, 1) := by decide +kernel
theorem dX1_tryInstruction_150 : decode cX1_tryInstruction 150 = .ok (.invokevirtual 84, 3) := by decide +kernel
theorem dX1_tryInstruction_153 : decode cX1_tryInstruction 153 = .ok (.goto 87, 3) := by decide +kernel
theorem dX1_tryInstruction_156 : decode cX1_tryInstruction 156 = .ok (.aload_n 0, 1) := by decide +kernel
theorem dX1_tryInstruction_157 : decode cX1_tryInstruction 157 = .ok (.iload_n 1, 1) := by decide +kernel
theorem dX1_tryInstruction_158 : decode cX1_tryInstruction 158 = .ok (.iload_n 3, 1) := by decide +kernel
theorem dX1_tryInstruction_159 : decode cX1_tryInstruction 159 = .ok (.iload 4, 2) := by decide +kernel
theorem dX1_tryInstruction_161 : decode cX1_tryInstruction 161 = .ok (.imul, 1) := by decide +kernel
theorem dX1_tryInstruction_162 : decode cX1_tryInstruction 162 = .ok (.invokevirtual 84, 3) := by decide +kernel
theorem dX1_tryInstruction_165 : decode cX1_tryInstruction 165 = .ok (.goto 75, 3) := by decide +kernel
theorem dX1_tryInstruction_168 : decode cX1_tryInstruction 168 = .ok (.aload_n 0, 1) := by decide +kernel
theorem dX1_tryInstruction_169 : decode cX1_tryInstruction 169 = .ok (.iload_n 1, 1) := by decide +kernel
theorem dX1_tryInstruction_170 : decode cX1_tryInstruction 170 = .ok (.iload_n 3, 1) := by decide +kernel
theorem dX1_tryInstruction_171 : decode cX1_tryInstruction 171 = .ok (.iload 5, 2) := by decide +kernel
theorem dX1_tryInstruction_173 : decode cX1_tryInstruction 173 = .ok (.iadd, 1) := by decide +kernel
theorem dX1_tryInstruction_174 : decode cX1_tryInstruction 174 = .ok (.invokevirtual 84, 3) := by decide +kernel
theorem dX1_tryInstruction_177 : decode cX1_tryInstruction 177 = .ok (.goto 63, 3) := by decide +kernel
theorem dX1_tryInstruction_180 : decode cX1_tryInstruction 180 = .ok (.aload_n 0, 1) := by decide +kernel
theorem dX1_tryInstruction_181 : decode cX1_tryInstruction 181 = .ok (.iload_n 1, 1) := by decide +kernel
theorem dX1_tryInstruction_182 : decode cX1_tryInstruction 182 = .ok (.aload_n 0, 1) := by decide +kernel
theorem dX1_tryInstruction_183 : decode cX1_tryInstruction 183 = .ok (.getfield 31, 3) := by decide +kernel
theorem dX1_tryInstruction_186 : decode cX1_tryInstruction 186 = .ok (.invokevirtual 84, 3) := by decide +kernel
theorem dX1_tryInstruction_189 : decode cX1_tryInstruction 189 = .ok (.goto 51, 3) := by decide +kernel
theorem dX1_tryInstruction_192 : decode cX1_tryInstruction 192 = .ok (.aload_n 0, 1) := by decide +kernel
theorem dX1_tryInstruction_193 : decode cX1_tryInstruction 193 = .ok (.iload_n 2, 1) := by decide +kernel
theorem dX1_tryInstruction_194 : decode cX1_tryInstruction 194 = .ok (.ifCond .ne 8, 3) := by decide +kernel
theorem dX1_tryInstruction_197 : decode cX1_tryInstruction 197 = .ok (.iload 5, 2) := by decide +kernel
theorem dX1_tryInstruction_199 : decode cX1_tryInstruction 199 = .ok (.goto 9, 3) := by decide +kernel
theorem dX1_tryInstruction_202 : decode cX1_tryInstruction 202 = .ok (.aload_n 0, 1) := by decide +kernel
theorem dX1_tryInstruction_203 : decode cX1_tryInstruction 203 = .ok (.getfield 15, 3) := by decide +kernel
theorem dX1_tryInstruction_206 : decode cX1_tryInstruction 206 = .ok (.iconst 1, 1) := by decide +kernel
theorem dX1_tryInstruction_207 : decode cX1_tryInstruction 207 = .ok (.iadd, 1) := by decide +kernel
theorem dX1_tryInstruction_208 : decode cX1_tryInstruction 208 = .ok (.invokevirtual 81, 3) := by decide +kernel
theorem dX1_tryInstruction_211 : decode cX1_tryInstruction 211 = .ok (.goto 29, 3) := by decide +kernel
theorem dX1_tryInstruction_214 : decode cX1_tryInstruction 214 = .ok (.aload_n 0, 1) := by decide +kernel
theorem dX1_tryInstruction_215 : decode cX1_tryInstruction 215 = .ok (.iload 5, 2) := by decide +kernel
theorem dX1_tryInstruction_217 : decode cX1_tryInstruction 217 = .ok (.invokevirtual 81, 3) := by decide +kernel
theorem dX1_tryInstruction_220 : decode cX1_tryInstruction 220 = .ok (.goto 20, 3) := by decide +kernel
theorem dX1_tryInstruction_223 : decode cX1_tryInstruction 223 = .ok (.aload_n 0, 1) := by decide +kernel
theorem dX1_tryInstruction_224 : decode cX1_tryInstruction 224 = .ok (.iload_n 1, 1) := by decide +kernel
theorem dX1_tryInstruction_225 : decode cX1_tryInstruction 225 = .ok (.iload_n 3, 1) := by decide +kernel
theorem dX1_tryInstruction_226 : decode cX1_tryInstruction 226 = .ok (.iload 5, 2) := by decide +kernel
theorem dX1_tryInstruction_228 : decode cX1_tryInstruction 228 = .ok (.iadd, 1) := by decide +kernel
theorem dX1_tryInstruction_229 : decode cX1_tryInstruction 229 = .ok (.invokevirtual 88, 3) := by decide +kernel
theorem dX1_tryInstruction_232 : decode cX1_tryInstruction 232 = .ok (.goto 8, 3) := by decide +kernel
theorem dX1_tryInstruction_235 : decode cX1_tryInstruction 235 = .ok (.aload_n 0, 1) := by decide +kernel
theorem dX1_tryInstruction_236 : decode cX1_tryInstruction 236 = .ok (.iconst 3, 1) := by decide +kernel
theorem dX1_tryInstruction_237 : decode cX1_tryInstruction 237 = .ok (.putfield 19, 3) := by decide +kernel
theorem dX1_tryInstruction_240 : decode cX1_tryInstruction 240 = .ok (.return_, 1) := by decide +kernel
theorem dX1_fieldA_0 : decode cX1_fieldA 0 = .ok (.iload_n 0, 1) := by decide +kernel
theorem dX1_fieldA_1 : decode cX1_fieldA 1 = .ok (.iconst 4, 1) := by decide +kernel
theorem dX1_fieldA_2 : decode cX1_fieldA 2 = .ok (.ishr, 1) := by decide +kernel
theorem dX1_fieldA_3 : decode cX1_fieldA 3 = .ok (.iconst 3, 1) := by decide +kernel
theorem dX1_fieldA_4 : decode cX1_fieldA 4 = .ok (.iand, 1) := by decide +kernel
theorem dX1_fieldA_5 : decode cX1_fieldA 5 = .ok (.ireturn, 1) := by decide +kernel
theorem dX1_fieldB_0 : decode cX1_fieldB 0 = .ok (.iload_n 0, 1) := by decide +kernel
theorem dX1_fieldB_1 : decode cX1_fieldB 1 = .ok (.bipush 6, 2) := by decide +kernel
theorem dX1_fieldB_3 : decode cX1_fieldB 3 = .ok (.ishr, 1) := by decide +kernel
theorem dX1_fieldB_4 : decode cX1_fieldB 4 = .ok (.iconst 3, 1) := by decide +kernel
theorem dX1_fieldB_5 : decode cX1_fieldB 5 = .ok (.iand, 1) := by decide +kernel
theorem dX1_fieldB_6 : decode cX1_fieldB 6 = .ok (.ireturn, 1) := by decide +kernel
theorem dX1_fieldC_0 : decode cX1_fieldC 0 = .ok (.iload_n 0, 1) := by decide +kernel
theorem dX1_fieldC_1 : decode cX1_fieldC 1 = .ok (.bipush 8, 2) := by decide +kernel
theorem dX1_fieldC_3 : decode cX1_fieldC 3 = .ok (.ishr, 1) := by decide +kernel
theorem dX1_fieldC_4 : decode cX1_fieldC 4 = .ok (.iconst 3, 1) := by decide +kernel
theorem dX1_fieldC_5 : decode cX1_fieldC 5 = .ok (.iand, 1) := by decide +kernel
theorem dX1_fieldC_6 : decode cX1_fieldC 6 = .ok (.ireturn, 1) := by decide +kernel
theorem dX1_fieldN_0 : decode cX1_fieldN 0 = .ok (.iload_n 0, 1) := by decide +kernel
theorem dX1_fieldN_1 : decode cX1_fieldN 1 = .ok (.bipush 10, 2) := by decide +kernel
theorem dX1_fieldN_3 : decode cX1_fieldN 3 = .ok (.ishr, 1) := by decide +kernel
theorem dX1_fieldN_4 : decode cX1_fieldN 4 = .ok (.ireturn, 1) := by decide +kernel
theorem dX1_operation_0 : decode cX1_operation 0 = .ok (.iload_n 0, 1) := by decide +kernel
theorem dX1_operation_1 : decode cX1_operation 1 = .ok (.bipush 15, 2) := by decide +kernel
theorem dX1_operation_3 : decode cX1_operation 3 = .ok (.iand, 1) := by decide +kernel
theorem dX1_operation_4 : decode cX1_operation 4 = .ok (.ireturn, 1) := by decide +kernel
theorem dX1_finish_0 : decode cX1_finish 0 = .ok (.aload_n 0, 1) := by decide +kernel
theorem dX1_finish_1 : decode cX1_finish 1 = .ok (.iload_n 1, 1) := by decide +kernel
theorem dX1_finish_2 : decode cX1_finish 2 = .ok (.putfield 15, 3) := by decide +kernel
theorem dX1_finish_5 : decode cX1_finish 5 = .ok (.aload_n 0, 1) := by decide +kernel
theorem dX1_finish_6 : decode cX1_finish 6 = .ok (.dup, 1) := by decide +kernel
theorem dX1_finish_7 : decode cX1_finish 7 = .ok (.getfield 22, 3) := by decide +kernel
theorem dX1_finish_10 : decode cX1_finish 10 = .ok (.iconst 1, 1) := by decide +kernel
theorem dX1_finish_11 : decode cX1_finish 11 = .ok (.iadd, 1) := by decide +kernel
theorem dX1_finish_12 : decode cX1_finish 12 = .ok (.putfield 22, 3) := by decide +kernel
theorem dX1_finish_15 : decode cX1_finish 15 = .ok (.return_, 1) := by decide +kernel
theorem dX1_answer_0 : decode cX1_answer 0 = .ok (.aload_n 0, 1) := by decide +kernel
theorem dX1_answer_1 : decode cX1_answer 1 = .ok (.getfield 9, 3) := by decide +kernel
theorem dX1_answer_4 : decode cX1_answer 4 = .ok (.iload_n 1, 1) := by decide +kernel
theorem dX1_answer_5 : decode cX1_answer 5 = .ok (.invokestatic 66, 3) := by decide +kernel
theorem dX1_answer_8 : decode cX1_answer 8 = .ok (.iload_n 2, 1) := by decide +kernel
theorem dX1_answer_9 : decode cX1_answer 9 = .ok (.iastore, 1) := by decide +kernel
theorem dX1_answer_10 : decode cX1_answer 10 = .ok (.aload_n 0, 1) := by decide +kernel
theorem dX1_answer_11 : decode cX1_answer 11 = .ok (.aload_n 0, 1) := by decide +kernel
theorem dX1_answer_12 : decode cX1_answer 12 = .ok (.getfield 15, 3) := by decide +kernel
theorem dX1_answer_15 : decode cX1_answer 15 = .ok (.iconst 1, 1) := by decide +kernel
theorem dX1_answer_16 : decode cX1_answer 16 = .ok (.iadd, 1) := by decide +kernel
theorem dX1_answer_17 : decode cX1_answer 17 = .ok (.invokevirtual 81, 3) := by decide +kernel
theorem dX1_answer_20 : decode cX1_answer 20 = .ok (.return_, 1) := by decide +kernel
theorem dX1_tryAccess_0 : decode cX1_tryAccess 0 = .ok (.aload_n 0, 1) := by decide +kernel
theorem dX1_tryAccess_1 : decode cX1_tryAccess 1 = .ok (.getfield 34, 3) := by decide +kernel
theorem dX1_tryAccess_4 : decode cX1_tryAccess 4 = .ok (.iload_n 2, 1) := by decide +kernel
theorem dX1_tryAccess_5 : decode cX1_tryAccess 5 = .ok (.invokevirtual 91, 3) := by decide +kernel
theorem dX1_tryAccess_8 : decode cX1_tryAccess 8 = .ok (.ifCond .ne 9, 3) := by decide +kernel
theorem dX1_tryAccess_11 : decode cX1_tryAccess 11 = .ok (.aload_n 0, 1) := by decide +kernel
theorem dX1_tryAccess_12 : decode cX1_tryAccess 12 = .ok (.iconst 3, 1) := by decide +kernel
theorem dX1_tryAccess_13 : decode cX1_tryAccess 13 = .ok (.putfield 19, 3) := by decide +kernel
theorem dX1_tryAccess_16 : decode cX1_tryAccess 16 = .ok (.return_, 1) := by decide +kernel
theorem dX1_tryAccess_17 : decode cX1_tryAccess 17 = .ok (.aload_n 0, 1) := by decide +kernel
theorem dX1_tryAccess_18 : decode cX1_tryAccess 18 = .ok (.getfield 34, 3) := by decide +kernel
theorem dX1_tryAccess_21 : decode cX1_tryAccess 21 = .ok (.iload_n 2, 1) := by decide +kernel
theorem dX1_tryAccess_22 : decode cX1_tryAccess 22 = .ok (.invokevirtual 95, 3) := by decide +kernel
theorem dX1_tryAccess_25 : decode cX1_tryAccess 25 = .ok (.istore_n 3, 1) := by decide +kernel
theorem dX1_tryAccess_26 : decode cX1_tryAccess 26 = .ok (.aload_n 0, 1) := by decide +kernel
theorem dX1_tryAccess_27 : decode cX1_tryAccess 27 = .ok (.iload_n 3, 1) := by decide +kernel
theorem dX1_tryAccess_28 : decode cX1_tryAccess 28 = .ok (.invokevirtual 98, 3) := by decide +kernel
theorem dX1_tryAccess_31 : decode cX1_tryAccess 31 = .ok (.astore 4, 2) := by decide +kernel
theorem dX1_tryAccess_33 : decode cX1_tryAccess 33 = .ok (.iload_n 1, 1) := by decide +kernel
theorem dX1_tryAccess_34 : decode cX1_tryAccess 34 = .ok (.invokestatic 78, 3) := by decide +kernel
theorem dX1_tryAccess_37 : decode cX1_tryAccess 37 = .ok (.bipush 9, 2) := by decide +kernel
theorem dX1_tryAccess_39 : decode cX1_tryAccess 39 = .ok (.if_icmp .ne 7, 3) := by decide +kernel
theorem dX1_tryAccess_42 : decode cX1_tryAccess 42 = .ok (.iconst 1, 1) := by decide +kernel
theorem dX1_tryAccess_43 : decode cX1_tryAccess 43 = .ok (.goto 4, 3) := by decide +kernel
theorem dX1_tryAccess_46 : decode cX1_tryAccess 46 = .ok (.iconst 0, 1) := by decide +kernel
theorem dX1_tryAccess_47 : decode cX1_tryAccess 47 = .ok (.istore 5, 2) := by decide +kernel
theorem dX1_tryAccess_49 : decode cX1_tryAccess 49 = .ok (.aload 4, 2) := by decide +kernel
theorem dX1_tryAccess_51 : decode cX1_tryAccess 51 = .ok (.iload_n 3, 1) := by decide +kernel
theorem dX1_tryAccess_52 : decode cX1_tryAccess 52 = .ok (.invokevirtual 102, 3) := by decide +kernel
theorem dX1_tryAccess_55 : decode cX1_tryAccess 55 = .ok (.ifCond .eq 34, 3) := by decide +kernel
theorem dX1_tryAccess_58 : decode cX1_tryAccess 58 = .ok (.iload 5, 2) := by decide +kernel
theorem dX1_tryAccess_60 : decode cX1_tryAccess 60 = .ok (.ifCond .ne 11, 3) := by decide +kernel
theorem dX1_tryAccess_63 : decode cX1_tryAccess 63 = .ok (.aload 4, 2) := by decide +kernel
theorem dX1_tryAccess_65 : decode cX1_tryAccess 65 = .ok (.invokevirtual 105, 3) := by decide +kernel
theorem dX1_tryAccess_68 : decode cX1_tryAccess 68 = .ok (.ifCond .eq 21, 3) := by decide +kernel
theorem dX1_tryAccess_71 : decode cX1_tryAccess 71 = .ok (.aload_n 0, 1) := by decide +kernel
theorem dX1_tryAccess_72 : decode cX1_tryAccess 72 = .ok (.iload_n 1, 1) := by decide +kernel
theorem dX1_tryAccess_73 : decode cX1_tryAccess 73 = .ok (.aload 4, 2) := by decide +kernel
theorem dX1_tryAccess_75 : decode cX1_tryAccess 75 = .ok (.aload_n 0, 1) := by decide +kernel
theorem dX1_tryAccess_76 : decode cX1_tryAccess 76 = .ok (.getfield 34, 3) := by decide +kernel
theorem dX1_tryAccess_79 : decode cX1_tryAccess 79 = .ok (.iload_n 2, 1) := by decide +kernel
theorem dX1_tryAccess_80 : decode cX1_tryAccess 80 = .ok (.invokevirtual 109, 3) := by decide +kernel
theorem dX1_tryAccess_83 : decode cX1_tryAccess 83 = .ok (.invokevirtual 112, 3) := by decide +kernel
theorem dX1_tryAccess_86 : decode cX1_tryAccess 86 = .ok (.goto 18, 3) := by decide +kernel
theorem dX1_tryAccess_89 : decode cX1_tryAccess 89 = .ok (.aload_n 0, 1) := by decide +kernel
theorem dX1_tryAccess_90 : decode cX1_tryAccess 90 = .ok (.iload 5, 2) := by decide +kernel
theorem dX1_tryAccess_92 : decode cX1_tryAccess 92 = .ok (.ifCond .eq 7, 3) := by decide +kernel
theorem dX1_tryAccess_95 : decode cX1_tryAccess 95 = .ok (.iconst 1, 1) := by decide +kernel
theorem dX1_tryAccess_96 : decode cX1_tryAccess 96 = .ok (.goto 4, 3) := by decide +kernel
theorem dX1_tryAccess_99 : decode cX1_tryAccess 99 = .ok (.iconst 2, 1) := by decide +kernel
theorem dX1_tryAccess_100 : decode cX1_tryAccess 100 = .ok (.iload_n 3, 1) := by decide +kernel
theorem dX1_tryAccess_101 : decode cX1_tryAccess 101 = .ok (.invokevirtual 116, 3) := by decide +kernel
theorem dX1_tryAccess_104 : decode cX1_tryAccess 104 = .ok (.return_, 1) := by decide +kernel
theorem dX2_lineOf_0 : decode cX2_lineOf 0 = .ok (.iload_n 1, 1) := by decide +kernel
theorem dX2_lineOf_1 : decode cX2_lineOf 1 = .ok (.aload_n 0, 1) := by decide +kernel
theorem dX2_lineOf_2 : decode cX2_lineOf 2 = .ok (.getfield 9, 3) := by decide +kernel
theorem dX2_lineOf_5 : decode cX2_lineOf 5 = .ok (.idiv, 1) := by decide +kernel
theorem dX2_lineOf_6 : decode cX2_lineOf 6 = .ok (.ireturn, 1) := by decide +kernel
theorem dX1_slotFor_0 : decode cX1_slotFor 0 = .ok (.aload_n 0, 1) := by decide +kernel
theorem dX1_slotFor_1 : decode cX1_slotFor 1 = .ok (.getfield 43, 3) := by decide +kernel
theorem dX1_slotFor_4 : decode cX1_slotFor 4 = .ok (.aload_n 0, 1) := by decide +kernel
theorem dX1_slotFor_5 : decode cX1_slotFor 5 = .ok (.iload_n 1, 1) := by decide +kernel
theorem dX1_slotFor_6 : decode cX1_slotFor 6 = .ok (.invokevirtual 55, 3) := by decide +kernel
theorem dX1_slotFor_9 : decode cX1_slotFor 9 = .ok (.aaload, 1) := by decide +kernel
theorem dX1_slotFor_10 : decode cX1_slotFor 10 = .ok (.areturn, 1) := by decide +kernel
theorem dX1_indexFor_0 : decode cX1_indexFor 0 = .ok (.iload_n 1, 1) := by decide +kernel
theorem dX1_indexFor_1 : decode cX1_indexFor 1 = .ok (.aload_n 0, 1) := by decide +kernel
theorem dX1_indexFor_2 : decode cX1_indexFor 2 = .ok (.getfield 43, 3) := by decide +kernel
theorem dX1_indexFor_5 : decode cX1_indexFor 5 = .ok (.arraylength, 1) := by decide +kernel
theorem dX1_indexFor_6 : decode cX1_indexFor 6 = .ok (.irem, 1) := by decide +kernel
theorem dX1_indexFor_7 : decode cX1_indexFor 7 = .ok (.ireturn, 1) := by decide +kernel
theorem dX3_holds_0 : decode cX3_holds 0 = .ok (.aload_n 0, 1) := by decide +kernel
theorem dX3_holds_1 : decode cX3_holds 1 = .ok (.getfield 9, 3) := by decide +kernel
theorem dX3_holds_4 : decode cX3_holds 4 = .ok (.ifCond .eq 15, 3) := by decide +kernel
theorem dX3_holds_7 : decode cX3_holds 7 = .ok (.aload_n 0, 1) := by decide +kernel
theorem dX3_holds_8 : decode cX3_holds 8 = .ok (.getfield 15, 3) := by decide +kernel
theorem dX3_holds_11 : decode cX3_holds 11 = .ok (.iload_n 1, 1) := by decide +kernel
theorem dX3_holds_12 : decode cX3_holds 12 = .ok (.if_icmp .ne 7, 3) := by decide +kernel
theorem dX3_holds_15 : decode cX3_holds 15 = .ok (.iconst 1, 1) := by decide +kernel
theorem dX3_holds_16 : decode cX3_holds 16 = .ok (.goto 4, 3) := by decide +kernel
theorem dX3_holds_19 : decode cX3_holds 19 = .ok (.iconst 0, 1) := by decide +kernel
theorem dX3_holds_20 : decode cX3_holds 20 = .ok (.ireturn, 1) := by decide +kernel
theorem dX3_maySetWords_0 : decode cX3_maySetWords 0 = .ok (.aload_n 0, 1) := by decide +kernel
theorem dX3_maySetWords_1 : decode cX3_maySetWords 1 = .ok (.getfield 9, 3) := by decide +kernel
theorem dX3_maySetWords_4 : decode cX3_maySetWords 4 = .ok (.iconst 2, 1) := by decide +kernel
theorem dX3_maySetWords_5 : decode cX3_maySetWords 5 = .ok (.if_icmp .eq 11, 3) := by decide +kernel
theorem dX3_maySetWords_8 : decode cX3_maySetWords 8 = .ok (.aload_n 0, 1) := by decide +kernel
theorem dX3_maySetWords_9 : decode cX3_maySetWords 9 = .ok (.getfield 9, 3) := by decide +kernel
theorem dX3_maySetWords_12 : decode cX3_maySetWords 12 = .ok (.iconst 4, 1) := by decide +kernel
theorem dX3_maySetWords_13 : decode cX3_maySetWords 13 = .ok (.if_icmp .ne 7, 3) := by decide +kernel
theorem dX3_maySetWords_16 : decode cX3_maySetWords 16 = .ok (.iconst 1, 1) := by decide +kernel
theorem dX3_maySetWords_17 : decode cX3_maySetWords 17 = .ok (.goto 4, 3) := by decide +kernel
theorem dX3_maySetWords_20 : decode cX3_maySetWords 20 = .ok (.iconst 0, 1) := by decide +kernel
theorem dX3_maySetWords_21 : decode cX3_maySetWords 21 = .ok (.ireturn, 1) := by decide +kernel
theorem dX2_offsetOf_0 : decode cX2_offsetOf 0 = .ok (.iload_n 1, 1) := by decide +kernel
theorem dX2_offsetOf_1 : decode cX2_offsetOf 1 = .ok (.aload_n 0, 1) := by decide +kernel
theorem dX2_offsetOf_2 : decode cX2_offsetOf 2 = .ok (.getfield 9, 3) := by decide +kernel
theorem dX2_offsetOf_5 : decode cX2_offsetOf 5 = .ok (.irem, 1) := by decide +kernel
theorem dX2_offsetOf_6 : decode cX2_offsetOf 6 = .ok (.ireturn, 1) := by decide +kernel
theorem dX1_access_0 : decode cX1_access 0 = .ok (.aload_n 0, 1) := by decide +kernel
theorem dX1_access_1 : decode cX1_access 1 = .ok (.getfield 9, 3) := by decide +kernel
theorem dX1_access_4 : decode cX1_access 4 = .ok (.iload_n 1, 1) := by decide +kernel
theorem dX1_access_5 : decode cX1_access 5 = .ok (.invokestatic 66, 3) := by decide +kernel
theorem dX1_access_8 : decode cX1_access 8 = .ok (.iaload, 1) := by decide +kernel
theorem dX1_access_9 : decode cX1_access 9 = .ok (.istore 4, 2) := by decide +kernel
theorem dX1_access_11 : decode cX1_access 11 = .ok (.aload_n 2, 1) := by decide +kernel
theorem dX1_access_12 : decode cX1_access 12 = .ok (.getfield 119, 3) := by decide +kernel
theorem dX1_access_15 : decode cX1_access 15 = .ok (.iload_n 3, 1) := by decide +kernel
theorem dX1_access_16 : decode cX1_access 16 = .ok (.iaload, 1) := by decide +kernel
theorem dX1_access_17 : decode cX1_access 17 = .ok (.istore 5, 2) := by decide +kernel
theorem dX1_access_19 : decode cX1_access 19 = .ok (.iload_n 1, 1) := by decide +kernel
theorem dX1_access_20 : decode cX1_access 20 = .ok (.invokestatic 78, 3) := by decide +kernel
theorem dX1_access_23 : decode cX1_access 23 = .ok (.lookupswitch 55 #[(9, 25), (10, 35)], 25) := by decide +kernel
theorem dX1_access_48 : decode cX1_access 48 = .ok (.aload_n 0, 1) := by decide +kernel
theorem dX1_access_49 : decode cX1_access 49 = .ok (.iload_n 1, 1) := by decide +kernel
theorem dX1_access_50 : decode cX1_access 50 = .ok (.iload 5, 2) := by decide +kernel
theorem dX1_access_52 : decode cX1_access 52 = .ok (.invokevirtual 84, 3) := by decide +kernel
theorem dX1_access_55 : decode cX1_access 55 = .ok (.goto 76, 3) := by decide +kernel
theorem dX1_access_58 : decode cX1_access 58 = .ok (.aload_n 2, 1) := by decide +kernel
theorem dX1_access_59 : decode cX1_access 59 = .ok (.iload_n 3, 1) := by decide +kernel
theorem dX1_access_60 : decode cX1_access 60 = .ok (.iload 4, 2) := by decide +kernel
theorem dX1_access_62 : decode cX1_access 62 = .ok (.invokevirtual 122, 3) := by decide +kernel
theorem dX1_access_65 : decode cX1_access 65 = .ok (.aload_n 0, 1) := by decide +kernel
theorem dX1_access_66 : decode cX1_access 66 = .ok (.aload_n 0, 1) := by decide +kernel
theorem dX1_access_67 : decode cX1_access 67 = .ok (.getfield 15, 3) := by decide +kernel
theorem dX1_access_70 : decode cX1_access 70 = .ok (.iconst 1, 1) := by decide +kernel
theorem dX1_access_71 : decode cX1_access 71 = .ok (.iadd, 1) := by decide +kernel
theorem dX1_access_72 : decode cX1_access 72 = .ok (.invokevirtual 81, 3) := by decide +kernel
theorem dX1_access_75 : decode cX1_access 75 = .ok (.goto 56, 3) := by decide +kernel
theorem dX1_access_78 : decode cX1_access 78 = .ok (.iload 5, 2) := by decide +kernel
theorem dX1_access_80 : decode cX1_access 80 = .ok (.aload_n 0, 1) := by decide +kernel
theorem dX1_access_81 : decode cX1_access 81 = .ok (.getfield 9, 3) := by decide +kernel
theorem dX1_access_84 : decode cX1_access 84 = .ok (.iload_n 1, 1) := by decide +kernel
theorem dX1_access_85 : decode cX1_access 85 = .ok (.invokestatic 72, 3) := by decide +kernel
theorem dX1_access_88 : decode cX1_access 88 = .ok (.iaload, 1) := by decide +kernel
theorem dX1_access_89 : decode cX1_access 89 = .ok (.if_icmp .ne 7, 3) := by decide +kernel
theorem dX1_access_92 : decode cX1_access 92 = .ok (.iconst 1, 1) := by decide +kernel
theorem dX1_access_93 : decode cX1_access 93 = .ok (.goto 4, 3) := by decide +kernel
theorem dX1_access_96 : decode cX1_access 96 = .ok (.iconst 0, 1) := by decide +kernel
theorem dX1_access_97 : decode cX1_access 97 = .ok (.istore 6, 2) := by decide +kernel
theorem dX1_access_99 : decode cX1_access 99 = .ok (.aload_n 2, 1) := by decide +kernel
theorem dX1_access_100 : decode cX1_access 100 = .ok (.iload_n 3, 1) := by decide +kernel
theorem dX1_access_101 : decode cX1_access 101 = .ok (.iload 6, 2) := by decide +kernel
theorem dX1_access_103 : decode cX1_access 103 = .ok (.ifCond .eq 8, 3) := by decide +kernel
theorem dX1_access_106 : decode cX1_access 106 = .ok (.iload 4, 2) := by decide +kernel
theorem dX1_access_108 : decode cX1_access 108 = .ok (.goto 5, 3) := by decide +kernel
theorem dX1_access_111 : decode cX1_access 111 = .ok (.iload 5, 2) := by decide +kernel
theorem dX1_access_113 : decode cX1_access 113 = .ok (.invokevirtual 122, 3) := by decide +kernel
theorem dX1_access_116 : decode cX1_access 116 = .ok (.aload_n 0, 1) := by decide +kernel
theorem dX1_access_117 : decode cX1_access 117 = .ok (.iload_n 1, 1) := by decide +kernel
theorem dX1_access_118 : decode cX1_access 118 = .ok (.iload 6, 2) := by decide +kernel
theorem dX1_access_120 : decode cX1_access 120 = .ok (.ifCond .eq 7, 3) := by decide +kernel
theorem dX1_access_123 : decode cX1_access 123 = .ok (.iconst 1, 1) := by decide +kernel
theorem dX1_access_124 : decode cX1_access 124 = .ok (.goto 4, 3) := by decide +kernel
theorem dX1_access_127 : decode cX1_access 127 = .ok (.iconst 0, 1) := by decide +kernel
theorem dX1_access_128 : decode cX1_access 128 = .ok (.invokevirtual 84, 3) := by decide +kernel
theorem dX1_access_131 : decode cX1_access 131 = .ok (.return_, 1) := by decide +kernel
theorem dX3_setWord_0 : decode cX3_setWord 0 = .ok (.aload_n 0, 1) := by decide +kernel
theorem dX3_setWord_1 : decode cX3_setWord 1 = .ok (.getfield 18, 3) := by decide +kernel
theorem dX3_setWord_4 : decode cX3_setWord 4 = .ok (.iload_n 1, 1) := by decide +kernel
theorem dX3_setWord_5 : decode cX3_setWord 5 = .ok (.iload_n 2, 1) := by decide +kernel
theorem dX3_setWord_6 : decode cX3_setWord 6 = .ok (.iastore, 1) := by decide +kernel
theorem dX3_setWord_7 : decode cX3_setWord 7 = .ok (.aload_n 0, 1) := by decide +kernel
theorem dX3_setWord_8 : decode cX3_setWord 8 = .ok (.iconst 4, 1) := by decide +kernel
theorem dX3_setWord_9 : decode cX3_setWord 9 = .ok (.putfield 9, 3) := by decide +kernel
theorem dX3_setWord_12 : decode cX3_setWord 12 = .ok (.return_, 1) := by decide +kernel
theorem dX1_ask_0 : decode cX1_ask 0 = .ok (.aload_n 0, 1) := by decide +kernel
theorem dX1_ask_1 : decode cX1_ask 1 = .ok (.iconst 1, 1) := by decide +kernel
theorem dX1_ask_2 : decode cX1_ask 2 = .ok (.putfield 19, 3) := by decide +kernel
theorem dX1_ask_5 : decode cX1_ask 5 = .ok (.aload_n 0, 1) := by decide +kernel
theorem dX1_ask_6 : decode cX1_ask 6 = .ok (.iload_n 1, 1) := by decide +kernel
theorem dX1_ask_7 : decode cX1_ask 7 = .ok (.putfield 25, 3) := by decide +kernel
theorem dX1_ask_10 : decode cX1_ask 10 = .ok (.aload_n 0, 1) := by decide +kernel
theorem dX1_ask_11 : decode cX1_ask 11 = .ok (.iload_n 2, 1) := by decide +kernel
theorem dX1_ask_12 : decode cX1_ask 12 = .ok (.putfield 28, 3) := by decide +kernel
theorem dX1_ask_15 : decode cX1_ask 15 = .ok (.return_, 1) := by decide +kernel
theorem dX0_doNextPhase_0 : decode cX0_doNextPhase 0 = .ok (.aload_n 0, 1) := by decide +kernel
theorem dX0_doNextPhase_1 : decode cX0_doNextPhase 1 = .ok (.getfield 19, 3) := by decide +kernel
theorem dX0_doNextPhase_4 : decode cX0_doNextPhase 4 = .ok (.ifCond .ne 10, 3) := by decide +kernel
theorem dX0_doNextPhase_7 : decode cX0_doNextPhase 7 = .ok (.aload_n 0, 1) := by decide +kernel
theorem dX0_doNextPhase_8 : decode cX0_doNextPhase 8 = .ok (.invokevirtual 64, 3) := by decide +kernel
theorem dX0_doNextPhase_11 : decode cX0_doNextPhase 11 = .ok (.goto 7, 3) := by decide +kernel
theorem dX0_doNextPhase_14 : decode cX0_doNextPhase 14 = .ok (.aload_n 0, 1) := by decide +kernel
theorem dX0_doNextPhase_15 : decode cX0_doNextPhase 15 = .ok (.getfield 23, 3) := by decide +kernel
theorem dX0_doNextPhase_18 : decode cX0_doNextPhase 18 = .ok (.istore_n 1, 1) := by decide +kernel
theorem dX0_doNextPhase_19 : decode cX0_doNextPhase 19 = .ok (.iload_n 1, 1) := by decide +kernel
theorem dX0_doNextPhase_20 : decode cX0_doNextPhase 20 = .ok (.aload_n 0, 1) := by decide +kernel
theorem dX0_doNextPhase_21 : decode cX0_doNextPhase 21 = .ok (.getfield 32, 3) := by decide +kernel
theorem dX0_doNextPhase_24 : decode cX0_doNextPhase 24 = .ok (.arraylength, 1) := by decide +kernel
theorem dX0_doNextPhase_25 : decode cX0_doNextPhase 25 = .ok (.invokestatic 68, 3) := by decide +kernel
theorem dX0_doNextPhase_28 : decode cX0_doNextPhase 28 = .ok (.ifCond .ne 5, 3) := by decide +kernel
theorem dX0_doNextPhase_31 : decode cX0_doNextPhase 31 = .ok (.iconst 0, 1) := by decide +kernel
theorem dX0_doNextPhase_32 : decode cX0_doNextPhase 32 = .ok (.ireturn, 1) := by decide +kernel
theorem dX0_doNextPhase_33 : decode cX0_doNextPhase 33 = .ok (.aload_n 0, 1) := by decide +kernel
theorem dX0_doNextPhase_34 : decode cX0_doNextPhase 34 = .ok (.getfield 32, 3) := by decide +kernel
theorem dX0_doNextPhase_37 : decode cX0_doNextPhase 37 = .ok (.iload_n 1, 1) := by decide +kernel
theorem dX0_doNextPhase_38 : decode cX0_doNextPhase 38 = .ok (.aaload, 1) := by decide +kernel
theorem dX0_doNextPhase_39 : decode cX0_doNextPhase 39 = .ok (.astore_n 2, 1) := by decide +kernel
theorem dX0_doNextPhase_40 : decode cX0_doNextPhase 40 = .ok (.aload_n 0, 1) := by decide +kernel
theorem dX0_doNextPhase_41 : decode cX0_doNextPhase 41 = .ok (.aload_n 0, 1) := by decide +kernel
theorem dX0_doNextPhase_42 : decode cX0_doNextPhase 42 = .ok (.getfield 19, 3) := by decide +kernel
theorem dX0_doNextPhase_45 : decode cX0_doNextPhase 45 = .ok (.aload_n 2, 1) := by decide +kernel
theorem dX0_doNextPhase_46 : decode cX0_doNextPhase 46 = .ok (.invokevirtual 72, 3) := by decide +kernel
theorem dX0_doNextPhase_49 : decode cX0_doNextPhase 49 = .ok (.istore_n 3, 1) := by decide +kernel
theorem dX0_doNextPhase_50 : decode cX0_doNextPhase 50 = .ok (.aload_n 0, 1) := by decide +kernel
theorem dX0_doNextPhase_51 : decode cX0_doNextPhase 51 = .ok (.iload_n 3, 1) := by decide +kernel
theorem dX0_doNextPhase_52 : decode cX0_doNextPhase 52 = .ok (.putfield 19, 3) := by decide +kernel
theorem dX0_doNextPhase_55 : decode cX0_doNextPhase 55 = .ok (.aload_n 0, 1) := by decide +kernel
theorem dX0_doNextPhase_56 : decode cX0_doNextPhase 56 = .ok (.getfield 9, 3) := by decide +kernel
theorem dX0_doNextPhase_59 : decode cX0_doNextPhase 59 = .ok (.iload_n 3, 1) := by decide +kernel
theorem dX0_doNextPhase_60 : decode cX0_doNextPhase 60 = .ok (.iconst 1, 1) := by decide +kernel
theorem dX0_doNextPhase_61 : decode cX0_doNextPhase 61 = .ok (.isub, 1) := by decide +kernel
theorem dX0_doNextPhase_62 : decode cX0_doNextPhase 62 = .ok (.dup2, 1) := by decide +kernel
theorem dX0_doNextPhase_63 : decode cX0_doNextPhase 63 = .ok (.iaload, 1) := by decide +kernel
theorem dX0_doNextPhase_64 : decode cX0_doNextPhase 64 = .ok (.iconst 1, 1) := by decide +kernel
theorem dX0_doNextPhase_65 : decode cX0_doNextPhase 65 = .ok (.iadd, 1) := by decide +kernel
theorem dX0_doNextPhase_66 : decode cX0_doNextPhase 66 = .ok (.iastore, 1) := by decide +kernel
theorem dX0_doNextPhase_67 : decode cX0_doNextPhase 67 = .ok (.iload_n 3, 1) := by decide +kernel
theorem dX0_doNextPhase_68 : decode cX0_doNextPhase 68 = .ok (.tableswitch 61 1 3 #[28, 36, 54], 28) := by decide +kernel
theorem dX0_doNextPhase_96 : decode cX0_doNextPhase 96 = .ok (.aload_n 0, 1) := by decide +kernel
theorem dX0_doNextPhase_97 : decode cX0_doNextPhase 97 = .ok (.aload_n 2, 1) := by decide +kernel
theorem dX0_doNextPhase_98 : decode cX0_doNextPhase 98 = .ok (.invokevirtual 76, 3) := by decide +kernel
theorem dX0_doNextPhase_101 : decode cX0_doNextPhase 101 = .ok (.goto 37, 3) := by decide +kernel
theorem dX0_doNextPhase_104 : decode cX0_doNextPhase 104 = .ok (.aload_n 0, 1) := by decide +kernel
theorem dX0_doNextPhase_105 : decode cX0_doNextPhase 105 = .ok (.getfield 36, 3) := by decide +kernel
theorem dX0_doNextPhase_108 : decode cX0_doNextPhase 108 = .ok (.aload_n 2, 1) := by decide +kernel
theorem dX0_doNextPhase_109 : decode cX0_doNextPhase 109 = .ok (.aload_n 0, 1) := by decide +kernel
theorem dX0_doNextPhase_110 : decode cX0_doNextPhase 110 = .ok (.getfield 29, 3) := by decide +kernel
theorem dX0_doNextPhase_113 : decode cX0_doNextPhase 113 = .ok (.invokevirtual 80, 3) := by decide +kernel
theorem dX0_doNextPhase_116 : decode cX0_doNextPhase 116 = .ok (.invokevirtual 84, 3) := by decide +kernel
theorem dX0_doNextPhase_119 : decode cX0_doNextPhase 119 = .ok (.goto 19, 3) := by decide +kernel
theorem dX0_doNextPhase_122 : decode cX0_doNextPhase 122 = .ok (.aload_n 0, 1) := by decide +kernel
theorem dX0_doNextPhase_123 : decode cX0_doNextPhase 123 = .ok (.invokevirtual 88, 3) := by decide +kernel
theorem dX0_doNextPhase_126 : decode cX0_doNextPhase 126 = .ok (.goto 12, 3) := by decide +kernel
theorem dX0_doNextPhase_129 : decode cX0_doNextPhase 129 = .ok (.aload_n 0, 1) := by decide +kernel
theorem dX0_doNextPhase_130 : decode cX0_doNextPhase 130 = .ok (.aload_n 2, 1) := by decide +kernel
theorem dX0_doNextPhase_131 : decode cX0_doNextPhase 131 = .ok (.invokevirtual 91, 3) := by decide +kernel
theorem dX0_doNextPhase_134 : decode cX0_doNextPhase 134 = .ok (.aload_n 0, 1) := by decide +kernel
theorem dX0_doNextPhase_135 : decode cX0_doNextPhase 135 = .ok (.invokevirtual 94, 3) := by decide +kernel
theorem dX0_doNextPhase_138 : decode cX0_doNextPhase 138 = .ok (.iload_n 3, 1) := by decide +kernel
theorem dX0_doNextPhase_139 : decode cX0_doNextPhase 139 = .ok (.ireturn, 1) := by decide +kernel
theorem dX0_lowestWithRequest_0 : decode cX0_lowestWithRequest 0 = .ok (.iconst 0, 1) := by decide +kernel
theorem dX0_lowestWithRequest_1 : decode cX0_lowestWithRequest 1 = .ok (.istore_n 1, 1) := by decide +kernel
theorem dX0_lowestWithRequest_2 : decode cX0_lowestWithRequest 2 = .ok (.iload_n 1, 1) := by decide +kernel
theorem dX0_lowestWithRequest_3 : decode cX0_lowestWithRequest 3 = .ok (.aload_n 0, 1) := by decide +kernel
theorem dX0_lowestWithRequest_4 : decode cX0_lowestWithRequest 4 = .ok (.getfield 32, 3) := by decide +kernel
theorem dX0_lowestWithRequest_7 : decode cX0_lowestWithRequest 7 = .ok (.arraylength, 1) := by decide +kernel
theorem dX0_lowestWithRequest_8 : decode cX0_lowestWithRequest 8 = .ok (.if_icmp .ge 23, 3) := by decide +kernel
theorem dX0_lowestWithRequest_11 : decode cX0_lowestWithRequest 11 = .ok (.aload_n 0, 1) := by decide +kernel
theorem dX0_lowestWithRequest_12 : decode cX0_lowestWithRequest 12 = .ok (.getfield 32, 3) := by decide +kernel
theorem dX0_lowestWithRequest_15 : decode cX0_lowestWithRequest 15 = .ok (.iload_n 1, 1) := by decide +kernel
theorem dX0_lowestWithRequest_16 : decode cX0_lowestWithRequest 16 = .ok (.aaload, 1) := by decide +kernel
theorem dX0_lowestWithRequest_17 : decode cX0_lowestWithRequest 17 = .ok (.getfield 97, 3) := by decide +kernel
theorem dX0_lowestWithRequest_20 : decode cX0_lowestWithRequest 20 = .ok (.ifCond .eq 5, 3) := by decide +kernel
theorem dX0_lowestWithRequest_23 : decode cX0_lowestWithRequest 23 = .ok (.iload_n 1, 1) := by decide +kernel
theorem dX0_lowestWithRequest_24 : decode cX0_lowestWithRequest 24 = .ok (.ireturn, 1) := by decide +kernel
theorem dX0_lowestWithRequest_25 : decode cX0_lowestWithRequest 25 = .ok (.iinc 1 1, 3) := by decide +kernel
theorem dX0_lowestWithRequest_28 : decode cX0_lowestWithRequest 28 = .ok (.goto (-26), 3) := by decide +kernel
theorem dX0_lowestWithRequest_31 : decode cX0_lowestWithRequest 31 = .ok (.iconst (-1), 1) := by decide +kernel
theorem dX0_lowestWithRequest_32 : decode cX0_lowestWithRequest 32 = .ok (.ireturn, 1) := by decide +kernel
theorem dX0_phaseAfter_0 : decode cX0_phaseAfter 0 = .ok (.iload_n 1, 1) := by decide +kernel
theorem dX0_phaseAfter_1 : decode cX0_phaseAfter 1 = .ok (.tableswitch 52 0 2 #[27, 29, 50], 27) := by decide +kernel
theorem dX0_phaseAfter_28 : decode cX0_phaseAfter 28 = .ok (.iconst 1, 1) := by decide +kernel
theorem dX0_phaseAfter_29 : decode cX0_phaseAfter 29 = .ok (.ireturn, 1) := by decide +kernel
theorem dX0_phaseAfter_30 : decode cX0_phaseAfter 30 = .ok (.aload_n 0, 1) := by decide +kernel
theorem dX0_phaseAfter_31 : decode cX0_phaseAfter 31 = .ok (.aload_n 2, 1) := by decide +kernel
theorem dX0_phaseAfter_32 : decode cX0_phaseAfter 32 = .ok (.aload_n 0, 1) := by decide +kernel
theorem dX0_phaseAfter_33 : decode cX0_phaseAfter 33 = .ok (.getfield 29, 3) := by decide +kernel
theorem dX0_phaseAfter_36 : decode cX0_phaseAfter 36 = .ok (.invokevirtual 80, 3) := by decide +kernel
theorem dX0_phaseAfter_39 : decode cX0_phaseAfter 39 = .ok (.invokevirtual 98, 3) := by decide +kernel
theorem dX0_phaseAfter_42 : decode cX0_phaseAfter 42 = .ok (.ifCond .eq 7, 3) := by decide +kernel
theorem dX0_phaseAfter_45 : decode cX0_phaseAfter 45 = .ok (.iconst 2, 1) := by decide +kernel
theorem dX0_phaseAfter_46 : decode cX0_phaseAfter 46 = .ok (.goto 4, 3) := by decide +kernel
theorem dX0_phaseAfter_49 : decode cX0_phaseAfter 49 = .ok (.iconst 3, 1) := by decide +kernel
theorem dX0_phaseAfter_50 : decode cX0_phaseAfter 50 = .ok (.ireturn, 1) := by decide +kernel
theorem dX0_phaseAfter_51 : decode cX0_phaseAfter 51 = .ok (.iconst 3, 1) := by decide +kernel
theorem dX0_phaseAfter_52 : decode cX0_phaseAfter 52 = .ok (.ireturn, 1) := by decide +kernel
theorem dX0_phaseAfter_53 : decode cX0_phaseAfter 53 = .ok (.iconst 4, 1) := by decide +kernel
theorem dX0_phaseAfter_54 : decode cX0_phaseAfter 54 = .ok (.ireturn, 1) := by decide +kernel
theorem dX0_mustWriteBack_0 : decode cX0_mustWriteBack 0 = .ok (.aload_n 1, 1) := by decide +kernel
theorem dX0_mustWriteBack_1 : decode cX0_mustWriteBack 1 = .ok (.invokevirtual 102, 3) := by decide +kernel
theorem dX0_mustWriteBack_4 : decode cX0_mustWriteBack 4 = .ok (.ifCond .eq 18, 3) := by decide +kernel
theorem dX0_mustWriteBack_7 : decode cX0_mustWriteBack 7 = .ok (.aload_n 1, 1) := by decide +kernel
theorem dX0_mustWriteBack_8 : decode cX0_mustWriteBack 8 = .ok (.getfield 106, 3) := by decide +kernel
theorem dX0_mustWriteBack_11 : decode cX0_mustWriteBack 11 = .ok (.aload_n 0, 1) := by decide +kernel
theorem dX0_mustWriteBack_12 : decode cX0_mustWriteBack 12 = .ok (.getfield 29, 3) := by decide +kernel
theorem dX0_mustWriteBack_15 : decode cX0_mustWriteBack 15 = .ok (.if_icmp .eq 7, 3) := by decide +kernel
theorem dX0_mustWriteBack_18 : decode cX0_mustWriteBack 18 = .ok (.iconst 1, 1) := by decide +kernel
theorem dX0_mustWriteBack_19 : decode cX0_mustWriteBack 19 = .ok (.goto 4, 3) := by decide +kernel
theorem dX0_mustWriteBack_22 : decode cX0_mustWriteBack 22 = .ok (.iconst 0, 1) := by decide +kernel
theorem dX0_mustWriteBack_23 : decode cX0_mustWriteBack 23 = .ok (.ireturn, 1) := by decide +kernel
theorem dX3_isNewerThanMemory_0 : decode cX3_isNewerThanMemory 0 = .ok (.aload_n 0, 1) := by decide +kernel
theorem dX3_isNewerThanMemory_1 : decode cX3_isNewerThanMemory 1 = .ok (.getfield 9, 3) := by decide +kernel
theorem dX3_isNewerThanMemory_4 : decode cX3_isNewerThanMemory 4 = .ok (.iconst 3, 1) := by decide +kernel
theorem dX3_isNewerThanMemory_5 : decode cX3_isNewerThanMemory 5 = .ok (.if_icmp .eq 11, 3) := by decide +kernel
theorem dX3_isNewerThanMemory_8 : decode cX3_isNewerThanMemory 8 = .ok (.aload_n 0, 1) := by decide +kernel
theorem dX3_isNewerThanMemory_9 : decode cX3_isNewerThanMemory 9 = .ok (.getfield 9, 3) := by decide +kernel
theorem dX3_isNewerThanMemory_12 : decode cX3_isNewerThanMemory 12 = .ok (.iconst 4, 1) := by decide +kernel
theorem dX3_isNewerThanMemory_13 : decode cX3_isNewerThanMemory 13 = .ok (.if_icmp .ne 7, 3) := by decide +kernel
theorem dX3_isNewerThanMemory_16 : decode cX3_isNewerThanMemory 16 = .ok (.iconst 1, 1) := by decide +kernel
theorem dX3_isNewerThanMemory_17 : decode cX3_isNewerThanMemory 17 = .ok (.goto 4, 3) := by decide +kernel
theorem dX3_isNewerThanMemory_20 : decode cX3_isNewerThanMemory 20 = .ok (.iconst 0, 1) := by decide +kernel
theorem dX3_isNewerThanMemory_21 : decode cX3_isNewerThanMemory 21 = .ok (.ireturn, 1) := by decide +kernel
theorem dX0_begin_0 : decode cX0_begin 0 = .ok (.aload_n 0, 1) := by decide +kernel
theorem dX0_begin_1 : decode cX0_begin 1 = .ok (.aload_n 1, 1) := by decide +kernel
theorem dX0_begin_2 : decode cX0_begin 2 = .ok (.getfield 107, 3) := by decide +kernel
theorem dX0_begin_5 : decode cX0_begin 5 = .ok (.putfield 23, 3) := by decide +kernel
theorem dX0_begin_8 : decode cX0_begin 8 = .ok (.aload_n 0, 1) := by decide +kernel
theorem dX0_begin_9 : decode cX0_begin 9 = .ok (.aload_n 1, 1) := by decide +kernel
theorem dX0_begin_10 : decode cX0_begin 10 = .ok (.getfield 97, 3) := by decide +kernel
theorem dX0_begin_13 : decode cX0_begin 13 = .ok (.putfield 26, 3) := by decide +kernel
theorem dX0_begin_16 : decode cX0_begin 16 = .ok (.aload_n 0, 1) := by decide +kernel
theorem dX0_begin_17 : decode cX0_begin 17 = .ok (.aload_n 1, 1) := by decide +kernel
theorem dX0_begin_18 : decode cX0_begin 18 = .ok (.getfield 110, 3) := by decide +kernel
theorem dX0_begin_21 : decode cX0_begin 21 = .ok (.putfield 29, 3) := by decide +kernel
theorem dX0_begin_24 : decode cX0_begin 24 = .ok (.aload_n 1, 1) := by decide +kernel
theorem dX0_begin_25 : decode cX0_begin 25 = .ok (.invokevirtual 113, 3) := by decide +kernel
theorem dX0_begin_28 : decode cX0_begin 28 = .ok (.return_, 1) := by decide +kernel
theorem dX1_forgetRequest_0 : decode cX1_forgetRequest 0 = .ok (.aload_n 0, 1) := by decide +kernel
theorem dX1_forgetRequest_1 : decode cX1_forgetRequest 1 = .ok (.iconst 0, 1) := by decide +kernel
theorem dX1_forgetRequest_2 : decode cX1_forgetRequest 2 = .ok (.putfield 25, 3) := by decide +kernel
theorem dX1_forgetRequest_5 : decode cX1_forgetRequest 5 = .ok (.aload_n 0, 1) := by decide +kernel
theorem dX1_forgetRequest_6 : decode cX1_forgetRequest 6 = .ok (.iconst (-1), 1) := by decide +kernel
theorem dX1_forgetRequest_7 : decode cX1_forgetRequest 7 = .ok (.putfield 28, 3) := by decide +kernel
theorem dX1_forgetRequest_10 : decode cX1_forgetRequest 10 = .ok (.return_, 1) := by decide +kernel
theorem dX2_giveUp_0 : decode cX2_giveUp 0 = .ok (.aload_n 1, 1) := by decide +kernel
theorem dX2_giveUp_1 : decode cX2_giveUp 1 = .ok (.invokevirtual 29, 3) := by decide +kernel
theorem dX2_giveUp_4 : decode cX2_giveUp 4 = .ok (.ifCond .eq 28, 3) := by decide +kernel
theorem dX2_giveUp_7 : decode cX2_giveUp 7 = .ok (.aload_n 1, 1) := by decide +kernel
theorem dX2_giveUp_8 : decode cX2_giveUp 8 = .ok (.getfield 35, 3) := by decide +kernel
theorem dX2_giveUp_11 : decode cX2_giveUp 11 = .ok (.iconst 0, 1) := by decide +kernel
theorem dX2_giveUp_12 : decode cX2_giveUp 12 = .ok (.aload_n 0, 1) := by decide +kernel
theorem dX2_giveUp_13 : decode cX2_giveUp 13 = .ok (.getfield 15, 3) := by decide +kernel
theorem dX2_giveUp_16 : decode cX2_giveUp 16 = .ok (.aload_n 1, 1) := by decide +kernel
theorem dX2_giveUp_17 : decode cX2_giveUp 17 = .ok (.getfield 36, 3) := by decide +kernel
theorem dX2_giveUp_20 : decode cX2_giveUp 20 = .ok (.aload_n 0, 1) := by decide +kernel
theorem dX2_giveUp_21 : decode cX2_giveUp 21 = .ok (.getfield 9, 3) := by decide +kernel
theorem dX2_giveUp_24 : decode cX2_giveUp 24 = .ok (.imul, 1) := by decide +kernel
theorem dX2_giveUp_25 : decode cX2_giveUp 25 = .ok (.aload_n 0, 1) := by decide +kernel
theorem dX2_giveUp_26 : decode cX2_giveUp 26 = .ok (.getfield 9, 3) := by decide +kernel
theorem dX2_giveUp_29 : decode cX2_giveUp 29 = .ok (.invokestatic 23, 3) := by decide +kernel
theorem dX2_giveUp_32 : decode cX2_giveUp 32 = .ok (.aload_n 1, 1) := by decide +kernel
theorem dX2_giveUp_33 : decode cX2_giveUp 33 = .ok (.iconst 0, 1) := by decide +kernel
theorem dX2_giveUp_34 : decode cX2_giveUp 34 = .ok (.putfield 39, 3) := by decide +kernel
theorem dX2_giveUp_37 : decode cX2_giveUp 37 = .ok (.aload_n 1, 1) := by decide +kernel
theorem dX2_giveUp_38 : decode cX2_giveUp 38 = .ok (.iconst (-1), 1) := by decide +kernel
theorem dX2_giveUp_39 : decode cX2_giveUp 39 = .ok (.putfield 36, 3) := by decide +kernel
theorem dX2_giveUp_42 : decode cX2_giveUp 42 = .ok (.return_, 1) := by decide +kernel
theorem dX0_snoop_0 : decode cX0_snoop 0 = .ok (.aload_n 0, 1) := by decide +kernel
theorem dX0_snoop_1 : decode cX0_snoop 1 = .ok (.getfield 36, 3) := by decide +kernel
theorem dX0_snoop_4 : decode cX0_snoop 4 = .ok (.aload_n 0, 1) := by decide +kernel
theorem dX0_snoop_5 : decode cX0_snoop 5 = .ok (.getfield 29, 3) := by decide +kernel
theorem dX0_snoop_8 : decode cX0_snoop 8 = .ok (.aload_n 0, 1) := by decide +kernel
theorem dX0_snoop_9 : decode cX0_snoop 9 = .ok (.getfield 45, 3) := by decide +kernel
theorem dX0_snoop_12 : decode cX0_snoop 12 = .ok (.invokevirtual 116, 3) := by decide +kernel
theorem dX0_snoop_15 : decode cX0_snoop 15 = .ok (.aload_n 0, 1) := by decide +kernel
theorem dX0_snoop_16 : decode cX0_snoop 16 = .ok (.iconst 0, 1) := by decide +kernel
theorem dX0_snoop_17 : decode cX0_snoop 17 = .ok (.putfield 15, 3) := by decide +kernel
theorem dX0_snoop_20 : decode cX0_snoop 20 = .ok (.iconst 0, 1) := by decide +kernel
theorem dX0_snoop_21 : decode cX0_snoop 21 = .ok (.istore_n 1, 1) := by decide +kernel
theorem dX0_snoop_22 : decode cX0_snoop 22 = .ok (.iload_n 1, 1) := by decide +kernel
theorem dX0_snoop_23 : decode cX0_snoop 23 = .ok (.aload_n 0, 1) := by decide +kernel
theorem dX0_snoop_24 : decode cX0_snoop 24 = .ok (.getfield 32, 3) := by decide +kernel
theorem dX0_snoop_27 : decode cX0_snoop 27 = .ok (.arraylength, 1) := by decide +kernel
theorem dX0_snoop_28 : decode cX0_snoop 28 = .ok (.if_icmp .ge 47, 3) := by decide +kernel
theorem dX0_snoop_31 : decode cX0_snoop 31 = .ok (.aload_n 0, 1) := by decide +kernel
theorem dX0_snoop_32 : decode cX0_snoop 32 = .ok (.getfield 32, 3) := by decide +kernel
theorem dX0_snoop_35 : decode cX0_snoop 35 = .ok (.iload_n 1, 1) := by decide +kernel
theorem dX0_snoop_36 : decode cX0_snoop 36 = .ok (.aaload, 1) := by decide +kernel
theorem dX0_snoop_37 : decode cX0_snoop 37 = .ok (.aload_n 0, 1) := by decide +kernel
theorem dX0_snoop_38 : decode cX0_snoop 38 = .ok (.getfield 29, 3) := by decide +kernel
theorem dX0_snoop_41 : decode cX0_snoop 41 = .ok (.invokevirtual 80, 3) := by decide +kernel
theorem dX0_snoop_44 : decode cX0_snoop 44 = .ok (.astore_n 2, 1) := by decide +kernel
theorem dX0_snoop_45 : decode cX0_snoop 45 = .ok (.iload_n 1, 1) := by decide +kernel
theorem dX0_snoop_46 : decode cX0_snoop 46 = .ok (.aload_n 0, 1) := by decide +kernel
theorem dX0_snoop_47 : decode cX0_snoop 47 = .ok (.getfield 23, 3) := by decide +kernel
theorem dX0_snoop_50 : decode cX0_snoop 50 = .ok (.if_icmp .eq 19, 3) := by decide +kernel
theorem dX0_snoop_53 : decode cX0_snoop 53 = .ok (.aload_n 2, 1) := by decide +kernel
theorem dX0_snoop_54 : decode cX0_snoop 54 = .ok (.aload_n 0, 1) := by decide +kernel
theorem dX0_snoop_55 : decode cX0_snoop 55 = .ok (.getfield 29, 3) := by decide +kernel
theorem dX0_snoop_58 : decode cX0_snoop 58 = .ok (.invokevirtual 54, 3) := by decide +kernel
theorem dX0_snoop_61 : decode cX0_snoop 61 = .ok (.ifCond .eq 8, 3) := by decide +kernel
theorem dX0_snoop_64 : decode cX0_snoop 64 = .ok (.aload_n 0, 1) := by decide +kernel
theorem dX0_snoop_65 : decode cX0_snoop 65 = .ok (.aload_n 2, 1) := by decide +kernel
theorem dX0_snoop_66 : decode cX0_snoop 66 = .ok (.invokevirtual 120, 3) := by decide +kernel
theorem dX0_snoop_69 : decode cX0_snoop 69 = .ok (.iinc 1 1, 3) := by decide +kernel
theorem dX0_snoop_72 : decode cX0_snoop 72 = .ok (.goto (-50), 3) := by decide +kernel
theorem dX0_snoop_75 : decode cX0_snoop 75 = .ok (.return_, 1) := by decide +kernel
theorem dX2_readLine_0 : decode cX2_readLine 0 = .ok (.aload_n 0, 1) := by decide +kernel
theorem dX2_readLine_1 : decode cX2_readLine 1 = .ok (.getfield 15, 3) := by decide +kernel
theorem dX2_readLine_4 : decode cX2_readLine 4 = .ok (.iload_n 1, 1) := by decide +kernel
theorem dX2_readLine_5 : decode cX2_readLine 5 = .ok (.aload_n 0, 1) := by decide +kernel
theorem dX2_readLine_6 : decode cX2_readLine 6 = .ok (.getfield 9, 3) := by decide +kernel
theorem dX2_readLine_9 : decode cX2_readLine 9 = .ok (.imul, 1) := by decide +kernel
theorem dX2_readLine_10 : decode cX2_readLine 10 = .ok (.aload_n 2, 1) := by decide +kernel
theorem dX2_readLine_11 : decode cX2_readLine 11 = .ok (.iconst 0, 1) := by decide +kernel
theorem dX2_readLine_12 : decode cX2_readLine 12 = .ok (.aload_n 0, 1) := by decide +kernel
theorem dX2_readLine_13 : decode cX2_readLine 13 = .ok (.getfield 9, 3) := by decide +kernel
theorem dX2_readLine_16 : decode cX2_readLine 16 = .ok (.invokestatic 23, 3) := by decide +kernel
theorem dX2_readLine_19 : decode cX2_readLine 19 = .ok (.return_, 1) := by decide +kernel
theorem dX0_lookOn_0 : decode cX0_lookOn 0 = .ok (.aload_n 0, 1) := by decide +kernel
theorem dX0_lookOn_1 : decode cX0_lookOn 1 = .ok (.iconst 1, 1) := by decide +kernel
theorem dX0_lookOn_2 : decode cX0_lookOn 2 = .ok (.putfield 15, 3) := by decide +kernel
theorem dX0_lookOn_5 : decode cX0_lookOn 5 = .ok (.aload_n 1, 1) := by decide +kernel
theorem dX0_lookOn_6 : decode cX0_lookOn 6 = .ok (.invokevirtual 102, 3) := by decide +kernel
theorem dX0_lookOn_9 : decode cX0_lookOn 9 = .ok (.ifCond .eq 21, 3) := by decide +kernel
theorem dX0_lookOn_12 : decode cX0_lookOn 12 = .ok (.aload_n 1, 1) := by decide +kernel
theorem dX0_lookOn_13 : decode cX0_lookOn 13 = .ok (.getfield 123, 3) := by decide +kernel
theorem dX0_lookOn_16 : decode cX0_lookOn 16 = .ok (.iconst 0, 1) := by decide +kernel
theorem dX0_lookOn_17 : decode cX0_lookOn 17 = .ok (.aload_n 0, 1) := by decide +kernel
theorem dX0_lookOn_18 : decode cX0_lookOn 18 = .ok (.getfield 45, 3) := by decide +kernel
theorem dX0_lookOn_21 : decode cX0_lookOn 21 = .ok (.iconst 0, 1) := by decide +kernel
theorem dX0_lookOn_22 : decode cX0_lookOn 22 = .ok (.aload_n 0, 1) := by decide +kernel
theorem dX0_lookOn_23 : decode cX0_lookOn 23 = .ok (.getfield 45, 3) := by decide +kernel
theorem dX0_lookOn_26 : decode cX0_lookOn 26 = .ok (.arraylength, 1) := by decide +kernel
theorem dX0_lookOn_27 : decode cX0_lookOn 27 = .ok (.invokestatic 126, 3) := by decide +kernel
theorem dX0_lookOn_30 : decode cX0_lookOn 30 = .ok (.aload_n 0, 1) := by decide +kernel
theorem dX0_lookOn_31 : decode cX0_lookOn 31 = .ok (.getfield 26, 3) := by decide +kernel
theorem dX0_lookOn_34 : decode cX0_lookOn 34 = .ok (.iconst 1, 1) := by decide +kernel
theorem dX0_lookOn_35 : decode cX0_lookOn 35 = .ok (.if_icmp .ne 10, 3) := by decide +kernel
theorem dX0_lookOn_38 : decode cX0_lookOn 38 = .ok (.aload_n 1, 1) := by decide +kernel
theorem dX0_lookOn_39 : decode cX0_lookOn 39 = .ok (.invokevirtual 132, 3) := by decide +kernel
theorem dX0_lookOn_42 : decode cX0_lookOn 42 = .ok (.goto 11, 3) := by decide +kernel
theorem dX0_lookOn_45 : decode cX0_lookOn 45 = .ok (.aload_n 0, 1) := by decide +kernel
theorem dX0_lookOn_46 : decode cX0_lookOn 46 = .ok (.getfield 36, 3) := by decide +kernel
theorem dX0_lookOn_49 : decode cX0_lookOn 49 = .ok (.aload_n 1, 1) := by decide +kernel
theorem dX0_lookOn_50 : decode cX0_lookOn 50 = .ok (.invokevirtual 84, 3) := by decide +kernel
theorem dX0_lookOn_53 : decode cX0_lookOn 53 = .ok (.return_, 1) := by decide +kernel
theorem dX3_letOthersRead_0 : decode cX3_letOthersRead 0 = .ok (.aload_n 0, 1) := by decide +kernel
theorem dX3_letOthersRead_1 : decode cX3_letOthersRead 1 = .ok (.getfield 9, 3) := by decide +kernel
theorem dX3_letOthersRead_4 : decode cX3_letOthersRead 4 = .ok (.iconst 4, 1) := by decide +kernel
theorem dX3_letOthersRead_5 : decode cX3_letOthersRead 5 = .ok (.if_icmp .ne 11, 3) := by decide +kernel
theorem dX3_letOthersRead_8 : decode cX3_letOthersRead 8 = .ok (.aload_n 0, 1) := by decide +kernel
theorem dX3_letOthersRead_9 : decode cX3_letOthersRead 9 = .ok (.iconst 3, 1) := by decide +kernel
theorem dX3_letOthersRead_10 : decode cX3_letOthersRead 10 = .ok (.putfield 9, 3) := by decide +kernel
theorem dX3_letOthersRead_13 : decode cX3_letOthersRead 13 = .ok (.goto 16, 3) := by decide +kernel
theorem dX3_letOthersRead_16 : decode cX3_letOthersRead 16 = .ok (.aload_n 0, 1) := by decide +kernel
theorem dX3_letOthersRead_17 : decode cX3_letOthersRead 17 = .ok (.getfield 9, 3) := by decide +kernel
theorem dX3_letOthersRead_20 : decode cX3_letOthersRead 20 = .ok (.iconst 2, 1) := by decide +kernel
theorem dX3_letOthersRead_21 : decode cX3_letOthersRead 21 = .ok (.if_icmp .ne 8, 3) := by decide +kernel
theorem dX3_letOthersRead_24 : decode cX3_letOthersRead 24 = .ok (.aload_n 0, 1) := by decide +kernel
theorem dX3_letOthersRead_25 : decode cX3_letOthersRead 25 = .ok (.iconst 1, 1) := by decide +kernel
theorem dX3_letOthersRead_26 : decode cX3_letOthersRead 26 = .ok (.putfield 9, 3) := by decide +kernel
theorem dX3_letOthersRead_29 : decode cX3_letOthersRead 29 = .ok (.return_, 1) := by decide +kernel
theorem dX0_supply_0 : decode cX0_supply 0 = .ok (.aload_n 1, 1) := by decide +kernel
theorem dX0_supply_1 : decode cX0_supply 1 = .ok (.aload_n 0, 1) := by decide +kernel
theorem dX0_supply_2 : decode cX0_supply 2 = .ok (.getfield 29, 3) := by decide +kernel
theorem dX0_supply_5 : decode cX0_supply 5 = .ok (.invokevirtual 80, 3) := by decide +kernel
theorem dX0_supply_8 : decode cX0_supply 8 = .ok (.astore_n 2, 1) := by decide +kernel
theorem dX0_supply_9 : decode cX0_supply 9 = .ok (.aload_n 2, 1) := by decide +kernel
theorem dX0_supply_10 : decode cX0_supply 10 = .ok (.aload_n 0, 1) := by decide +kernel
theorem dX0_supply_11 : decode cX0_supply 11 = .ok (.getfield 29, 3) := by decide +kernel
theorem dX0_supply_14 : decode cX0_supply 14 = .ok (.invokevirtual 54, 3) := by decide +kernel
theorem dX0_supply_17 : decode cX0_supply 17 = .ok (.ifCond .ne 15, 3) := by decide +kernel
theorem dX0_supply_20 : decode cX0_supply 20 = .ok (.aload_n 2, 1) := by decide +kernel
theorem dX0_supply_21 : decode cX0_supply 21 = .ok (.aload_n 0, 1) := by decide +kernel
theorem dX0_supply_22 : decode cX0_supply 22 = .ok (.getfield 29, 3) := by decide +kernel
theorem dX0_supply_25 : decode cX0_supply 25 = .ok (.aload_n 0, 1) := by decide +kernel
theorem dX0_supply_26 : decode cX0_supply 26 = .ok (.getfield 45, 3) := by decide +kernel
theorem dX0_supply_29 : decode cX0_supply 29 = .ok (.invokevirtual 135, 3) := by decide +kernel
theorem dX0_supply_32 : decode cX0_supply 32 = .ok (.aload_n 0, 1) := by decide +kernel
theorem dX0_supply_33 : decode cX0_supply 33 = .ok (.getfield 26, 3) := by decide +kernel
theorem dX0_supply_36 : decode cX0_supply 36 = .ok (.iconst 2, 1) := by decide +kernel
theorem dX0_supply_37 : decode cX0_supply 37 = .ok (.if_icmp .ne 11, 3) := by decide +kernel
theorem dX0_supply_40 : decode cX0_supply 40 = .ok (.aload_n 2, 1) := by decide +kernel
theorem dX0_supply_41 : decode cX0_supply 41 = .ok (.iconst 4, 1) := by decide +kernel
theorem dX0_supply_42 : decode cX0_supply 42 = .ok (.putfield 138, 3) := by decide +kernel
theorem dX0_supply_45 : decode cX0_supply 45 = .ok (.goto 19, 3) := by decide +kernel
theorem dX0_supply_48 : decode cX0_supply 48 = .ok (.aload_n 2, 1) := by decide +kernel
theorem dX0_supply_49 : decode cX0_supply 49 = .ok (.aload_n 0, 1) := by decide +kernel
theorem dX0_supply_50 : decode cX0_supply 50 = .ok (.getfield 15, 3) := by decide +kernel
theorem dX0_supply_53 : decode cX0_supply 53 = .ok (.ifCond .eq 7, 3) := by decide +kernel
theorem dX0_supply_56 : decode cX0_supply 56 = .ok (.iconst 1, 1) := by decide +kernel
theorem dX0_supply_57 : decode cX0_supply 57 = .ok (.goto 4, 3) := by decide +kernel
theorem dX0_supply_60 : decode cX0_supply 60 = .ok (.iconst 2, 1) := by decide +kernel
theorem dX0_supply_61 : decode cX0_supply 61 = .ok (.putfield 138, 3) := by decide +kernel
theorem dX0_supply_64 : decode cX0_supply 64 = .ok (.aload_n 1, 1) := by decide +kernel
theorem dX0_supply_65 : decode cX0_supply 65 = .ok (.iconst 0, 1) := by decide +kernel
theorem dX0_supply_66 : decode cX0_supply 66 = .ok (.putfield 141, 3) := by decide +kernel
theorem dX0_supply_69 : decode cX0_supply 69 = .ok (.return_, 1) := by decide +kernel
theorem dX3_take_0 : decode cX3_take 0 = .ok (.aload_n 0, 1) := by decide +kernel
theorem dX3_take_1 : decode cX3_take 1 = .ok (.iload_n 1, 1) := by decide +kernel
theorem dX3_take_2 : decode cX3_take 2 = .ok (.putfield 15, 3) := by decide +kernel
theorem dX3_take_5 : decode cX3_take 5 = .ok (.aload_n 2, 1) := by decide +kernel
theorem dX3_take_6 : decode cX3_take 6 = .ok (.iconst 0, 1) := by decide +kernel
theorem dX3_take_7 : decode cX3_take 7 = .ok (.aload_n 0, 1) := by decide +kernel
theorem dX3_take_8 : decode cX3_take 8 = .ok (.getfield 18, 3) := by decide +kernel
theorem dX3_take_11 : decode cX3_take 11 = .ok (.iconst 0, 1) := by decide +kernel
theorem dX3_take_12 : decode cX3_take 12 = .ok (.aload_n 0, 1) := by decide +kernel
theorem dX3_take_13 : decode cX3_take 13 = .ok (.getfield 18, 3) := by decide +kernel
theorem dX3_take_16 : decode cX3_take 16 = .ok (.arraylength, 1) := by decide +kernel
theorem dX3_take_17 : decode cX3_take 17 = .ok (.invokestatic 22, 3) := by decide +kernel
theorem dX3_take_20 : decode cX3_take 20 = .ok (.return_, 1) := by decide +kernel
theorem dX0_end_0 : decode cX0_end 0 = .ok (.aload_n 0, 1) := by decide +kernel
theorem dX0_end_1 : decode cX0_end 1 = .ok (.iconst 0, 1) := by decide +kernel
theorem dX0_end_2 : decode cX0_end 2 = .ok (.putfield 19, 3) := by decide +kernel
theorem dX0_end_5 : decode cX0_end 5 = .ok (.aload_n 0, 1) := by decide +kernel
theorem dX0_end_6 : decode cX0_end 6 = .ok (.iconst (-1), 1) := by decide +kernel
theorem dX0_end_7 : decode cX0_end 7 = .ok (.putfield 23, 3) := by decide +kernel
theorem dX0_end_10 : decode cX0_end 10 = .ok (.aload_n 0, 1) := by decide +kernel
theorem dX0_end_11 : decode cX0_end 11 = .ok (.iconst 0, 1) := by decide +kernel
theorem dX0_end_12 : decode cX0_end 12 = .ok (.putfield 26, 3) := by decide +kernel
theorem dX0_end_15 : decode cX0_end 15 = .ok (.aload_n 0, 1) := by decide +kernel
theorem dX0_end_16 : decode cX0_end 16 = .ok (.iconst (-1), 1) := by decide +kernel
theorem dX0_end_17 : decode cX0_end 17 = .ok (.putfield 29, 3) := by decide +kernel
theorem dX0_end_20 : decode cX0_end 20 = .ok (.return_, 1) := by decide +kernel
theorem dX0_needs_0 : decode cX0_needs 0 = .ok (.aload_n 0, 1) := by decide +kernel
theorem dX0_needs_1 : decode cX0_needs 1 = .ok (.getfield 19, 3) := by decide +kernel
theorem dX0_needs_4 : decode cX0_needs 4 = .ok (.ifCond .ne 5, 3) := by decide +kernel
theorem dX0_needs_7 : decode cX0_needs 7 = .ok (.iconst 0, 1) := by decide +kernel
theorem dX0_needs_8 : decode cX0_needs 8 = .ok (.ireturn, 1) := by decide +kernel
theorem dX0_needs_9 : decode cX0_needs 9 = .ok (.aload_n 0, 1) := by decide +kernel
theorem dX0_needs_10 : decode cX0_needs 10 = .ok (.getfield 32, 3) := by decide +kernel
theorem dX0_needs_13 : decode cX0_needs 13 = .ok (.iload_n 1, 1) := by decide +kernel
theorem dX0_needs_14 : decode cX0_needs 14 = .ok (.aaload, 1) := by decide +kernel
theorem dX0_needs_15 : decode cX0_needs 15 = .ok (.astore_n 3, 1) := by decide +kernel
theorem dX0_needs_16 : decode cX0_needs 16 = .ok (.aload_n 3, 1) := by decide +kernel
theorem dX0_needs_17 : decode cX0_needs 17 = .ok (.getfield 48, 3) := by decide +kernel
theorem dX0_needs_20 : decode cX0_needs 20 = .ok (.iload_n 2, 1) := by decide +kernel
theorem dX0_needs_21 : decode cX0_needs 21 = .ok (.aaload, 1) := by decide +kernel
theorem dX0_needs_22 : decode cX0_needs 22 = .ok (.aload_n 0, 1) := by decide +kernel
theorem dX0_needs_23 : decode cX0_needs 23 = .ok (.getfield 29, 3) := by decide +kernel
theorem dX0_needs_26 : decode cX0_needs 26 = .ok (.invokevirtual 54, 3) := by decide +kernel
theorem dX0_needs_29 : decode cX0_needs 29 = .ok (.ifCond .ne 23, 3) := by decide +kernel
theorem dX0_needs_32 : decode cX0_needs 32 = .ok (.iload_n 1, 1) := by decide +kernel
theorem dX0_needs_33 : decode cX0_needs 33 = .ok (.aload_n 0, 1) := by decide +kernel
theorem dX0_needs_34 : decode cX0_needs 34 = .ok (.getfield 23, 3) := by decide +kernel
theorem dX0_needs_37 : decode cX0_needs 37 = .ok (.if_icmp .ne 19, 3) := by decide +kernel
theorem dX0_needs_40 : decode cX0_needs 40 = .ok (.iload_n 2, 1) := by decide +kernel
theorem dX0_needs_41 : decode cX0_needs 41 = .ok (.aload_n 3, 1) := by decide +kernel
theorem dX0_needs_42 : decode cX0_needs 42 = .ok (.aload_n 0, 1) := by decide +kernel
theorem dX0_needs_43 : decode cX0_needs 43 = .ok (.getfield 29, 3) := by decide +kernel
theorem dX0_needs_46 : decode cX0_needs 46 = .ok (.invokevirtual 60, 3) := by decide +kernel
theorem dX0_needs_49 : decode cX0_needs 49 = .ok (.if_icmp .ne 7, 3) := by decide +kernel
theorem dX0_needs_52 : decode cX0_needs 52 = .ok (.iconst 1, 1) := by decide +kernel
theorem dX0_needs_53 : decode cX0_needs 53 = .ok (.goto 4, 3) := by decide +kernel
theorem dX0_needs_56 : decode cX0_needs 56 = .ok (.iconst 0, 1) := by decide +kernel
theorem dX0_needs_57 : decode cX0_needs 57 = .ok (.ireturn, 1) := by decide +kernel
