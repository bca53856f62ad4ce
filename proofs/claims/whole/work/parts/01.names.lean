/-! ===== BEGIN words of one list among another's, by their places ===== -/
theorem goodIn_r {big : List Cond} (ws : List Cond) (ps : List Nat) (hp : ws = ps.filterMap (fun i => big[i]?)) (h : ws.all goodWord = true) : GoodIn big ws := by
  intro w hw
  have h1 := List.all_eq_true.mp h w hw
  rw [hp] at hw
  obtain ⟨i, -, hi⟩ := List.mem_filterMap.mp hw
  have hm : w ∈ big := by first | exact List.mem_of_getElem? hi | exact List.getElem?_mem hi
  exact ⟨hm, good_of_word h1⟩
theorem goodIn_app {big a b : List Cond} (ha : GoodIn big a) (hb : GoodIn big b) : GoodIn big (a ++ b) := fun w h => (List.mem_append.mp h).elim (ha w) (hb w)
theorem goodIn_ca {big a b : List Cond} {c : Cond} (ha : GoodIn big (c :: a)) (hb : GoodIn big b) : GoodIn big (c :: (a ++ b)) := fun w h => (List.mem_cons.mp h).elim (fun e => ha w (List.mem_cons.mpr (Or.inl e))) (fun h => (List.mem_append.mp h).elim (fun h => ha w (List.mem_cons.mpr (Or.inr h))) (hb w))
theorem goodIn_sub {big ws : List Cond} (hm : ∀ w ∈ ws, w ∈ big) (h : ws.all goodWord = true) : GoodIn big ws := fun w hw => ⟨hm w hw, good_of_word (List.all_eq_true.mp h w hw)⟩
/-! ===== END ===== -/

/-! ===== BEGIN printed: names, fields, word lists, decode rows ===== -/
def RX0 : String := "SnoopingCores$Bus"
def TX0 : u_T := fun k => match k with
  | 0 => ("SnoopingCores$Bus", "cores", "[LSnoopingCores$Core;", true)
  | 1 => ("SnoopingCores$Bus", "mainMemory", "LSnoopingCores$Memory;", true)
  | 2 => ("SnoopingCores$Bus", "phasesDone", "[I", true)
  | 3 => ("SnoopingCores$Bus", "kept", "[I", true)
  | 4 => ("SnoopingCores$Bus", "anotherHadIt", "Z", false)
  | 5 => ("SnoopingCores$Bus", "phase", "I", false)
  | 6 => ("SnoopingCores$Bus", "asker", "I", false)
  | 7 => ("SnoopingCores$Bus", "request", "I", false)
  | _ => ("SnoopingCores$Bus", "line", "I", false)
def tyX0 : Nat → FieldType := fun k => match k with
  | 0 => .array (.object "SnoopingCores$Core")
  | 1 => .object "SnoopingCores$Memory"
  | 2 => .array .int
  | 3 => .array .int
  | 4 => .boolean
  | 5 => .int
  | 6 => .int
  | 7 => .int
  | _ => .int
abbrev wsX00 : List Cond := u_ws RX0 TX0 9
theorem nmX0 : ∀ a, a < 9 → ∀ b, b < 9 → a ≠ b → (TX0 a).2.1 ≠ (TX0 b).2.1 := by decide +kernel
theorem tyX0_ok : ∀ k, k < 9 → parseFieldDescriptor (TX0 k).2.2.1 = some (tyX0 k) := by decide +kernel
abbrev cX0_init : ByteArray := prog_2_method_1_code
def yX0_init : MethodName := ⟨RX0, "<init>", "([LSnoopingCores$Core;LSnoopingCores$Memory;)V"⟩
def RX1 : String := "SnoopingCores$Core"
def TX1 : u_T := fun k => match k with
  | 0 => ("SnoopingCores$Core", "number", "I", true)
  | 1 => ("SnoopingCores$Core", "mainMemory", "LSnoopingCores$Memory;", true)
  | 2 => ("SnoopingCores$Core", "code", "[I", true)
  | 3 => ("SnoopingCores$Core", "registers", "[I", true)
  | 4 => ("SnoopingCores$Core", "slots", "[LSnoopingCores$Slot;", true)
  | 5 => ("SnoopingCores$Core", "place", "I", false)
  | 6 => ("SnoopingCores$Core", "status", "I", false)
  | 7 => ("SnoopingCores$Core", "done", "I", false)
  | 8 => ("SnoopingCores$Core", "request", "I", false)
  | _ => ("SnoopingCores$Core", "requestLine", "I", false)
def tyX1 : Nat → FieldType := fun k => match k with
  | 0 => .int
  | 1 => .object "SnoopingCores$Memory"
  | 2 => .array .int
  | 3 => .array .int
  | 4 => .array (.object "SnoopingCores$Slot")
  | 5 => .int
  | 6 => .int
  | 7 => .int
  | 8 => .int
  | _ => .int
abbrev wsX10 : List Cond := u_ws RX1 TX1 10
theorem nmX1 : ∀ a, a < 10 → ∀ b, b < 10 → a ≠ b → (TX1 a).2.1 ≠ (TX1 b).2.1 := by decide +kernel
theorem tyX1_ok : ∀ k, k < 10 → parseFieldDescriptor (TX1 k).2.2.1 = some (tyX1 k) := by decide +kernel
abbrev cX1_init : ByteArray := prog_3_method_1_code
def yX1_init : MethodName := ⟨RX1, "<init>", "(IIILSnoopingCores$Memory;)V"⟩
abbrev cX1_goOn : ByteArray := prog_3_method_4_code
def yX1_goOn : MethodName := ⟨RX1, "goOn", "()V"⟩
abbrev cX1_tryInstruction : ByteArray := prog_3_method_5_code
def yX1_tryInstruction : MethodName := ⟨RX1, "tryInstruction", "(I)V"⟩
abbrev cX1_tryAccess : ByteArray := prog_3_method_6_code
def yX1_tryAccess : MethodName := ⟨RX1, "tryAccess", "(II)V"⟩
abbrev cX1_answer : ByteArray := prog_3_method_10_code
def yX1_answer : MethodName := ⟨RX1, "answer", "(II)V"⟩
abbrev cX1_finish : ByteArray := prog_3_method_11_code
def yX1_finish : MethodName := ⟨RX1, "finish", "(I)V"⟩
abbrev cX1_operation : ByteArray := prog_3_method_12_code
def yX1_operation : MethodName := ⟨RX1, "operation", "(I)I"⟩
abbrev cX1_fieldA : ByteArray := prog_3_method_13_code
def yX1_fieldA : MethodName := ⟨RX1, "fieldA", "(I)I"⟩
abbrev cX1_fieldB : ByteArray := prog_3_method_14_code
def yX1_fieldB : MethodName := ⟨RX1, "fieldB", "(I)I"⟩
abbrev cX1_fieldC : ByteArray := prog_3_method_15_code
def yX1_fieldC : MethodName := ⟨RX1, "fieldC", "(I)I"⟩
abbrev cX1_fieldN : ByteArray := prog_3_method_16_code
def yX1_fieldN : MethodName := ⟨RX1, "fieldN", "(I)I"⟩
def RX2 : String := "SnoopingCores$Memory"
def TX2 : u_T := fun k => match k with
  | 0 => ("SnoopingCores$Memory", "width", "I", true)
  | _ => ("SnoopingCores$Memory", "words", "[I", true)
def tyX2 : Nat → FieldType := fun k => match k with
  | 0 => .int
  | _ => .array .int
abbrev wsX20 : List Cond := u_ws RX2 TX2 2
theorem nmX2 : ∀ a, a < 2 → ∀ b, b < 2 → a ≠ b → (TX2 a).2.1 ≠ (TX2 b).2.1 := by decide +kernel
theorem tyX2_ok : ∀ k, k < 2 → parseFieldDescriptor (TX2 k).2.2.1 = some (tyX2 k) := by decide +kernel
abbrev cX2_init : ByteArray := prog_4_method_1_code
def yX2_init : MethodName := ⟨RX2, "<init>", "(II)V"⟩
abbrev cX2_has : ByteArray := prog_4_method_2_code
def yX2_has : MethodName := ⟨RX2, "has", "(I)Z"⟩
abbrev cX2_lineOf : ByteArray := prog_4_method_3_code
def yX2_lineOf : MethodName := ⟨RX2, "lineOf", "(I)I"⟩
def RX3 : String := "SnoopingCores$Slot"
def TX3 : u_T := fun k => match k with
  | 0 => ("SnoopingCores$Slot", "words", "[I", true)
  | 1 => ("SnoopingCores$Slot", "state", "I", false)
  | _ => ("SnoopingCores$Slot", "line", "I", false)
def tyX3 : Nat → FieldType := fun k => match k with
  | 0 => .array .int
  | 1 => .int
  | _ => .int
abbrev wsX30 : List Cond := u_ws RX3 TX3 3
theorem nmX3 : ∀ a, a < 3 → ∀ b, b < 3 → a ≠ b → (TX3 a).2.1 ≠ (TX3 b).2.1 := by decide +kernel
theorem tyX3_ok : ∀ k, k < 3 → parseFieldDescriptor (TX3 k).2.2.1 = some (tyX3 k) := by decide +kernel
abbrev cX3_init : ByteArray := prog_5_method_1_code
def yX3_init : MethodName := ⟨RX3, "<init>", "(I)V"⟩
def RX4 : String := "SnoopingCores"
def TX4 : u_T := fun k => match k with
  | 0 => ("SnoopingCores", "mainMemory", "LSnoopingCores$Memory;", true)
  | 1 => ("SnoopingCores", "cores", "[LSnoopingCores$Core;", true)
  | 2 => ("SnoopingCores", "bus", "LSnoopingCores$Bus;", true)
  | _ => ("SnoopingCores", "stepped", "Z", false)
def tyX4 : Nat → FieldType := fun k => match k with
  | 0 => .object "SnoopingCores$Memory"
  | 1 => .array (.object "SnoopingCores$Core")
  | 2 => .object "SnoopingCores$Bus"
  | _ => .boolean
abbrev wsX40 : List Cond := u_ws RX4 TX4 4
theorem nmX4 : ∀ a, a < 4 → ∀ b, b < 4 → a ≠ b → (TX4 a).2.1 ≠ (TX4 b).2.1 := by decide +kernel
theorem tyX4_ok : ∀ k, k < 4 → parseFieldDescriptor (TX4 k).2.2.1 = some (tyX4 k) := by decide +kernel
abbrev cX4_init : ByteArray := prog_1_method_1_code
def yX4_init : MethodName := ⟨RX4, "<init>", "(IIIII)V"⟩
abbrev cX4_load : ByteArray := prog_1_method_2_code
def yX4_load : MethodName := ⟨RX4, "load", "(III)Z"⟩
abbrev cX4_poke : ByteArray := prog_1_method_3_code
def yX4_poke : MethodName := ⟨RX4, "poke", "(II)Z"⟩
abbrev cX4_step : ByteArray := prog_1_method_4_code
def yX4_step : MethodName := ⟨RX4, "step", "(I)I"⟩
abbrev cX4_hasCore : ByteArray := prog_1_method_13_code
def yX4_hasCore : MethodName := ⟨RX4, "hasCore", "(I)Z"⟩
abbrev cX4_within : ByteArray := prog_1_method_15_code
def yX4_within : MethodName := ⟨RX4, "within", "(II)Z"⟩
abbrev cX4_limited : ByteArray := prog_1_method_16_code
def yX4_limited : MethodName := ⟨RX4, "limited", "(III)I"⟩
def RX5 : String := "SnoopingCoresModel"
def TX5 : u_T := fun k => match k with
  | _ => ("", "", "", false)
def tyX5 : Nat → FieldType := fun k => match k with
  | _ => .int
abbrev wsX50 : List Cond := u_ws RX5 TX5 0
theorem nmX5 : ∀ a, a < 0 → ∀ b, b < 0 → a ≠ b → (TX5 a).2.1 ≠ (TX5 b).2.1 := by decide +kernel
theorem tyX5_ok : ∀ k, k < 0 → parseFieldDescriptor (TX5 k).2.2.1 = some (tyX5 k) := by decide +kernel
def RJ9 : String := "java/lang/Math"
def TJ9 : u_T := fun k => match k with
  | _ => ("", "", "", false)
def tyJ9 : Nat → FieldType := fun k => match k with
  | _ => .int
abbrev wsJ90 : List Cond := u_ws RJ9 TJ9 0
theorem nmJ9 : ∀ a, a < 0 → ∀ b, b < 0 → a ≠ b → (TJ9 a).2.1 ≠ (TJ9 b).2.1 := by decide +kernel
theorem tyJ9_ok : ∀ k, k < 0 → parseFieldDescriptor (TJ9 k).2.2.1 = some (tyJ9 k) := by decide +kernel
abbrev cJ9_max_7cf53 : ByteArray := prog_8_method_65_code
def yJ9_max_7cf53 : MethodName := ⟨RJ9, "max", "(II)I"⟩
abbrev cJ9_min_7cf53 : ByteArray := prog_8_method_69_code
def yJ9_min_7cf53 : MethodName := ⟨RJ9, "min", "(II)I"⟩
def RJ10 : String := "java/lang/System"
def TJ10 : u_T := fun k => match k with
  | _ => ("", "", "", false)
def tyJ10 : Nat → FieldType := fun k => match k with
  | _ => .int
abbrev wsJ100 : List Cond := u_ws RJ10 TJ10 0
theorem nmJ10 : ∀ a, a < 0 → ∀ b, b < 0 → a ≠ b → (TJ10 a).2.1 ≠ (TJ10 b).2.1 := by decide +kernel
theorem tyJ10_ok : ∀ k, k < 0 → parseFieldDescriptor (TJ10 k).2.2.1 = some (tyJ10 k) := by decide +kernel
def RL : String := "SnoopingCoresLaw"
abbrev cL_law : ByteArray := code
def yL_law : MethodName := ⟨RL, "law", "([I)Z"⟩
def wsX0_init : List Cond := .code yX0_init cX0_init 3 none :: ([.methodLink RX0 3 objectInit, .instanceMethod objectInit, .code objectInit ⟨#[0xb1]⟩ 1 none, .arrayClass .int, .fieldLink RX0 9 "SnoopingCores$Bus" "phasesDone" "[I", .fieldLink RX0 15 "SnoopingCores$Bus" "anotherHadIt" "Z", .fieldLink RX0 19 "SnoopingCores$Bus" "phase" "I", .fieldLink RX0 23 "SnoopingCores$Bus" "asker" "I", .fieldLink RX0 26 "SnoopingCores$Bus" "request" "I", .fieldLink RX0 29 "SnoopingCores$Bus" "line" "I", .fieldLink RX0 32 "SnoopingCores$Bus" "cores" "[LSnoopingCores$Core;", .fieldLink RX0 36 "SnoopingCores$Bus" "mainMemory" "LSnoopingCores$Memory;", .fieldLink RX0 40 "SnoopingCores$Memory" "width" "I", .fieldLink RX0 45 "SnoopingCores$Bus" "kept" "[I"] ++ wsX00 ++ wsX20)
def wsX3_init : List Cond := .code yX3_init cX3_init 2 none :: ([.methodLink RX3 3 objectInit, .instanceMethod objectInit, .code objectInit ⟨#[0xb1]⟩ 1 none, .fieldLink RX3 9 "SnoopingCores$Slot" "state" "I", .fieldLink RX3 15 "SnoopingCores$Slot" "line" "I", .arrayClass .int, .fieldLink RX3 18 "SnoopingCores$Slot" "words" "[I"] ++ wsX30)
def wsX1_init_r1 : List Cond := [Cond.methodLink RX1 3 objectInit, Cond.instanceMethod objectInit, Cond.code objectInit ⟨#[0xb1]⟩ 1 none, Cond.arrayClass .int, Cond.fieldLink RX1 9 "SnoopingCores$Core" "registers" "[I", Cond.fieldLink RX1 15 "SnoopingCores$Core" "place" "I", Cond.fieldLink RX1 19 "SnoopingCores$Core" "status" "I", Cond.fieldLink RX1 22 "SnoopingCores$Core" "done" "I", Cond.fieldLink RX1 25 "SnoopingCores$Core" "request" "I", Cond.fieldLink RX1 28 "SnoopingCores$Core" "requestLine" "I", Cond.fieldLink RX1 31 "SnoopingCores$Core" "number" "I", Cond.fieldLink RX1 34 "SnoopingCores$Core" "mainMemory" "LSnoopingCores$Memory;", Cond.fieldLink RX1 38 "SnoopingCores$Core" "code" "[I", Cond.classLink RX1 41 RX3, Cond.fieldLink RX1 43 "SnoopingCores$Core" "slots" "[LSnoopingCores$Slot;", Cond.instantiable RX3 3, Cond.initialized RX3, Cond.fieldLink RX1 47 "SnoopingCores$Memory" "width" "I", Cond.methodLink RX1 52 yX3_init, Cond.instanceMethod yX3_init, Cond.code yX3_init cX3_init 2 none, Cond.methodLink RX3 3 objectInit, Cond.fieldLink RX3 9 "SnoopingCores$Slot" "state" "I", Cond.fieldLink RX3 15 "SnoopingCores$Slot" "line" "I"]
def wsX1_init_r2 : List Cond := [Cond.fieldLink RX3 18 "SnoopingCores$Slot" "words" "[I"]
def wsX1_init : List Cond := .code yX1_init cX1_init 6 none :: ((wsX1_init_r1 ++ wsX1_init_r2) ++ wsX10 ++ wsX30 ++ wsX20)
def wsX4_within : List Cond := .code yX4_within cX4_within 2 (some .boolean) :: ([])
def wsX1_fieldA : List Cond := .code yX1_fieldA cX1_fieldA 1 (some .int) :: ([])
def wsX1_fieldB : List Cond := .code yX1_fieldB cX1_fieldB 1 (some .int) :: ([])
def wsX1_fieldC : List Cond := .code yX1_fieldC cX1_fieldC 1 (some .int) :: ([])
def wsX1_fieldN : List Cond := .code yX1_fieldN cX1_fieldN 1 (some .int) :: ([])
def wsX1_operation : List Cond := .code yX1_operation cX1_operation 1 (some .int) :: ([])
def wsX1_finish : List Cond := .code yX1_finish cX1_finish 2 none :: ([.fieldLink RX1 15 "SnoopingCores$Core" "place" "I", .fieldLink RX1 22 "SnoopingCores$Core" "done" "I"] ++ wsX10)
def wsX1_answer : List Cond := .code yX1_answer cX1_answer 3 none :: ([.fieldLink RX1 9 "SnoopingCores$Core" "registers" "[I", .fieldLink RX1 15 "SnoopingCores$Core" "place" "I", .methodLink RX1 66 yX1_fieldA, .static yX1_fieldA, .initialized RX1, .code yX1_fieldA cX1_fieldA 1 (some .int), .methodLink RX1 81 yX1_finish, .instanceMethod yX1_finish, .selects RX1 yX1_finish yX1_finish, .code yX1_finish cX1_finish 2 none, .fieldLink RX1 22 "SnoopingCores$Core" "done" "I"] ++ wsX10)
def wsX2_has : List Cond := .code yX2_has cX2_has 2 (some .boolean) :: ([.fieldLink RX2 15 "SnoopingCores$Memory" "words" "[I", .static yX4_within, .initialized RX4, .code yX4_within cX4_within 2 (some .boolean)] ++ wsX20)
def wsX2_lineOf : List Cond := .code yX2_lineOf cX2_lineOf 2 (some .int) :: ([.fieldLink RX2 9 "SnoopingCores$Memory" "width" "I"] ++ wsX20)
def wsX1_tryAccess : List Cond := .code yX1_tryAccess cX1_tryAccess 6 none :: ([.fieldLink RX1 34 "SnoopingCores$Core" "mainMemory" "LSnoopingCores$Memory;", .fieldLink RX1 19 "SnoopingCores$Core" "status" "I", .methodLink RX1 91 yX2_has, .instanceMethod yX2_has, .selects RX2 yX2_has yX2_has, .initialized RX2, .code yX2_has cX2_has 2 (some .boolean), .fieldLink RX2 15 "SnoopingCores$Memory" "words" "[I", .static yX4_within, .initialized RX4, .code yX4_within cX4_within 2 (some .boolean), .methodLink RX1 95 yX2_lineOf, .instanceMethod yX2_lineOf, .selects RX2 yX2_lineOf yX2_lineOf, .code yX2_lineOf cX2_lineOf 2 (some .int), .fieldLink RX2 9 "SnoopingCores$Memory" "width" "I", .methodLink RX1 78 yX1_operation, .static yX1_operation, .initialized RX1, .code yX1_operation cX1_operation 1 (some .int)] ++ wsX10 ++ wsX20)
def wsX1_tryInstruction_r1 : List Cond := [Cond.fieldLink RX1 9 "SnoopingCores$Core" "registers" "[I", Cond.fieldLink RX1 19 "SnoopingCores$Core" "status" "I", Cond.fieldLink RX1 15 "SnoopingCores$Core" "place" "I", Cond.fieldLink RX1 31 "SnoopingCores$Core" "number" "I", Cond.methodLink RX1 66 yX1_fieldA, Cond.static yX1_fieldA, Cond.initialized RX1, Cond.code yX1_fieldA cX1_fieldA 1 (some .int), Cond.methodLink RX1 69 yX1_fieldB, Cond.static yX1_fieldB, Cond.code yX1_fieldB cX1_fieldB 1 (some .int), Cond.methodLink RX1 72 yX1_fieldC, Cond.static yX1_fieldC, Cond.code yX1_fieldC cX1_fieldC 1 (some .int), Cond.methodLink RX1 75 yX1_fieldN, Cond.static yX1_fieldN, Cond.code yX1_fieldN cX1_fieldN 1 (some .int), Cond.methodLink RX1 78 yX1_operation, Cond.static yX1_operation, Cond.code yX1_operation cX1_operation 1 (some .int), Cond.methodLink RX1 81 yX1_finish, Cond.instanceMethod yX1_finish, Cond.selects RX1 yX1_finish yX1_finish, Cond.code yX1_finish cX1_finish 2 none]
def wsX1_tryInstruction_r2 : List Cond := [Cond.fieldLink RX1 22 "SnoopingCores$Core" "done" "I", Cond.methodLink RX1 84 yX1_answer, Cond.instanceMethod yX1_answer, Cond.selects RX1 yX1_answer yX1_answer, Cond.code yX1_answer cX1_answer 3 none, Cond.methodLink RX1 88 yX1_tryAccess, Cond.instanceMethod yX1_tryAccess, Cond.selects RX1 yX1_tryAccess yX1_tryAccess, Cond.code yX1_tryAccess cX1_tryAccess 6 none, Cond.fieldLink RX1 34 "SnoopingCores$Core" "mainMemory" "LSnoopingCores$Memory;", Cond.methodLink RX1 91 yX2_has, Cond.instanceMethod yX2_has, Cond.selects RX2 yX2_has yX2_has, Cond.initialized RX2, Cond.code yX2_has cX2_has 2 (some .boolean), Cond.fieldLink RX2 15 "SnoopingCores$Memory" "words" "[I", Cond.static yX4_within, Cond.initialized RX4, Cond.code yX4_within cX4_within 2 (some .boolean), Cond.methodLink RX1 95 yX2_lineOf, Cond.instanceMethod yX2_lineOf, Cond.selects RX2 yX2_lineOf yX2_lineOf, Cond.code yX2_lineOf cX2_lineOf 2 (some .int), Cond.fieldLink RX2 9 "SnoopingCores$Memory" "width" "I"]
def wsX1_tryInstruction : List Cond := .code yX1_tryInstruction cX1_tryInstruction 6 none :: ((wsX1_tryInstruction_r1 ++ wsX1_tryInstruction_r2) ++ wsX10 ++ wsX20)
def wsX1_goOn_r1 : List Cond := [Cond.fieldLink RX1 19 "SnoopingCores$Core" "status" "I", Cond.fieldLink RX1 15 "SnoopingCores$Core" "place" "I", Cond.fieldLink RX1 38 "SnoopingCores$Core" "code" "[I", Cond.static yX4_within, Cond.initialized RX4, Cond.code yX4_within cX4_within 2 (some .boolean), Cond.methodLink RX1 63 yX1_tryInstruction, Cond.instanceMethod yX1_tryInstruction, Cond.selects RX1 yX1_tryInstruction yX1_tryInstruction, Cond.initialized RX1, Cond.code yX1_tryInstruction cX1_tryInstruction 6 none, Cond.fieldLink RX1 9 "SnoopingCores$Core" "registers" "[I", Cond.fieldLink RX1 31 "SnoopingCores$Core" "number" "I", Cond.methodLink RX1 66 yX1_fieldA, Cond.static yX1_fieldA, Cond.code yX1_fieldA cX1_fieldA 1 (some .int), Cond.methodLink RX1 69 yX1_fieldB, Cond.static yX1_fieldB, Cond.code yX1_fieldB cX1_fieldB 1 (some .int), Cond.methodLink RX1 72 yX1_fieldC, Cond.static yX1_fieldC, Cond.code yX1_fieldC cX1_fieldC 1 (some .int), Cond.methodLink RX1 75 yX1_fieldN, Cond.static yX1_fieldN]
def wsX1_goOn_r2 : List Cond := [Cond.code yX1_fieldN cX1_fieldN 1 (some .int), Cond.methodLink RX1 78 yX1_operation, Cond.static yX1_operation, Cond.code yX1_operation cX1_operation 1 (some .int), Cond.methodLink RX1 81 yX1_finish, Cond.instanceMethod yX1_finish, Cond.selects RX1 yX1_finish yX1_finish, Cond.code yX1_finish cX1_finish 2 none, Cond.fieldLink RX1 22 "SnoopingCores$Core" "done" "I", Cond.methodLink RX1 84 yX1_answer, Cond.instanceMethod yX1_answer, Cond.selects RX1 yX1_answer yX1_answer, Cond.code yX1_answer cX1_answer 3 none, Cond.methodLink RX1 88 yX1_tryAccess, Cond.instanceMethod yX1_tryAccess, Cond.selects RX1 yX1_tryAccess yX1_tryAccess, Cond.code yX1_tryAccess cX1_tryAccess 6 none, Cond.fieldLink RX1 34 "SnoopingCores$Core" "mainMemory" "LSnoopingCores$Memory;", Cond.methodLink RX1 91 yX2_has, Cond.instanceMethod yX2_has, Cond.selects RX2 yX2_has yX2_has, Cond.initialized RX2, Cond.code yX2_has cX2_has 2 (some .boolean), Cond.fieldLink RX2 15 "SnoopingCores$Memory" "words" "[I"]
def wsX1_goOn_r3 : List Cond := [Cond.methodLink RX1 95 yX2_lineOf, Cond.instanceMethod yX2_lineOf, Cond.selects RX2 yX2_lineOf yX2_lineOf, Cond.code yX2_lineOf cX2_lineOf 2 (some .int), Cond.fieldLink RX2 9 "SnoopingCores$Memory" "width" "I"]
def wsX1_goOn : List Cond := .code yX1_goOn cX1_goOn 1 none :: ((wsX1_goOn_r1 ++ (wsX1_goOn_r2 ++ wsX1_goOn_r3)) ++ wsX10 ++ wsX20)
def wsX2_init : List Cond := .code yX2_init cX2_init 3 none :: ([.methodLink RX2 3 objectInit, .instanceMethod objectInit, .code objectInit ⟨#[0xb1]⟩ 1 none, .fieldLink RX2 9 "SnoopingCores$Memory" "width" "I", .arrayClass .int, .fieldLink RX2 15 "SnoopingCores$Memory" "words" "[I"] ++ wsX20)
def wsX4_limited : List Cond := .code yX4_limited cX4_limited 3 (some .int) :: ([.methodLink RX4 143 Lib.Math.min.name, .static Lib.Math.min.name, .initialized "java/lang/Math", .code Lib.Math.min.name Lib.Math.min.code 2 (some .int), .methodLink RX4 149 Lib.Math.max.name, .static Lib.Math.max.name, .code Lib.Math.max.name Lib.Math.max.code 2 (some .int)])
def wsX4_init_r1 : List Cond := [Cond.methodLink RX4 1 objectInit, Cond.instanceMethod objectInit, Cond.code objectInit ⟨#[0xb1]⟩ 1 none, Cond.fieldLink RX4 7 "SnoopingCores" "stepped" "Z", Cond.classLink RX4 17 RX2, Cond.instantiable RX2 2, Cond.initialized RX2, Cond.fieldLink RX4 22 "SnoopingCores" "mainMemory" "LSnoopingCores$Memory;", Cond.classLink RX4 26 RX1, Cond.fieldLink RX4 28 "SnoopingCores" "cores" "[LSnoopingCores$Core;", Cond.instantiable RX1 10, Cond.initialized RX1, Cond.classLink RX4 35 RX0, Cond.instantiable RX0 9, Cond.initialized RX0, Cond.fieldLink RX4 40 "SnoopingCores" "bus" "LSnoopingCores$Bus;", Cond.methodLink RX4 13 yX4_limited, Cond.static yX4_limited, Cond.initialized RX4, Cond.code yX4_limited cX4_limited 3 (some .int), Cond.methodLink RX4 143 Lib.Math.min.name, Cond.static Lib.Math.min.name, Cond.initialized "java/lang/Math", Cond.code Lib.Math.min.name Lib.Math.min.code 2 (some .int)]
def wsX4_init_r2 : List Cond := [Cond.methodLink RX4 149 Lib.Math.max.name, Cond.static Lib.Math.max.name, Cond.code Lib.Math.max.name Lib.Math.max.code 2 (some .int), Cond.methodLink RX4 19 yX2_init, Cond.instanceMethod yX2_init, Cond.code yX2_init cX2_init 3 none, Cond.methodLink RX2 3 objectInit, Cond.fieldLink RX2 9 "SnoopingCores$Memory" "width" "I", Cond.arrayClass .int, Cond.fieldLink RX2 15 "SnoopingCores$Memory" "words" "[I", Cond.methodLink RX4 32 yX1_init, Cond.instanceMethod yX1_init, Cond.code yX1_init cX1_init 6 none, Cond.methodLink RX1 3 objectInit, Cond.fieldLink RX1 9 "SnoopingCores$Core" "registers" "[I", Cond.fieldLink RX1 15 "SnoopingCores$Core" "place" "I", Cond.fieldLink RX1 19 "SnoopingCores$Core" "status" "I", Cond.fieldLink RX1 22 "SnoopingCores$Core" "done" "I", Cond.fieldLink RX1 25 "SnoopingCores$Core" "request" "I", Cond.fieldLink RX1 28 "SnoopingCores$Core" "requestLine" "I", Cond.fieldLink RX1 31 "SnoopingCores$Core" "number" "I", Cond.fieldLink RX1 34 "SnoopingCores$Core" "mainMemory" "LSnoopingCores$Memory;", Cond.fieldLink RX1 38 "SnoopingCores$Core" "code" "[I", Cond.classLink RX1 41 RX3]
def wsX4_init_r3 : List Cond := [Cond.fieldLink RX1 43 "SnoopingCores$Core" "slots" "[LSnoopingCores$Slot;", Cond.instantiable RX3 3, Cond.initialized RX3, Cond.fieldLink RX1 47 "SnoopingCores$Memory" "width" "I", Cond.methodLink RX1 52 yX3_init, Cond.instanceMethod yX3_init, Cond.code yX3_init cX3_init 2 none, Cond.methodLink RX3 3 objectInit, Cond.fieldLink RX3 9 "SnoopingCores$Slot" "state" "I", Cond.fieldLink RX3 15 "SnoopingCores$Slot" "line" "I", Cond.fieldLink RX3 18 "SnoopingCores$Slot" "words" "[I", Cond.methodLink RX4 37 yX0_init, Cond.instanceMethod yX0_init, Cond.code yX0_init cX0_init 3 none, Cond.methodLink RX0 3 objectInit, Cond.fieldLink RX0 9 "SnoopingCores$Bus" "phasesDone" "[I", Cond.fieldLink RX0 15 "SnoopingCores$Bus" "anotherHadIt" "Z", Cond.fieldLink RX0 19 "SnoopingCores$Bus" "phase" "I", Cond.fieldLink RX0 23 "SnoopingCores$Bus" "asker" "I", Cond.fieldLink RX0 26 "SnoopingCores$Bus" "request" "I", Cond.fieldLink RX0 29 "SnoopingCores$Bus" "line" "I", Cond.fieldLink RX0 32 "SnoopingCores$Bus" "cores" "[LSnoopingCores$Core;", Cond.fieldLink RX0 36 "SnoopingCores$Bus" "mainMemory" "LSnoopingCores$Memory;", Cond.fieldLink RX0 40 "SnoopingCores$Memory" "width" "I"]
def wsX4_init_r4 : List Cond := [Cond.fieldLink RX0 45 "SnoopingCores$Bus" "kept" "[I"]
def wsX4_init : List Cond := .code yX4_init cX4_init 10 none :: ((wsX4_init_r1 ++ (wsX4_init_r2 ++ (wsX4_init_r3 ++ wsX4_init_r4))) ++ wsX40 ++ wsX20 ++ wsX10 ++ wsX00 ++ wsX30)
def wsX4_hasCore : List Cond := .code yX4_hasCore cX4_hasCore 2 (some .boolean) :: ([.fieldLink RX4 28 "SnoopingCores" "cores" "[LSnoopingCores$Core;", .methodLink RX4 52 yX4_within, .static yX4_within, .initialized RX4, .code yX4_within cX4_within 2 (some .boolean)] ++ wsX40)
def wsX4_load : List Cond := .code yX4_load cX4_load 4 (some .boolean) :: ([.fieldLink RX4 7 "SnoopingCores" "stepped" "Z", .fieldLink RX4 28 "SnoopingCores" "cores" "[LSnoopingCores$Core;", .fieldLink RX4 48 "SnoopingCores$Core" "code" "[I", .methodLink RX4 44 yX4_hasCore, .instanceMethod yX4_hasCore, .selects RX4 yX4_hasCore yX4_hasCore, .initialized RX4, .code yX4_hasCore cX4_hasCore 2 (some .boolean), .methodLink RX4 52 yX4_within, .static yX4_within, .code yX4_within cX4_within 2 (some .boolean)] ++ wsX40 ++ wsX10)
def wsX4_poke : List Cond := .code yX4_poke cX4_poke 3 (some .boolean) :: ([.fieldLink RX4 7 "SnoopingCores" "stepped" "Z", .fieldLink RX4 22 "SnoopingCores" "mainMemory" "LSnoopingCores$Memory;", .fieldLink RX4 59 "SnoopingCores$Memory" "words" "[I", .methodLink RX4 56 yX2_has, .instanceMethod yX2_has, .selects RX2 yX2_has yX2_has, .initialized RX2, .code yX2_has cX2_has 2 (some .boolean), .fieldLink RX2 15 "SnoopingCores$Memory" "words" "[I", .static yX4_within, .initialized RX4, .code yX4_within cX4_within 2 (some .boolean)] ++ wsX40 ++ wsX20)
def wsX4_step_r1 : List Cond := [Cond.fieldLink RX4 7 "SnoopingCores" "stepped" "Z", Cond.fieldLink RX4 28 "SnoopingCores" "cores" "[LSnoopingCores$Core;", Cond.fieldLink RX4 65 "SnoopingCores$Core" "status" "I", Cond.methodLink RX4 44 yX4_hasCore, Cond.instanceMethod yX4_hasCore, Cond.selects RX4 yX4_hasCore yX4_hasCore, Cond.initialized RX4, Cond.code yX4_hasCore cX4_hasCore 2 (some .boolean), Cond.methodLink RX4 52 yX4_within, Cond.static yX4_within, Cond.code yX4_within cX4_within 2 (some .boolean), Cond.methodLink RX4 62 yX1_goOn, Cond.instanceMethod yX1_goOn, Cond.selects RX1 yX1_goOn yX1_goOn, Cond.initialized RX1, Cond.code yX1_goOn cX1_goOn 1 none, Cond.fieldLink RX1 19 "SnoopingCores$Core" "status" "I", Cond.fieldLink RX1 15 "SnoopingCores$Core" "place" "I", Cond.fieldLink RX1 38 "SnoopingCores$Core" "code" "[I", Cond.methodLink RX1 63 yX1_tryInstruction, Cond.instanceMethod yX1_tryInstruction, Cond.selects RX1 yX1_tryInstruction yX1_tryInstruction, Cond.code yX1_tryInstruction cX1_tryInstruction 6 none, Cond.fieldLink RX1 9 "SnoopingCores$Core" "registers" "[I"]
def wsX4_step_r2 : List Cond := [Cond.fieldLink RX1 31 "SnoopingCores$Core" "number" "I", Cond.methodLink RX1 66 yX1_fieldA, Cond.static yX1_fieldA, Cond.code yX1_fieldA cX1_fieldA 1 (some .int), Cond.methodLink RX1 69 yX1_fieldB, Cond.static yX1_fieldB, Cond.code yX1_fieldB cX1_fieldB 1 (some .int), Cond.methodLink RX1 72 yX1_fieldC, Cond.static yX1_fieldC, Cond.code yX1_fieldC cX1_fieldC 1 (some .int), Cond.methodLink RX1 75 yX1_fieldN, Cond.static yX1_fieldN, Cond.code yX1_fieldN cX1_fieldN 1 (some .int), Cond.methodLink RX1 78 yX1_operation, Cond.static yX1_operation, Cond.code yX1_operation cX1_operation 1 (some .int), Cond.methodLink RX1 81 yX1_finish, Cond.instanceMethod yX1_finish, Cond.selects RX1 yX1_finish yX1_finish, Cond.code yX1_finish cX1_finish 2 none, Cond.fieldLink RX1 22 "SnoopingCores$Core" "done" "I", Cond.methodLink RX1 84 yX1_answer, Cond.instanceMethod yX1_answer, Cond.selects RX1 yX1_answer yX1_answer]
def wsX4_step_r3 : List Cond := [Cond.code yX1_answer cX1_answer 3 none, Cond.methodLink RX1 88 yX1_tryAccess, Cond.instanceMethod yX1_tryAccess, Cond.selects RX1 yX1_tryAccess yX1_tryAccess, Cond.code yX1_tryAccess cX1_tryAccess 6 none, Cond.fieldLink RX1 34 "SnoopingCores$Core" "mainMemory" "LSnoopingCores$Memory;", Cond.methodLink RX1 91 yX2_has, Cond.instanceMethod yX2_has, Cond.selects RX2 yX2_has yX2_has, Cond.initialized RX2, Cond.code yX2_has cX2_has 2 (some .boolean), Cond.fieldLink RX2 15 "SnoopingCores$Memory" "words" "[I", Cond.methodLink RX1 95 yX2_lineOf, Cond.instanceMethod yX2_lineOf, Cond.selects RX2 yX2_lineOf yX2_lineOf, Cond.code yX2_lineOf cX2_lineOf 2 (some .int), Cond.fieldLink RX2 9 "SnoopingCores$Memory" "width" "I"]
def wsX4_step : List Cond := .code yX4_step cX4_step 3 (some .int) :: ((wsX4_step_r1 ++ (wsX4_step_r2 ++ wsX4_step_r3)) ++ wsX40 ++ wsX10 ++ wsX20)
def wsJ9_max_7cf53 : List Cond := .code yJ9_max_7cf53 cJ9_max_7cf53 2 (some .int) :: ([])
def wsJ9_min_7cf53 : List Cond := .code yJ9_min_7cf53 cJ9_min_7cf53 2 (some .int) :: ([])
def wsL_law_r1 : List Cond := [Cond.classLink RL 7 RX4, Cond.instantiable RX4 4, Cond.initialized RX4, Cond.methodLink RL 15 yX4_init, Cond.instanceMethod yX4_init, Cond.code yX4_init cX4_init 10 none, Cond.methodLink RX4 1 objectInit, Cond.instanceMethod objectInit, Cond.code objectInit ⟨#[0xb1]⟩ 1 none, Cond.fieldLink RX4 7 "SnoopingCores" "stepped" "Z", Cond.classLink RX4 17 RX2, Cond.instantiable RX2 2, Cond.initialized RX2, Cond.fieldLink RX4 22 "SnoopingCores" "mainMemory" "LSnoopingCores$Memory;", Cond.classLink RX4 26 RX1, Cond.fieldLink RX4 28 "SnoopingCores" "cores" "[LSnoopingCores$Core;", Cond.instantiable RX1 10, Cond.initialized RX1, Cond.classLink RX4 35 RX0, Cond.instantiable RX0 9, Cond.initialized RX0, Cond.fieldLink RX4 40 "SnoopingCores" "bus" "LSnoopingCores$Bus;", Cond.methodLink RX4 13 yX4_limited, Cond.static yX4_limited]
def wsL_law_r2 : List Cond := [Cond.code yX4_limited cX4_limited 3 (some .int), Cond.methodLink RX4 143 Lib.Math.min.name, Cond.static Lib.Math.min.name, Cond.initialized "java/lang/Math", Cond.code Lib.Math.min.name Lib.Math.min.code 2 (some .int), Cond.methodLink RX4 149 Lib.Math.max.name, Cond.static Lib.Math.max.name, Cond.code Lib.Math.max.name Lib.Math.max.code 2 (some .int), Cond.methodLink RX4 19 yX2_init, Cond.instanceMethod yX2_init, Cond.code yX2_init cX2_init 3 none, Cond.methodLink RX2 3 objectInit, Cond.fieldLink RX2 9 "SnoopingCores$Memory" "width" "I", Cond.arrayClass .int, Cond.fieldLink RX2 15 "SnoopingCores$Memory" "words" "[I", Cond.methodLink RX4 32 yX1_init, Cond.instanceMethod yX1_init, Cond.code yX1_init cX1_init 6 none, Cond.methodLink RX1 3 objectInit, Cond.fieldLink RX1 9 "SnoopingCores$Core" "registers" "[I", Cond.fieldLink RX1 15 "SnoopingCores$Core" "place" "I", Cond.fieldLink RX1 19 "SnoopingCores$Core" "status" "I", Cond.fieldLink RX1 22 "SnoopingCores$Core" "done" "I", Cond.fieldLink RX1 25 "SnoopingCores$Core" "request" "I"]
def wsL_law_r3 : List Cond := [Cond.fieldLink RX1 28 "SnoopingCores$Core" "requestLine" "I", Cond.fieldLink RX1 31 "SnoopingCores$Core" "number" "I", Cond.fieldLink RX1 34 "SnoopingCores$Core" "mainMemory" "LSnoopingCores$Memory;", Cond.fieldLink RX1 38 "SnoopingCores$Core" "code" "[I", Cond.classLink RX1 41 RX3, Cond.fieldLink RX1 43 "SnoopingCores$Core" "slots" "[LSnoopingCores$Slot;", Cond.instantiable RX3 3, Cond.initialized RX3, Cond.fieldLink RX1 47 "SnoopingCores$Memory" "width" "I", Cond.methodLink RX1 52 yX3_init, Cond.instanceMethod yX3_init, Cond.code yX3_init cX3_init 2 none, Cond.methodLink RX3 3 objectInit, Cond.fieldLink RX3 9 "SnoopingCores$Slot" "state" "I", Cond.fieldLink RX3 15 "SnoopingCores$Slot" "line" "I", Cond.fieldLink RX3 18 "SnoopingCores$Slot" "words" "[I", Cond.methodLink RX4 37 yX0_init, Cond.instanceMethod yX0_init, Cond.code yX0_init cX0_init 3 none, Cond.methodLink RX0 3 objectInit, Cond.fieldLink RX0 9 "SnoopingCores$Bus" "phasesDone" "[I", Cond.fieldLink RX0 15 "SnoopingCores$Bus" "anotherHadIt" "Z", Cond.fieldLink RX0 19 "SnoopingCores$Bus" "phase" "I", Cond.fieldLink RX0 23 "SnoopingCores$Bus" "asker" "I"]
def wsL_law_r4 : List Cond := [Cond.fieldLink RX0 26 "SnoopingCores$Bus" "request" "I", Cond.fieldLink RX0 29 "SnoopingCores$Bus" "line" "I", Cond.fieldLink RX0 32 "SnoopingCores$Bus" "cores" "[LSnoopingCores$Core;", Cond.fieldLink RX0 36 "SnoopingCores$Bus" "mainMemory" "LSnoopingCores$Memory;", Cond.fieldLink RX0 40 "SnoopingCores$Memory" "width" "I", Cond.fieldLink RX0 45 "SnoopingCores$Bus" "kept" "[I", Cond.methodLink RL 21 yX4_load, Cond.instanceMethod yX4_load, Cond.selects RX4 yX4_load yX4_load, Cond.code yX4_load cX4_load 4 (some .boolean), Cond.fieldLink RX4 48 "SnoopingCores$Core" "code" "[I", Cond.methodLink RX4 44 yX4_hasCore, Cond.instanceMethod yX4_hasCore, Cond.selects RX4 yX4_hasCore yX4_hasCore, Cond.code yX4_hasCore cX4_hasCore 2 (some .boolean), Cond.methodLink RX4 52 yX4_within, Cond.static yX4_within, Cond.code yX4_within cX4_within 2 (some .boolean), Cond.methodLink RL 26 yX4_poke, Cond.instanceMethod yX4_poke, Cond.selects RX4 yX4_poke yX4_poke, Cond.code yX4_poke cX4_poke 3 (some .boolean), Cond.fieldLink RX4 59 "SnoopingCores$Memory" "words" "[I", Cond.methodLink RX4 56 yX2_has]
def wsL_law_r5 : List Cond := [Cond.instanceMethod yX2_has, Cond.selects RX2 yX2_has yX2_has, Cond.code yX2_has cX2_has 2 (some .boolean), Cond.methodLink RL 31 yX4_step, Cond.instanceMethod yX4_step, Cond.selects RX4 yX4_step yX4_step, Cond.code yX4_step cX4_step 3 (some .int), Cond.fieldLink RX4 65 "SnoopingCores$Core" "status" "I", Cond.methodLink RX4 62 yX1_goOn, Cond.instanceMethod yX1_goOn, Cond.selects RX1 yX1_goOn yX1_goOn, Cond.code yX1_goOn cX1_goOn 1 none, Cond.methodLink RX1 63 yX1_tryInstruction, Cond.instanceMethod yX1_tryInstruction, Cond.selects RX1 yX1_tryInstruction yX1_tryInstruction, Cond.code yX1_tryInstruction cX1_tryInstruction 6 none, Cond.methodLink RX1 66 yX1_fieldA, Cond.static yX1_fieldA, Cond.code yX1_fieldA cX1_fieldA 1 (some .int), Cond.methodLink RX1 69 yX1_fieldB, Cond.static yX1_fieldB, Cond.code yX1_fieldB cX1_fieldB 1 (some .int), Cond.methodLink RX1 72 yX1_fieldC, Cond.static yX1_fieldC]
def wsL_law_r6 : List Cond := [Cond.code yX1_fieldC cX1_fieldC 1 (some .int), Cond.methodLink RX1 75 yX1_fieldN, Cond.static yX1_fieldN, Cond.code yX1_fieldN cX1_fieldN 1 (some .int), Cond.methodLink RX1 78 yX1_operation, Cond.static yX1_operation, Cond.code yX1_operation cX1_operation 1 (some .int), Cond.methodLink RX1 81 yX1_finish, Cond.instanceMethod yX1_finish, Cond.selects RX1 yX1_finish yX1_finish, Cond.code yX1_finish cX1_finish 2 none, Cond.methodLink RX1 84 yX1_answer, Cond.instanceMethod yX1_answer, Cond.selects RX1 yX1_answer yX1_answer, Cond.code yX1_answer cX1_answer 3 none, Cond.methodLink RX1 88 yX1_tryAccess, Cond.instanceMethod yX1_tryAccess, Cond.selects RX1 yX1_tryAccess yX1_tryAccess, Cond.code yX1_tryAccess cX1_tryAccess 6 none, Cond.methodLink RX1 91 yX2_has, Cond.methodLink RX1 95 yX2_lineOf, Cond.instanceMethod yX2_lineOf, Cond.selects RX2 yX2_lineOf yX2_lineOf, Cond.code yX2_lineOf cX2_lineOf 2 (some .int)]
def wsL_law : List Cond := (wsL_law_r1 ++ (wsL_law_r2 ++ (wsL_law_r3 ++ (wsL_law_r4 ++ (wsL_law_r5 ++ wsL_law_r6))))) ++ wsX40 ++ wsX20 ++ wsX10 ++ wsX00 ++ wsX30 ++ ([] : List Cond)
set_option maxRecDepth 20000 in
theorem wsL_law_in : ∀ w ∈ wsL_law, w ∈ lw_tbl := fun w h => (goodIn_p wsL_law [18, 21, 24, 27, 30, 35, 54, 61, 131, 182, 186, 189, 193, 197, 202, 206, 211, 214, 217, 220, 223, 226, 230, 234, 238, 243] (by decide +kernel) (by decide +kernel) w h).1
theorem inlX0 : ∀ w ∈ wsX00, w ∈ wsL_law := fun _ h => List.mem_append_left _ (List.mem_append_left _ (List.mem_append_right _ h))
theorem inX0 : ∀ w ∈ wsX00, w ∈ lw_tbl := fun w h => wsL_law_in w (inlX0 w h)
theorem inlX1 : ∀ w ∈ wsX10, w ∈ wsL_law := fun _ h => List.mem_append_left _ (List.mem_append_left _ (List.mem_append_left _ (List.mem_append_right _ h)))
theorem inX1 : ∀ w ∈ wsX10, w ∈ lw_tbl := fun w h => wsL_law_in w (inlX1 w h)
theorem inlX2 : ∀ w ∈ wsX20, w ∈ wsL_law := fun _ h => List.mem_append_left _ (List.mem_append_left _ (List.mem_append_left _ (List.mem_append_left _ (List.mem_append_right _ h))))
theorem inX2 : ∀ w ∈ wsX20, w ∈ lw_tbl := fun w h => wsL_law_in w (inlX2 w h)
theorem inlX3 : ∀ w ∈ wsX30, w ∈ wsL_law := fun _ h => List.mem_append_left _ (List.mem_append_right _ h)
theorem inX3 : ∀ w ∈ wsX30, w ∈ lw_tbl := fun w h => wsL_law_in w (inlX3 w h)
theorem inlX4 : ∀ w ∈ wsX40, w ∈ wsL_law := fun _ h => List.mem_append_left _ (List.mem_append_left _ (List.mem_append_left _ (List.mem_append_left _ (List.mem_append_left _ (List.mem_append_right _ h)))))
theorem inX4 : ∀ w ∈ wsX40, w ∈ lw_tbl := fun w h => wsL_law_in w (inlX4 w h)
theorem inX5 : ∀ w ∈ wsX50, w ∈ lw_tbl := by decide +kernel
theorem inJ9 : ∀ w ∈ wsJ90, w ∈ lw_tbl := by decide +kernel
theorem inJ10 : ∀ w ∈ wsJ100, w ∈ lw_tbl := by decide +kernel
theorem dX0_init_0 : decode cX0_init 0 = .ok (.aload_n 0, 1) := by decide +kernel
theorem dX0_init_1 : decode cX0_init 1 = .ok (.invokespecial 3, 3) := by decide +kernel
theorem dX0_init_4 : decode cX0_init 4 = .ok (.aload_n 0, 1) := by decide +kernel
theorem dX0_init_5 : decode cX0_init 5 = .ok (.iconst 4, 1) := by decide +kernel
theorem dX0_init_6 : decode cX0_init 6 = .ok (.newarray .int, 2) := by decide +kernel
theorem dX0_init_8 : decode cX0_init 8 = .ok (.putfield 9, 3) := by decide +kernel
theorem dX0_init_11 : decode cX0_init 11 = .ok (.aload_n 0, 1) := by decide +kernel
theorem dX0_init_12 : decode cX0_init 12 = .ok (.iconst 0, 1) := by decide +kernel
theorem dX0_init_13 : decode cX0_init 13 = .ok (.putfield 15, 3) := by decide +kernel
theorem dX0_init_16 : decode cX0_init 16 = .ok (.aload_n 0, 1) := by decide +kernel
theorem dX0_init_17 : decode cX0_init 17 = .ok (.iconst 0, 1) := by decide +kernel
theorem dX0_init_18 : decode cX0_init 18 = .ok (.putfield 19, 3) := by decide +kernel
theorem dX0_init_21 : decode cX0_init 21 = .ok (.aload_n 0, 1) := by decide +kernel
theorem dX0_init_22 : decode cX0_init 22 = .ok (.iconst (-1), 1) := by decide +kernel
theorem dX0_init_23 : decode cX0_init 23 = .ok (.putfield 23, 3) := by decide +kernel
theorem dX0_init_26 : decode cX0_init 26 = .ok (.aload_n 0, 1) := by decide +kernel
theorem dX0_init_27 : decode cX0_init 27 = .ok (.iconst 0, 1) := by decide +kernel
theorem dX0_init_28 : decode cX0_init 28 = .ok (.putfield 26, 3) := by decide +kernel
theorem dX0_init_31 : decode cX0_init 31 = .ok (.aload_n 0, 1) := by decide +kernel
theorem dX0_init_32 : decode cX0_init 32 = .ok (.iconst (-1), 1) := by decide +kernel
theorem dX0_init_33 : decode cX0_init 33 = .ok (.putfield 29, 3) := by decide +kernel
theorem dX0_init_36 : decode cX0_init 36 = .ok (.aload_n 0, 1) := by decide +kernel
theorem dX0_init_37 : decode cX0_init 37 = .ok (.aload_n 1, 1) := by decide +kernel
theorem dX0_init_38 : decode cX0_init 38 = .ok (.putfield 32, 3) := by decide +kernel
theorem dX0_init_41 : decode cX0_init 41 = .ok (.aload_n 0, 1) := by decide +kernel
theorem dX0_init_42 : decode cX0_init 42 = .ok (.aload_n 2, 1) := by decide +kernel
theorem dX0_init_43 : decode cX0_init 43 = .ok (.putfield 36, 3) := by decide +kernel
theorem dX0_init_46 : decode cX0_init 46 = .ok (.aload_n 0, 1) := by decide +kernel
theorem dX0_init_47 : decode cX0_init 47 = .ok (.aload_n 2, 1) := by decide +kernel
theorem dX0_init_48 : decode cX0_init 48 = .ok (.getfield 40, 3) := by decide +kernel
theorem dX0_init_51 : decode cX0_init 51 = .ok (.newarray .int, 2) := by decide +kernel
theorem dX0_init_53 : decode cX0_init 53 = .ok (.putfield 45, 3) := by decide +kernel
theorem dX0_init_56 : decode cX0_init 56 = .ok (.return_, 1) := by decide +kernel
set_option maxRecDepth 20000 in
theorem ggX1_init_X3_init : GoodIn wsX1_init wsX3_init := goodIn_r _ [21, 22, 2, 3, 23, 24, 4, 25, 36, 37, 38] (by decide +kernel) (by decide +kernel)
set_option maxRecDepth 20000 in
theorem gX1_init_X3_init : GoodIn wsX1_init (wsX3_init) := ggX1_init_X3_init
theorem dX1_init_0 : decode cX1_init 0 = .ok (.aload_n 0, 1) := by decide +kernel
theorem dX1_init_1 : decode cX1_init 1 = .ok (.invokespecial 3, 3) := by decide +kernel
theorem dX1_init_4 : decode cX1_init 4 = .ok (.aload_n 0, 1) := by decide +kernel
theorem dX1_init_5 : decode cX1_init 5 = .ok (.iconst 4, 1) := by decide +kernel
theorem dX1_init_6 : decode cX1_init 6 = .ok (.newarray .int, 2) := by decide +kernel
theorem dX1_init_8 : decode cX1_init 8 = .ok (.putfield 9, 3) := by decide +kernel
theorem dX1_init_11 : decode cX1_init 11 = .ok (.aload_n 0, 1) := by decide +kernel
theorem dX1_init_12 : decode cX1_init 12 = .ok (.iconst 0, 1) := by decide +kernel
theorem dX1_init_13 : decode cX1_init 13 = .ok (.putfield 15, 3) := by decide +kernel
theorem dX1_init_16 : decode cX1_init 16 = .ok (.aload_n 0, 1) := by decide +kernel
theorem dX1_init_17 : decode cX1_init 17 = .ok (.iconst 0, 1) := by decide +kernel
theorem dX1_init_18 : decode cX1_init 18 = .ok (.putfield 19, 3) := by decide +kernel
theorem dX1_init_21 : decode cX1_init 21 = .ok (.aload_n 0, 1) := by decide +kernel
theorem dX1_init_22 : decode cX1_init 22 = .ok (.iconst 0, 1) := by decide +kernel
theorem dX1_init_23 : decode cX1_init 23 = .ok (.putfield 22, 3) := by decide +kernel
theorem dX1_init_26 : decode cX1_init 26 = .ok (.aload_n 0, 1) := by decide +kernel
theorem dX1_init_27 : decode cX1_init 27 = .ok (.iconst 0, 1) := by decide +kernel
theorem dX1_init_28 : decode cX1_init 28 = .ok (.putfield 25, 3) := by decide +kernel
theorem dX1_init_31 : decode cX1_init 31 = .ok (.aload_n 0, 1) := by decide +kernel
theorem dX1_init_32 : decode cX1_init 32 = .ok (.iconst (-1), 1) := by decide +kernel
theorem dX1_init_33 : decode cX1_init 33 = .ok (.putfield 28, 3) := by decide +kernel
theorem dX1_init_36 : decode cX1_init 36 = .ok (.aload_n 0, 1) := by decide +kernel
theorem dX1_init_37 : decode cX1_init 37 = .ok (.iload_n 1, 1) := by decide +kernel
theorem dX1_init_38 : decode cX1_init 38 = .ok (.putfield 31, 3) := by decide +kernel
theorem dX1_init_41 : decode cX1_init 41 = .ok (.aload_n 0, 1) := by decide +kernel
theorem dX1_init_42 : decode cX1_init 42 = .ok (.aload 4, 2) := by decide +kernel
theorem dX1_init_44 : decode cX1_init 44 = .ok (.putfield 34, 3) := by decide +kernel
theorem dX1_init_47 : decode cX1_init 47 = .ok (.aload_n 0, 1) := by decide +kernel
theorem dX1_init_48 : decode cX1_init 48 = .ok (.iload_n 3, 1) := by decide +kernel
theorem dX1_init_49 : decode cX1_init 49 = .ok (.newarray .int, 2) := by decide +kernel
theorem dX1_init_51 : decode cX1_init 51 = .ok (.putfield 38, 3) := by decide +kernel
theorem dX1_init_54 : decode cX1_init 54 = .ok (.aload_n 0, 1) := by decide +kernel
theorem dX1_init_55 : decode cX1_init 55 = .ok (.iload_n 2, 1) := by decide +kernel
theorem dX1_init_56 : decode cX1_init 56 = .ok (.anewarray 41, 3) := by decide +kernel
theorem dX1_init_59 : decode cX1_init 59 = .ok (.putfield 43, 3) := by decide +kernel
theorem dX1_init_62 : decode cX1_init 62 = .ok (.iconst 0, 1) := by decide +kernel
theorem dX1_init_63 : decode cX1_init 63 = .ok (.istore 5, 2) := by decide +kernel
theorem dX1_init_65 : decode cX1_init 65 = .ok (.iload 5, 2) := by decide +kernel
theorem dX1_init_67 : decode cX1_init 67 = .ok (.iload_n 2, 1) := by decide +kernel
theorem dX1_init_68 : decode cX1_init 68 = .ok (.if_icmp .ge 28, 3) := by decide +kernel
theorem dX1_init_71 : decode cX1_init 71 = .ok (.aload_n 0, 1) := by decide +kernel
theorem dX1_init_72 : decode cX1_init 72 = .ok (.getfield 43, 3) := by decide +kernel
theorem dX1_init_75 : decode cX1_init 75 = .ok (.iload 5, 2) := by decide +kernel
theorem dX1_init_77 : decode cX1_init 77 = .ok (.new 41, 3) := by decide +kernel
theorem dX1_init_80 : decode cX1_init 80 = .ok (.dup, 1) := by decide +kernel
theorem dX1_init_81 : decode cX1_init 81 = .ok (.aload 4, 2) := by decide +kernel
theorem dX1_init_83 : decode cX1_init 83 = .ok (.getfield 47, 3) := by decide +kernel
theorem dX1_init_86 : decode cX1_init 86 = .ok (.invokespecial 52, 3) := by decide +kernel
theorem dX1_init_89 : decode cX1_init 89 = .ok (.aastore, 1) := by decide +kernel
theorem dX1_init_90 : decode cX1_init 90 = .ok (.iinc 5 1, 3) := by decide +kernel
theorem dX1_init_93 : decode cX1_init 93 = .ok (.goto (-28), 3) := by decide +kernel
theorem dX1_init_96 : decode cX1_init 96 = .ok (.return_, 1) := by decide +kernel
set_option maxRecDepth 20000 in
theorem ggX1_goOn_X4_within : GoodIn wsX1_goOn wsX4_within := goodIn_r _ [6] (by decide +kernel) (by decide +kernel)
set_option maxRecDepth 20000 in
theorem gX1_goOn_X4_within_n59 : GoodIn wsX1_goOn (wsX4_within) := ggX1_goOn_X4_within
set_option maxRecDepth 20000 in
theorem ggX1_goOn_X1_tryInstruction : GoodIn wsX1_goOn wsX1_tryInstruction := goodIn_r _ [11, 12, 1, 2, 13, 14, 15, 10, 16, 17, 18, 19, 20, 21, 22, 23, 24, 25, 26, 27, 28, 29, 30, 31, 32, 33, 34, 35, 36, 37, 38, 39, 40, 41, 42, 43, 44, 45, 46, 47, 48, 4, 5, 6, 49, 50, 51, 52, 53, 54, 55, 56, 57, 58, 59, 60, 61, 62, 63, 64, 65] (by decide +kernel) (by decide +kernel)
set_option maxRecDepth 20000 in
theorem gX1_goOn_X1_tryInstruction : GoodIn wsX1_goOn (wsV RX1 63 RX1 yX1_tryInstruction wsX1_tryInstruction) := goodIn_app (goodIn_of _ (by decide +kernel)) ggX1_goOn_X1_tryInstruction
theorem dX1_goOn_0 : decode cX1_goOn 0 = .ok (.aload_n 0, 1) := by decide +kernel
theorem dX1_goOn_1 : decode cX1_goOn 1 = .ok (.getfield 19, 3) := by decide +kernel
theorem dX1_goOn_4 : decode cX1_goOn 4 = .ok (.ifCond .eq 4, 3) := by decide +kernel
theorem dX1_goOn_7 : decode cX1_goOn 7 = .ok (.return_, 1) := by decide +kernel
theorem dX1_goOn_8 : decode cX1_goOn 8 = .ok (.aload_n 0, 1) := by decide +kernel
theorem dX1_goOn_9 : decode cX1_goOn 9 = .ok (.getfield 15, 3) := by decide +kernel
theorem dX1_goOn_12 : decode cX1_goOn 12 = .ok (.aload_n 0, 1) := by decide +kernel
theorem dX1_goOn_13 : decode cX1_goOn 13 = .ok (.getfield 38, 3) := by decide +kernel
theorem dX1_goOn_16 : decode cX1_goOn 16 = .ok (.arraylength, 1) := by decide +kernel
theorem dX1_goOn_17 : decode cX1_goOn 17 = .ok (.invokestatic 59, 3) := by decide +kernel
theorem dX1_goOn_20 : decode cX1_goOn 20 = .ok (.ifCond .eq 19, 3) := by decide +kernel
theorem dX1_goOn_23 : decode cX1_goOn 23 = .ok (.aload_n 0, 1) := by decide +kernel
theorem dX1_goOn_24 : decode cX1_goOn 24 = .ok (.aload_n 0, 1) := by decide +kernel
theorem dX1_goOn_25 : decode cX1_goOn 25 = .ok (.getfield 38, 3) := by decide +kernel
theorem dX1_goOn_28 : decode cX1_goOn 28 = .ok (.aload_n 0, 1) := by decide +kernel
theorem dX1_goOn_29 : decode cX1_goOn 29 = .ok (.getfield 15, 3) := by decide +kernel
theorem dX1_goOn_32 : decode cX1_goOn 32 = .ok (.iaload, 1) := by decide +kernel
theorem dX1_goOn_33 : decode cX1_goOn 33 = .ok (.invokevirtual 63, 3) := by decide +kernel
theorem dX1_goOn_36 : decode cX1_goOn 36 = .ok (.goto 8, 3) := by decide +kernel
theorem dX1_goOn_39 : decode cX1_goOn 39 = .ok (.aload_n 0, 1) := by decide +kernel
theorem dX1_goOn_40 : decode cX1_goOn 40 = .ok (.iconst 3, 1) := by decide +kernel
theorem dX1_goOn_41 : decode cX1_goOn 41 = .ok (.putfield 19, 3) := by decide +kernel
theorem dX1_goOn_44 : decode cX1_goOn 44 = .ok (.return_, 1) := by decide +kernel
set_option maxRecDepth 20000 in
theorem ggX1_tryInstruction_X1_fieldA : GoodIn wsX1_tryInstruction wsX1_fieldA := goodIn_r _ [8] (by decide +kernel) (by decide +kernel)
set_option maxRecDepth 20000 in
theorem gX1_tryInstruction_X1_fieldA : GoodIn wsX1_tryInstruction (va_wsS RX1 66 yX1_fieldA wsX1_fieldA) := goodIn_app (goodIn_of _ (by decide +kernel)) ggX1_tryInstruction_X1_fieldA
set_option maxRecDepth 20000 in
theorem ggX1_tryInstruction_X1_fieldB : GoodIn wsX1_tryInstruction wsX1_fieldB := goodIn_r _ [11] (by decide +kernel) (by decide +kernel)
set_option maxRecDepth 20000 in
theorem gX1_tryInstruction_X1_fieldB : GoodIn wsX1_tryInstruction (va_wsS RX1 69 yX1_fieldB wsX1_fieldB) := goodIn_app (goodIn_of _ (by decide +kernel)) ggX1_tryInstruction_X1_fieldB
set_option maxRecDepth 20000 in
theorem ggX1_tryInstruction_X1_fieldC : GoodIn wsX1_tryInstruction wsX1_fieldC := goodIn_r _ [14] (by decide +kernel) (by decide +kernel)
set_option maxRecDepth 20000 in
theorem gX1_tryInstruction_X1_fieldC : GoodIn wsX1_tryInstruction (va_wsS RX1 72 yX1_fieldC wsX1_fieldC) := goodIn_app (goodIn_of _ (by decide +kernel)) ggX1_tryInstruction_X1_fieldC
set_option maxRecDepth 20000 in
theorem ggX1_tryInstruction_X1_fieldN : GoodIn wsX1_tryInstruction wsX1_fieldN := goodIn_r _ [17] (by decide +kernel) (by decide +kernel)
set_option maxRecDepth 20000 in
theorem gX1_tryInstruction_X1_fieldN : GoodIn wsX1_tryInstruction (va_wsS RX1 75 yX1_fieldN wsX1_fieldN) := goodIn_app (goodIn_of _ (by decide +kernel)) ggX1_tryInstruction_X1_fieldN
set_option maxRecDepth 20000 in
theorem ggX1_tryInstruction_X1_operation : GoodIn wsX1_tryInstruction wsX1_operation := goodIn_r _ [20] (by decide +kernel) (by decide +kernel)
set_option maxRecDepth 20000 in
theorem gX1_tryInstruction_X1_operation : GoodIn wsX1_tryInstruction (va_wsS RX1 78 yX1_operation wsX1_operation) := goodIn_app (goodIn_of _ (by decide +kernel)) ggX1_tryInstruction_X1_operation
set_option maxRecDepth 20000 in
theorem ggX1_tryInstruction_X1_finish : GoodIn wsX1_tryInstruction wsX1_finish := goodIn_r _ [24, 3, 25, 49, 50, 51, 52, 53, 54, 55, 56, 57, 58] (by decide +kernel) (by decide +kernel)
set_option maxRecDepth 20000 in
theorem gX1_tryInstruction_X1_finish : GoodIn wsX1_tryInstruction (wsV RX1 81 RX1 yX1_finish wsX1_finish) := goodIn_app (goodIn_of _ (by decide +kernel)) ggX1_tryInstruction_X1_finish
set_option maxRecDepth 20000 in
theorem ggX1_tryInstruction_X1_answer : GoodIn wsX1_tryInstruction wsX1_answer := goodIn_r _ [29, 1, 3, 5, 6, 7, 8, 21, 22, 23, 24, 25, 49, 50, 51, 52, 53, 54, 55, 56, 57, 58] (by decide +kernel) (by decide +kernel)
set_option maxRecDepth 20000 in
theorem gX1_tryInstruction_X1_answer : GoodIn wsX1_tryInstruction (wsV RX1 84 RX1 yX1_answer wsX1_answer) := goodIn_app (goodIn_of _ (by decide +kernel)) ggX1_tryInstruction_X1_answer
set_option maxRecDepth 20000 in
theorem ggX1_tryInstruction_X1_tryAccess : GoodIn wsX1_tryInstruction wsX1_tryAccess := goodIn_r _ [33, 34, 2, 35, 36, 37, 38, 39, 40, 41, 42, 43, 44, 45, 46, 47, 48, 18, 19, 7, 20, 49, 50, 51, 52, 53, 54, 55, 56, 57, 58, 59, 60] (by decide +kernel) (by decide +kernel)
set_option maxRecDepth 20000 in
theorem gX1_tryInstruction_X1_tryAccess : GoodIn wsX1_tryInstruction (wsV RX1 88 RX1 yX1_tryAccess wsX1_tryAccess) := goodIn_app (goodIn_of _ (by decide +kernel)) ggX1_tryInstruction_X1_tryAccess
theorem dX1_tryInstruction_0 : decode cX1_tryInstruction 0 = .ok (.aload_n 0, 1) := by decide +kernel
theorem dX1_tryInstruction_1 : decode cX1_tryInstruction 1 = .ok (.getfield 9, 3) := by decide +kernel
theorem dX1_tryInstruction_4 : decode cX1_tryInstruction 4 = .ok (.iload_n 1, 1) := by decide +kernel
theorem dX1_tryInstruction_5 : decode cX1_tryInstruction 5 = .ok (.invokestatic 66, 3) := by decide +kernel
theorem dX1_tryInstruction_8 : decode cX1_tryInstruction 8 = .ok (.iaload, 1) := by decide +kernel
theorem dX1_tryInstruction_9 : decode cX1_tryInstruction 9 = .ok (.istore_n 2, 1) := by decide +kernel
theorem dX1_tryInstruction_10 : decode cX1_tryInstruction 10 = .ok (.aload_n 0, 1) := by decide +kernel
theorem dX1_tryInstruction_11 : decode cX1_tryInstruction 11 = .ok (.getfield 9, 3) := by decide +kernel
theorem dX1_tryInstruction_14 : decode cX1_tryInstruction 14 = .ok (.iload_n 1, 1) := by decide +kernel
theorem dX1_tryInstruction_15 : decode cX1_tryInstruction 15 = .ok (.invokestatic 69, 3) := by decide +kernel
theorem dX1_tryInstruction_18 : decode cX1_tryInstruction 18 = .ok (.iaload, 1) := by decide +kernel
theorem dX1_tryInstruction_19 : decode cX1_tryInstruction 19 = .ok (.istore_n 3, 1) := by decide +kernel
theorem dX1_tryInstruction_20 : decode cX1_tryInstruction 20 = .ok (.aload_n 0, 1) := by decide +kernel
theorem dX1_tryInstruction_21 : decode cX1_tryInstruction 21 = .ok (.getfield 9, 3) := by decide +kernel
theorem dX1_tryInstruction_24 : decode cX1_tryInstruction 24 = .ok (.iload_n 1, 1) := by decide +kernel
theorem dX1_tryInstruction_25 : decode cX1_tryInstruction 25 = .ok (.invokestatic 72, 3) := by decide +kernel
theorem dX1_tryInstruction_28 : decode cX1_tryInstruction 28 = .ok (.iaload, 1) := by decide +kernel
theorem dX1_tryInstruction_29 : decode cX1_tryInstruction 29 = .ok (.istore 4, 2) := by decide +kernel
theorem dX1_tryInstruction_31 : decode cX1_tryInstruction 31 = .ok (.iload_n 1, 1) := by decide +kernel
theorem dX1_tryInstruction_32 : decode cX1_tryInstruction 32 = .ok (.invokestatic 75, 3) := by decide +kernel
theorem dX1_tryInstruction_35 : decode cX1_tryInstruction 35 = .ok (.istore 5, 2) := by decide +kernel
theorem dX1_tryInstruction_37 : decode cX1_tryInstruction 37 = .ok (.iload_n 1, 1) := by decide +kernel
theorem dX1_tryInstruction_38 : decode cX1_tryInstruction 38 = .ok (.invokestatic 78, 3) := by decide +kernel
theorem dX1_tryInstruction_41 : decode cX1_tryInstruction 41 = .ok (.tableswitch 194 0 11 #[63, 81, 91, 103, 115, 127, 139, 151, 173, 182, 182, 182], 63) := by decide +kernel
theorem dX1_tryInstruction_104 : decode cX1_tryInstruction 104 = .ok (.aload_n 0, 1) := by decide +kernel
theorem dX1_tryInstruction_105 : decode cX1_tryInstruction 105 = .ok (.iconst 2, 1) := by decide +kernel
theorem dX1_tryInstruction_106 : decode cX1_tryInstruction 106 = .ok (.putfield 19, 3) := by decide +kernel
theorem dX1_tryInstruction_109 : decode cX1_tryInstruction 109 = .ok (.aload_n 0, 1) := by decide +kernel
theorem dX1_tryInstruction_110 : decode cX1_tryInstruction 110 = .ok (.aload_n 0, 1) := by decide +kernel
theorem dX1_tryInstruction_111 : decode cX1_tryInstruction 111 = .ok (.getfield 15, 3) := by decide +kernel
theorem dX1_tryInstruction_114 : decode cX1_tryInstruction 114 = .ok (.iconst 1, 1) := by decide +kernel
theorem dX1_tryInstruction_115 : decode cX1_tryInstruction 115 = .ok (.iadd, 1) := by decide +kernel
theorem dX1_tryInstruction_116 : decode cX1_tryInstruction 116 = .ok (.invokevirtual 81, 3) := by decide +kernel
theorem dX1_tryInstruction_119 : decode cX1_tryInstruction 119 = .ok (.goto 121, 3) := by decide +kernel
theorem dX1_tryInstruction_122 : decode cX1_tryInstruction 122 = .ok (.aload_n 0, 1) := by decide +kernel
theorem dX1_tryInstruction_123 : decode cX1_tryInstruction 123 = .ok (.iload_n 1, 1) := by decide +kernel
theorem dX1_tryInstruction_124 : decode cX1_tryInstruction 124 = .ok (.iload 5, 2) := by decide +kernel
theorem dX1_tryInstruction_126 : decode cX1_tryInstruction 126 = .ok (.invokevirtual 84, 3) := by decide +kernel
theorem dX1_tryInstruction_129 : decode cX1_tryInstruction 129 = .ok (.goto 111, 3) := by decide +kernel
theorem dX1_tryInstruction_132 : decode cX1_tryInstruction 132 = .ok (.aload_n 0, 1) := by decide +kernel
theorem dX1_tryInstruction_133 : decode cX1_tryInstruction 133 = .ok (.iload_n 1, 1) := by decide +kernel
theorem dX1_tryInstruction_134 : decode cX1_tryInstruction 134 = .ok (.iload_n 3, 1) := by decide +kernel
theorem dX1_tryInstruction_135 : decode cX1_tryInstruction 135 = .ok (.iload 4, 2) := by decide +kernel
theorem dX1_tryInstruction_137 : decode cX1_tryInstruction 137 = .ok (.iadd, 1) := by decide +kernel
theorem dX1_tryInstruction_138 : decode cX1_tryInstruction 138 = .ok (.invokevirtual 84, 3) := by decide +kernel
theorem dX1_tryInstruction_141 : decode cX1_tryInstruction 141 = .ok (.goto 99, 3) := by decide +kernel
theorem dX1_tryInstruction_144 : decode cX1_tryInstruction 144 = .ok (.aload_n 0, 1) := by decide +kernel
theorem dX1_tryInstruction_145 : decode cX1_tryInstruction 145 = .ok (.iload_n 1, 1) := by decide +kernel
theorem dX1_tryInstruction_146 : decode cX1_tryInstruction 146 = .ok (.iload_n 3, 1) := by decide +kernel
theorem dX1_tryInstruction_147 : decode cX1_tryInstruction 147 = .ok (.iload 4, 2) := by decide +kernel
theorem dX1_tryInstruction_149 : decode cX1_tryInstruction 149 = .ok (.isub, 1) := by decide +kernel
theorem dX1_tryInstruction_150 : decode cX1_tryInstruction 150 = .ok (.invokevirtual 84, 3) := by decide +kernel
theorem dX1_tryInstruction_153 : decode cX1_tryInstruction 153 = .ok (.goto 87, 3) := by decide +kernel
theorem dX1_tryInstruction_156 : decode cX1_tryInstruction 156 = .ok (.aload_n 0, 1) := by decide +kernel
theorem dX1_tryInstruction_157 : decode cX1_tryInstruction 157 = .ok (.iload_n 1, 1) := by decide +kernel
theorem dX1_tryInstruction_158 : decode cX1_tryInstruction 158 = .ok (.iload_n 3, 1) := by decide +kernel
theorem dX1_tryInstruction_159 : decode cX1_tryInstruction 159 = .ok (.iload 4, 2) := by decide +kernel
theorem dX1_tryInstruction_161 : decode cX1_tryInstruction 161 = .ok (.imul, 1) := by decide +kernel
theorem dX1_tryInstruction_162 : decode cX1_tryInstruction 162 = .ok (.invokevirtual 84, 3) := by decide +kernel
theorem dX1_tryInstruction_165 : decode cX1_tryInstruction 165 = .ok (.goto 75, 3) := by decide +kernel
theorem dX1_tryInstruction_168 : decode cX1_tryInstruction 168 = .ok (.aload_n 0, 1) := by decide +kernel
theorem dX1_tryInstruction_169 : decode cX1_tryInstruction 169 = .ok (.iload_n 1, 1) := by decide +kernel
theorem dX1_tryInstruction_170 : decode cX1_tryInstruction 170 = .ok (.iload_n 3, 1) := by decide +kernel
theorem dX1_tryInstruction_171 : decode cX1_tryInstruction 171 = .ok (.iload 5, 2) := by decide +kernel
theorem dX1_tryInstruction_173 : decode cX1_tryInstruction 173 = .ok (.iadd, 1) := by decide +kernel
theorem dX1_tryInstruction_174 : decode cX1_tryInstruction 174 = .ok (.invokevirtual 84, 3) := by decide +kernel
theorem dX1_tryInstruction_177 : decode cX1_tryInstruction 177 = .ok (.goto 63, 3) := by decide +kernel
theorem dX1_tryInstruction_180 : decode cX1_tryInstruction 180 = .ok (.aload_n 0, 1) := by decide +kernel
theorem dX1_tryInstruction_181 : decode cX1_tryInstruction 181 = .ok (.iload_n 1, 1) := by decide +kernel
theorem dX1_tryInstruction_182 : decode cX1_tryInstruction 182 = .ok (.aload_n 0, 1) := by decide +kernel
theorem dX1_tryInstruction_183 : decode cX1_tryInstruction 183 = .ok (.getfield 31, 3) := by decide +kernel
theorem dX1_tryInstruction_186 : decode cX1_tryInstruction 186 = .ok (.invokevirtual 84, 3) := by decide +kernel
theorem dX1_tryInstruction_189 : decode cX1_tryInstruction 189 = .ok (.goto 51, 3) := by decide +kernel
theorem dX1_tryInstruction_192 : decode cX1_tryInstruction 192 = .ok (.aload_n 0, 1) := by decide +kernel
theorem dX1_tryInstruction_193 : decode cX1_tryInstruction 193 = .ok (.iload_n 2, 1) := by decide +kernel
theorem dX1_tryInstruction_194 : decode cX1_tryInstruction 194 = .ok (.ifCond .ne 8, 3) := by decide +kernel
theorem dX1_tryInstruction_197 : decode cX1_tryInstruction 197 = .ok (.iload 5, 2) := by decide +kernel
theorem dX1_tryInstruction_199 : decode cX1_tryInstruction 199 = .ok (.goto 9, 3) := by decide +kernel
theorem dX1_tryInstruction_202 : decode cX1_tryInstruction 202 = .ok (.aload_n 0, 1) := by decide +kernel
theorem dX1_tryInstruction_203 : decode cX1_tryInstruction 203 = .ok (.getfield 15, 3) := by decide +kernel
theorem dX1_tryInstruction_206 : decode cX1_tryInstruction 206 = .ok (.iconst 1, 1) := by decide +kernel
theorem dX1_tryInstruction_207 : decode cX1_tryInstruction 207 = .ok (.iadd, 1) := by decide +kernel
theorem dX1_tryInstruction_208 : decode cX1_tryInstruction 208 = .ok (.invokevirtual 81, 3) := by decide +kernel
theorem dX1_tryInstruction_211 : decode cX1_tryInstruction 211 = .ok (.goto 29, 3) := by decide +kernel
theorem dX1_tryInstruction_214 : decode cX1_tryInstruction 214 = .ok (.aload_n 0, 1) := by decide +kernel
theorem dX1_tryInstruction_215 : decode cX1_tryInstruction 215 = .ok (.iload 5, 2) := by decide +kernel
theorem dX1_tryInstruction_217 : decode cX1_tryInstruction 217 = .ok (.invokevirtual 81, 3) := by decide +kernel
theorem dX1_tryInstruction_220 : decode cX1_tryInstruction 220 = .ok (.goto 20, 3) := by decide +kernel
theorem dX1_tryInstruction_223 : decode cX1_tryInstruction 223 = .ok (.aload_n 0, 1) := by decide +kernel
theorem dX1_tryInstruction_224 : decode cX1_tryInstruction 224 = .ok (.iload_n 1, 1) := by decide +kernel
theorem dX1_tryInstruction_225 : decode cX1_tryInstruction 225 = .ok (.iload_n 3, 1) := by decide +kernel
theorem dX1_tryInstruction_226 : decode cX1_tryInstruction 226 = .ok (.iload 5, 2) := by decide +kernel
theorem dX1_tryInstruction_228 : decode cX1_tryInstruction 228 = .ok (.iadd, 1) := by decide +kernel
theorem dX1_tryInstruction_229 : decode cX1_tryInstruction 229 = .ok (.invokevirtual 88, 3) := by decide +kernel
theorem dX1_tryInstruction_232 : decode cX1_tryInstruction 232 = .ok (.goto 8, 3) := by decide +kernel
theorem dX1_tryInstruction_235 : decode cX1_tryInstruction 235 = .ok (.aload_n 0, 1) := by decide +kernel
theorem dX1_tryInstruction_236 : decode cX1_tryInstruction 236 = .ok (.iconst 3, 1) := by decide +kernel
theorem dX1_tryInstruction_237 : decode cX1_tryInstruction 237 = .ok (.putfield 19, 3) := by decide +kernel
theorem dX1_tryInstruction_240 : decode cX1_tryInstruction 240 = .ok (.return_, 1) := by decide +kernel
set_option maxRecDepth 20000 in
theorem ggX1_tryAccess_X2_has : GoodIn wsX1_tryAccess wsX2_has := goodIn_r _ [7, 8, 9, 10, 11, 31, 32] (by decide +kernel) (by decide +kernel)
set_option maxRecDepth 20000 in
theorem gX1_tryAccess_X2_has : GoodIn wsX1_tryAccess (wsV RX1 91 RX2 yX2_has wsX2_has) := goodIn_app (goodIn_of _ (by decide +kernel)) ggX1_tryAccess_X2_has
set_option maxRecDepth 20000 in
theorem ggX1_tryAccess_X2_lineOf : GoodIn wsX1_tryAccess wsX2_lineOf := goodIn_r _ [15, 16, 31, 32] (by decide +kernel) (by decide +kernel)
set_option maxRecDepth 20000 in
theorem gX1_tryAccess_X2_lineOf : GoodIn wsX1_tryAccess (wsV RX1 95 RX2 yX2_lineOf wsX2_lineOf) := goodIn_app (goodIn_of _ (by decide +kernel)) ggX1_tryAccess_X2_lineOf
set_option maxRecDepth 20000 in
theorem ggX1_tryAccess_X1_operation : GoodIn wsX1_tryAccess wsX1_operation := goodIn_r _ [20] (by decide +kernel) (by decide +kernel)
set_option maxRecDepth 20000 in
theorem gX1_tryAccess_X1_operation : GoodIn wsX1_tryAccess (va_wsS RX1 78 yX1_operation wsX1_operation) := goodIn_app (goodIn_of _ (by decide +kernel)) ggX1_tryAccess_X1_operation
theorem dX1_tryAccess_0 : decode cX1_tryAccess 0 = .ok (.aload_n 0, 1) := by decide +kernel
theorem dX1_tryAccess_1 : decode cX1_tryAccess 1 = .ok (.getfield 34, 3) := by decide +kernel
theorem dX1_tryAccess_4 : decode cX1_tryAccess 4 = .ok (.iload_n 2, 1) := by decide +kernel
theorem dX1_tryAccess_5 : decode cX1_tryAccess 5 = .ok (.invokevirtual 91, 3) := by decide +kernel
theorem dX1_tryAccess_8 : decode cX1_tryAccess 8 = .ok (.ifCond .ne 9, 3) := by decide +kernel
theorem dX1_tryAccess_11 : decode cX1_tryAccess 11 = .ok (.aload_n 0, 1) := by decide +kernel
theorem dX1_tryAccess_12 : decode cX1_tryAccess 12 = .ok (.iconst 3, 1) := by decide +kernel
theorem dX1_tryAccess_13 : decode cX1_tryAccess 13 = .ok (.putfield 19, 3) := by decide +kernel
theorem dX1_tryAccess_16 : decode cX1_tryAccess 16 = .ok (.return_, 1) := by decide +kernel
theorem dX1_tryAccess_17 : decode cX1_tryAccess 17 = .ok (.aload_n 0, 1) := by decide +kernel
theorem dX1_tryAccess_18 : decode cX1_tryAccess 18 = .ok (.getfield 34, 3) := by decide +kernel
theorem dX1_tryAccess_21 : decode cX1_tryAccess 21 = .ok (.iload_n 2, 1) := by decide +kernel
theorem dX1_tryAccess_22 : decode cX1_tryAccess 22 = .ok (.invokevirtual 95, 3) := by decide +kernel
theorem dX1_tryAccess_25 : decode cX1_tryAccess 25 = .ok (.istore_n 3, 1) := by decide +kernel
theorem dX1_tryAccess_26 : decode cX1_tryAccess 26 = .ok (.aload_n 0, 1) := by decide +kernel
theorem dX1_tryAccess_27 : decode cX1_tryAccess 27 = .ok (.iload_n 3, 1) := by decide +kernel
theorem dX1_tryAccess_28 : decode cX1_tryAccess 28 = .ok (.invokevirtual 98, 3) := by decide +kernel
theorem dX1_tryAccess_31 : decode cX1_tryAccess 31 = .ok (.astore 4, 2) := by decide +kernel
theorem dX1_tryAccess_33 : decode cX1_tryAccess 33 = .ok (.iload_n 1, 1) := by decide +kernel
theorem dX1_tryAccess_34 : decode cX1_tryAccess 34 = .ok (.invokestatic 78, 3) := by decide +kernel
theorem dX1_tryAccess_37 : decode cX1_tryAccess 37 = .ok (.bipush 9, 2) := by decide +kernel
theorem dX1_tryAccess_39 : decode cX1_tryAccess 39 = .ok (.if_icmp .ne 7, 3) := by decide +kernel
theorem dX1_tryAccess_42 : decode cX1_tryAccess 42 = .ok (.iconst 1, 1) := by decide +kernel
theorem dX1_tryAccess_43 : decode cX1_tryAccess 43 = .ok (.goto 4, 3) := by decide +kernel
theorem dX1_tryAccess_46 : decode cX1_tryAccess 46 = .ok (.iconst 0, 1) := by decide +kernel
theorem dX1_tryAccess_47 : decode cX1_tryAccess 47 = .ok (.istore 5, 2) := by decide +kernel
theorem dX1_tryAccess_49 : decode cX1_tryAccess 49 = .ok (.aload 4, 2) := by decide +kernel
theorem dX1_tryAccess_51 : decode cX1_tryAccess 51 = .ok (.iload_n 3, 1) := by decide +kernel
theorem dX1_tryAccess_52 : decode cX1_tryAccess 52 = .ok (.invokevirtual 102, 3) := by decide +kernel
theorem dX1_tryAccess_55 : decode cX1_tryAccess 55 = .ok (.ifCond .eq 34, 3) := by decide +kernel
theorem dX1_tryAccess_58 : decode cX1_tryAccess 58 = .ok (.iload 5, 2) := by decide +kernel
theorem dX1_tryAccess_60 : decode cX1_tryAccess 60 = .ok (.ifCond .ne 11, 3) := by decide +kernel
theorem dX1_tryAccess_63 : decode cX1_tryAccess 63 = .ok (.aload 4, 2) := by decide +kernel
theorem dX1_tryAccess_65 : decode cX1_tryAccess 65 = .ok (.invokevirtual 105, 3) := by decide +kernel
theorem dX1_tryAccess_68 : decode cX1_tryAccess 68 = .ok (.ifCond .eq 21, 3) := by decide +kernel
theorem dX1_tryAccess_71 : decode cX1_tryAccess 71 = .ok (.aload_n 0, 1) := by decide +kernel
theorem dX1_tryAccess_72 : decode cX1_tryAccess 72 = .ok (.iload_n 1, 1) := by decide +kernel
theorem dX1_tryAccess_73 : decode cX1_tryAccess 73 = .ok (.aload 4, 2) := by decide +kernel
theorem dX1_tryAccess_75 : decode cX1_tryAccess 75 = .ok (.aload_n 0, 1) := by decide +kernel
theorem dX1_tryAccess_76 : decode cX1_tryAccess 76 = .ok (.getfield 34, 3) := by decide +kernel
theorem dX1_tryAccess_79 : decode cX1_tryAccess 79 = .ok (.iload_n 2, 1) := by decide +kernel
theorem dX1_tryAccess_80 : decode cX1_tryAccess 80 = .ok (.invokevirtual 109, 3) := by decide +kernel
theorem dX1_tryAccess_83 : decode cX1_tryAccess 83 = .ok (.invokevirtual 112, 3) := by decide +kernel
theorem dX1_tryAccess_86 : decode cX1_tryAccess 86 = .ok (.goto 18, 3) := by decide +kernel
theorem dX1_tryAccess_89 : decode cX1_tryAccess 89 = .ok (.aload_n 0, 1) := by decide +kernel
theorem dX1_tryAccess_90 : decode cX1_tryAccess 90 = .ok (.iload 5, 2) := by decide +kernel
theorem dX1_tryAccess_92 : decode cX1_tryAccess 92 = .ok (.ifCond .eq 7, 3) := by decide +kernel
theorem dX1_tryAccess_95 : decode cX1_tryAccess 95 = .ok (.iconst 1, 1) := by decide +kernel
theorem dX1_tryAccess_96 : decode cX1_tryAccess 96 = .ok (.goto 4, 3) := by decide +kernel
theorem dX1_tryAccess_99 : decode cX1_tryAccess 99 = .ok (.iconst 2, 1) := by decide +kernel
theorem dX1_tryAccess_100 : decode cX1_tryAccess 100 = .ok (.iload_n 3, 1) := by decide +kernel
theorem dX1_tryAccess_101 : decode cX1_tryAccess 101 = .ok (.invokevirtual 116, 3) := by decide +kernel
theorem dX1_tryAccess_104 : decode cX1_tryAccess 104 = .ok (.return_, 1) := by decide +kernel
set_option maxRecDepth 20000 in
theorem ggX1_answer_X1_fieldA : GoodIn wsX1_answer wsX1_fieldA := goodIn_r _ [6] (by decide +kernel) (by decide +kernel)
set_option maxRecDepth 20000 in
theorem gX1_answer_X1_fieldA : GoodIn wsX1_answer (va_wsS RX1 66 yX1_fieldA wsX1_fieldA) := goodIn_app (goodIn_of _ (by decide +kernel)) ggX1_answer_X1_fieldA
set_option maxRecDepth 20000 in
theorem ggX1_answer_X1_finish : GoodIn wsX1_answer wsX1_finish := goodIn_r _ [10, 2, 11, 12, 13, 14, 15, 16, 17, 18, 19, 20, 21] (by decide +kernel) (by decide +kernel)
set_option maxRecDepth 20000 in
theorem gX1_answer_X1_finish : GoodIn wsX1_answer (wsV RX1 81 RX1 yX1_finish wsX1_finish) := goodIn_app (goodIn_of _ (by decide +kernel)) ggX1_answer_X1_finish
theorem dX1_answer_0 : decode cX1_answer 0 = .ok (.aload_n 0, 1) := by decide +kernel
theorem dX1_answer_1 : decode cX1_answer 1 = .ok (.getfield 9, 3) := by decide +kernel
theorem dX1_answer_4 : decode cX1_answer 4 = .ok (.iload_n 1, 1) := by decide +kernel
theorem dX1_answer_5 : decode cX1_answer 5 = .ok (.invokestatic 66, 3) := by decide +kernel
theorem dX1_answer_8 : decode cX1_answer 8 = .ok (.iload_n 2, 1) := by decide +kernel
theorem dX1_answer_9 : decode cX1_answer 9 = .ok (.iastore, 1) := by decide +kernel
theorem dX1_answer_10 : decode cX1_answer 10 = .ok (.aload_n 0, 1) := by decide +kernel
theorem dX1_answer_11 : decode cX1_answer 11 = .ok (.aload_n 0, 1) := by decide +kernel
theorem dX1_answer_12 : decode cX1_answer 12 = .ok (.getfield 15, 3) := by decide +kernel
theorem dX1_answer_15 : decode cX1_answer 15 = .ok (.iconst 1, 1) := by decide +kernel
theorem dX1_answer_16 : decode cX1_answer 16 = .ok (.iadd, 1) := by decide +kernel
theorem dX1_answer_17 : decode cX1_answer 17 = .ok (.invokevirtual 81, 3) := by decide +kernel
theorem dX1_answer_20 : decode cX1_answer 20 = .ok (.return_, 1) := by decide +kernel
theorem dX1_finish_0 : decode cX1_finish 0 = .ok (.aload_n 0, 1) := by decide +kernel
theorem dX1_finish_1 : decode cX1_finish 1 = .ok (.iload_n 1, 1) := by decide +kernel
theorem dX1_finish_2 : decode cX1_finish 2 = .ok (.putfield 15, 3) := by decide +kernel
theorem dX1_finish_5 : decode cX1_finish 5 = .ok (.aload_n 0, 1) := by decide +kernel
theorem dX1_finish_6 : decode cX1_finish 6 = .ok (.dup, 1) := by decide +kernel
theorem dX1_finish_7 : decode cX1_finish 7 = .ok (.getfield 22, 3) := by decide +kernel
theorem dX1_finish_10 : decode cX1_finish 10 = .ok (.iconst 1, 1) := by decide +kernel
theorem dX1_finish_11 : decode cX1_finish 11 = .ok (.iadd, 1) := by decide +kernel
theorem dX1_finish_12 : decode cX1_finish 12 = .ok (.putfield 22, 3) := by decide +kernel
theorem dX1_finish_15 : decode cX1_finish 15 = .ok (.return_, 1) := by decide +kernel
theorem dX1_operation_0 : decode cX1_operation 0 = .ok (.iload_n 0, 1) := by decide +kernel
theorem dX1_operation_1 : decode cX1_operation 1 = .ok (.bipush 15, 2) := by decide +kernel
theorem dX1_operation_3 : decode cX1_operation 3 = .ok (.iand, 1) := by decide +kernel
theorem dX1_operation_4 : decode cX1_operation 4 = .ok (.ireturn, 1) := by decide +kernel
theorem dX1_fieldA_0 : decode cX1_fieldA 0 = .ok (.iload_n 0, 1) := by decide +kernel
theorem dX1_fieldA_1 : decode cX1_fieldA 1 = .ok (.iconst 4, 1) := by decide +kernel
theorem dX1_fieldA_2 : decode cX1_fieldA 2 = .ok (.ishr, 1) := by decide +kernel
theorem dX1_fieldA_3 : decode cX1_fieldA 3 = .ok (.iconst 3, 1) := by decide +kernel
theorem dX1_fieldA_4 : decode cX1_fieldA 4 = .ok (.iand, 1) := by decide +kernel
theorem dX1_fieldA_5 : decode cX1_fieldA 5 = .ok (.ireturn, 1) := by decide +kernel
theorem dX1_fieldB_0 : decode cX1_fieldB 0 = .ok (.iload_n 0, 1) := by decide +kernel
theorem dX1_fieldB_1 : decode cX1_fieldB 1 = .ok (.bipush 6, 2) := by decide +kernel
theorem dX1_fieldB_3 : decode cX1_fieldB 3 = .ok (.ishr, 1) := by decide +kernel
theorem dX1_fieldB_4 : decode cX1_fieldB 4 = .ok (.iconst 3, 1) := by decide +kernel
theorem dX1_fieldB_5 : decode cX1_fieldB 5 = .ok (.iand, 1) := by decide +kernel
theorem dX1_fieldB_6 : decode cX1_fieldB 6 = .ok (.ireturn, 1) := by decide +kernel
theorem dX1_fieldC_0 : decode cX1_fieldC 0 = .ok (.iload_n 0, 1) := by decide +kernel
theorem dX1_fieldC_1 : decode cX1_fieldC 1 = .ok (.bipush 8, 2) := by decide +kernel
theorem dX1_fieldC_3 : decode cX1_fieldC 3 = .ok (.ishr, 1) := by decide +kernel
theorem dX1_fieldC_4 : decode cX1_fieldC 4 = .ok (.iconst 3, 1) := by decide +kernel
theorem dX1_fieldC_5 : decode cX1_fieldC 5 = .ok (.iand, 1) := by decide +kernel
theorem dX1_fieldC_6 : decode cX1_fieldC 6 = .ok (.ireturn, 1) := by decide +kernel
theorem dX1_fieldN_0 : decode cX1_fieldN 0 = .ok (.iload_n 0, 1) := by decide +kernel
theorem dX1_fieldN_1 : decode cX1_fieldN 1 = .ok (.bipush 10, 2) := by decide +kernel
theorem dX1_fieldN_3 : decode cX1_fieldN 3 = .ok (.ishr, 1) := by decide +kernel
theorem dX1_fieldN_4 : decode cX1_fieldN 4 = .ok (.ireturn, 1) := by decide +kernel
theorem dX2_init_0 : decode cX2_init 0 = .ok (.aload_n 0, 1) := by decide +kernel
theorem dX2_init_1 : decode cX2_init 1 = .ok (.invokespecial 3, 3) := by decide +kernel
theorem dX2_init_4 : decode cX2_init 4 = .ok (.aload_n 0, 1) := by decide +kernel
theorem dX2_init_5 : decode cX2_init 5 = .ok (.iload_n 1, 1) := by decide +kernel
theorem dX2_init_6 : decode cX2_init 6 = .ok (.putfield 9, 3) := by decide +kernel
theorem dX2_init_9 : decode cX2_init 9 = .ok (.aload_n 0, 1) := by decide +kernel
theorem dX2_init_10 : decode cX2_init 10 = .ok (.iload_n 2, 1) := by decide +kernel
theorem dX2_init_11 : decode cX2_init 11 = .ok (.iload_n 2, 1) := by decide +kernel
theorem dX2_init_12 : decode cX2_init 12 = .ok (.iload_n 1, 1) := by decide +kernel
theorem dX2_init_13 : decode cX2_init 13 = .ok (.irem, 1) := by decide +kernel
theorem dX2_init_14 : decode cX2_init 14 = .ok (.isub, 1) := by decide +kernel
theorem dX2_init_15 : decode cX2_init 15 = .ok (.newarray .int, 2) := by decide +kernel
theorem dX2_init_17 : decode cX2_init 17 = .ok (.putfield 15, 3) := by decide +kernel
theorem dX2_init_20 : decode cX2_init 20 = .ok (.return_, 1) := by decide +kernel
set_option maxRecDepth 20000 in
theorem ggX2_has_X4_within : GoodIn wsX2_has wsX4_within := goodIn_r _ [4] (by decide +kernel) (by decide +kernel)
set_option maxRecDepth 20000 in
theorem gX2_has_X4_within_n19 : GoodIn wsX2_has (wsX4_within) := ggX2_has_X4_within
theorem dX2_has_0 : decode cX2_has 0 = .ok (.iload_n 1, 1) := by decide +kernel
theorem dX2_has_1 : decode cX2_has 1 = .ok (.aload_n 0, 1) := by decide +kernel
theorem dX2_has_2 : decode cX2_has 2 = .ok (.getfield 15, 3) := by decide +kernel
theorem dX2_has_5 : decode cX2_has 5 = .ok (.arraylength, 1) := by decide +kernel
theorem dX2_has_6 : decode cX2_has 6 = .ok (.invokestatic 19, 3) := by decide +kernel
theorem dX2_has_9 : decode cX2_has 9 = .ok (.ireturn, 1) := by decide +kernel
theorem dX2_lineOf_0 : decode cX2_lineOf 0 = .ok (.iload_n 1, 1) := by decide +kernel
theorem dX2_lineOf_1 : decode cX2_lineOf 1 = .ok (.aload_n 0, 1) := by decide +kernel
theorem dX2_lineOf_2 : decode cX2_lineOf 2 = .ok (.getfield 9, 3) := by decide +kernel
theorem dX2_lineOf_5 : decode cX2_lineOf 5 = .ok (.idiv, 1) := by decide +kernel
theorem dX2_lineOf_6 : decode cX2_lineOf 6 = .ok (.ireturn, 1) := by decide +kernel
theorem dX3_init_0 : decode cX3_init 0 = .ok (.aload_n 0, 1) := by decide +kernel
theorem dX3_init_1 : decode cX3_init 1 = .ok (.invokespecial 3, 3) := by decide +kernel
theorem dX3_init_4 : decode cX3_init 4 = .ok (.aload_n 0, 1) := by decide +kernel
theorem dX3_init_5 : decode cX3_init 5 = .ok (.iconst 0, 1) := by decide +kernel
theorem dX3_init_6 : decode cX3_init 6 = .ok (.putfield 9, 3) := by decide +kernel
theorem dX3_init_9 : decode cX3_init 9 = .ok (.aload_n 0, 1) := by decide +kernel
theorem dX3_init_10 : decode cX3_init 10 = .ok (.iconst (-1), 1) := by decide +kernel
theorem dX3_init_11 : decode cX3_init 11 = .ok (.putfield 15, 3) := by decide +kernel
theorem dX3_init_14 : decode cX3_init 14 = .ok (.aload_n 0, 1) := by decide +kernel
theorem dX3_init_15 : decode cX3_init 15 = .ok (.iload_n 1, 1) := by decide +kernel
theorem dX3_init_16 : decode cX3_init 16 = .ok (.newarray .int, 2) := by decide +kernel
theorem dX3_init_18 : decode cX3_init 18 = .ok (.putfield 18, 3) := by decide +kernel
theorem dX3_init_21 : decode cX3_init 21 = .ok (.return_, 1) := by decide +kernel
set_option maxRecDepth 20000 in
theorem ggX4_init_X4_limited : GoodIn wsX4_init wsX4_limited := goodIn_r _ [20, 21, 22, 23, 24, 25, 26, 27] (by decide +kernel) (by decide +kernel)
set_option maxRecDepth 20000 in
theorem gX4_init_X4_limited : GoodIn wsX4_init (va_wsS RX4 13 yX4_limited wsX4_limited) := goodIn_app (goodIn_of _ (by decide +kernel)) ggX4_init_X4_limited
set_option maxRecDepth 20000 in
theorem ggX4_init_X2_init : GoodIn wsX4_init wsX2_init := goodIn_r _ [30, 31, 2, 3, 32, 33, 34, 78, 79] (by decide +kernel) (by decide +kernel)
set_option maxRecDepth 20000 in
theorem gX4_init_X2_init : GoodIn wsX4_init (wsX2_init) := ggX4_init_X2_init
set_option maxRecDepth 20000 in
theorem ggX4_init_X1_init : GoodIn wsX4_init wsX1_init := goodIn_r _ [37, 38, 2, 3, 33, 39, 40, 41, 42, 43, 44, 45, 46, 47, 48, 49, 50, 51, 52, 53, 54, 55, 56, 57, 58, 59, 80, 81, 82, 83, 84, 85, 86, 87, 88, 89, 99, 100, 101, 78, 79] (by decide +kernel) (by decide +kernel)
set_option maxRecDepth 20000 in
theorem gX4_init_X1_init : GoodIn wsX4_init (wsX1_init) := ggX4_init_X1_init
set_option maxRecDepth 20000 in
theorem ggX4_init_X0_init : GoodIn wsX4_init wsX0_init := goodIn_r _ [62, 63, 2, 3, 33, 64, 65, 66, 67, 68, 69, 70, 71, 72, 73, 90, 91, 92, 93, 94, 95, 96, 97, 98, 78, 79] (by decide +kernel) (by decide +kernel)
set_option maxRecDepth 20000 in
theorem gX4_init_X0_init : GoodIn wsX4_init (wsX0_init) := ggX4_init_X0_init
theorem dX4_init_0 : decode cX4_init 0 = .ok (.aload_n 0, 1) := by decide +kernel
theorem dX4_init_1 : decode cX4_init 1 = .ok (.invokespecial 1, 3) := by decide +kernel
theorem dX4_init_4 : decode cX4_init 4 = .ok (.aload_n 0, 1) := by decide +kernel
theorem dX4_init_5 : decode cX4_init 5 = .ok (.iconst 0, 1) := by decide +kernel
theorem dX4_init_6 : decode cX4_init 6 = .ok (.putfield 7, 3) := by decide +kernel
theorem dX4_init_9 : decode cX4_init 9 = .ok (.iload_n 2, 1) := by decide +kernel
theorem dX4_init_10 : decode cX4_init 10 = .ok (.iconst 1, 1) := by decide +kernel
theorem dX4_init_11 : decode cX4_init 11 = .ok (.bipush 8, 2) := by decide +kernel
theorem dX4_init_13 : decode cX4_init 13 = .ok (.invokestatic 13, 3) := by decide +kernel
theorem dX4_init_16 : decode cX4_init 16 = .ok (.istore 6, 2) := by decide +kernel
theorem dX4_init_18 : decode cX4_init 18 = .ok (.iload_n 3, 1) := by decide +kernel
theorem dX4_init_19 : decode cX4_init 19 = .ok (.iconst 1, 1) := by decide +kernel
theorem dX4_init_20 : decode cX4_init 20 = .ok (.iconst 4, 1) := by decide +kernel
theorem dX4_init_21 : decode cX4_init 21 = .ok (.invokestatic 13, 3) := by decide +kernel
theorem dX4_init_24 : decode cX4_init 24 = .ok (.istore 7, 2) := by decide +kernel
theorem dX4_init_26 : decode cX4_init 26 = .ok (.iload 5, 2) := by decide +kernel
theorem dX4_init_28 : decode cX4_init 28 = .ok (.iconst 1, 1) := by decide +kernel
theorem dX4_init_29 : decode cX4_init 29 = .ok (.bipush 32, 2) := by decide +kernel
theorem dX4_init_31 : decode cX4_init 31 = .ok (.invokestatic 13, 3) := by decide +kernel
theorem dX4_init_34 : decode cX4_init 34 = .ok (.istore 8, 2) := by decide +kernel
theorem dX4_init_36 : decode cX4_init 36 = .ok (.aload_n 0, 1) := by decide +kernel
theorem dX4_init_37 : decode cX4_init 37 = .ok (.new 17, 3) := by decide +kernel
theorem dX4_init_40 : decode cX4_init 40 = .ok (.dup, 1) := by decide +kernel
theorem dX4_init_41 : decode cX4_init 41 = .ok (.iload 7, 2) := by decide +kernel
theorem dX4_init_43 : decode cX4_init 43 = .ok (.iload 4, 2) := by decide +kernel
theorem dX4_init_45 : decode cX4_init 45 = .ok (.iload 7, 2) := by decide +kernel
theorem dX4_init_47 : decode cX4_init 47 = .ok (.bipush 64, 2) := by decide +kernel
theorem dX4_init_49 : decode cX4_init 49 = .ok (.invokestatic 13, 3) := by decide +kernel
theorem dX4_init_52 : decode cX4_init 52 = .ok (.invokespecial 19, 3) := by decide +kernel
theorem dX4_init_55 : decode cX4_init 55 = .ok (.putfield 22, 3) := by decide +kernel
theorem dX4_init_58 : decode cX4_init 58 = .ok (.aload_n 0, 1) := by decide +kernel
theorem dX4_init_59 : decode cX4_init 59 = .ok (.iload_n 1, 1) := by decide +kernel
theorem dX4_init_60 : decode cX4_init 60 = .ok (.iconst 1, 1) := by decide +kernel
theorem dX4_init_61 : decode cX4_init 61 = .ok (.iconst 4, 1) := by decide +kernel
theorem dX4_init_62 : decode cX4_init 62 = .ok (.invokestatic 13, 3) := by decide +kernel
theorem dX4_init_65 : decode cX4_init 65 = .ok (.anewarray 26, 3) := by decide +kernel
theorem dX4_init_68 : decode cX4_init 68 = .ok (.putfield 28, 3) := by decide +kernel
theorem dX4_init_71 : decode cX4_init 71 = .ok (.iconst 0, 1) := by decide +kernel
theorem dX4_init_72 : decode cX4_init 72 = .ok (.istore 9, 2) := by decide +kernel
theorem dX4_init_74 : decode cX4_init 74 = .ok (.iload 9, 2) := by decide +kernel
theorem dX4_init_76 : decode cX4_init 76 = .ok (.aload_n 0, 1) := by decide +kernel
theorem dX4_init_77 : decode cX4_init 77 = .ok (.getfield 28, 3) := by decide +kernel
theorem dX4_init_80 : decode cX4_init 80 = .ok (.arraylength, 1) := by decide +kernel
theorem dX4_init_81 : decode cX4_init 81 = .ok (.if_icmp .ge 33, 3) := by decide +kernel
theorem dX4_init_84 : decode cX4_init 84 = .ok (.aload_n 0, 1) := by decide +kernel
theorem dX4_init_85 : decode cX4_init 85 = .ok (.getfield 28, 3) := by decide +kernel
theorem dX4_init_88 : decode cX4_init 88 = .ok (.iload 9, 2) := by decide +kernel
theorem dX4_init_90 : decode cX4_init 90 = .ok (.new 26, 3) := by decide +kernel
theorem dX4_init_93 : decode cX4_init 93 = .ok (.dup, 1) := by decide +kernel
theorem dX4_init_94 : decode cX4_init 94 = .ok (.iload 9, 2) := by decide +kernel
theorem dX4_init_96 : decode cX4_init 96 = .ok (.iload 6, 2) := by decide +kernel
theorem dX4_init_98 : decode cX4_init 98 = .ok (.iload 8, 2) := by decide +kernel
theorem dX4_init_100 : decode cX4_init 100 = .ok (.aload_n 0, 1) := by decide +kernel
theorem dX4_init_101 : decode cX4_init 101 = .ok (.getfield 22, 3) := by decide +kernel
theorem dX4_init_104 : decode cX4_init 104 = .ok (.invokespecial 32, 3) := by decide +kernel
theorem dX4_init_107 : decode cX4_init 107 = .ok (.aastore, 1) := by decide +kernel
theorem dX4_init_108 : decode cX4_init 108 = .ok (.iinc 9 1, 3) := by decide +kernel
theorem dX4_init_111 : decode cX4_init 111 = .ok (.goto (-37), 3) := by decide +kernel
theorem dX4_init_114 : decode cX4_init 114 = .ok (.aload_n 0, 1) := by decide +kernel
theorem dX4_init_115 : decode cX4_init 115 = .ok (.new 35, 3) := by decide +kernel
theorem dX4_init_118 : decode cX4_init 118 = .ok (.dup, 1) := by decide +kernel
theorem dX4_init_119 : decode cX4_init 119 = .ok (.aload_n 0, 1) := by decide +kernel
theorem dX4_init_120 : decode cX4_init 120 = .ok (.getfield 28, 3) := by decide +kernel
theorem dX4_init_123 : decode cX4_init 123 = .ok (.aload_n 0, 1) := by decide +kernel
theorem dX4_init_124 : decode cX4_init 124 = .ok (.getfield 22, 3) := by decide +kernel
theorem dX4_init_127 : decode cX4_init 127 = .ok (.invokespecial 37, 3) := by decide +kernel
theorem dX4_init_130 : decode cX4_init 130 = .ok (.putfield 40, 3) := by decide +kernel
theorem dX4_init_133 : decode cX4_init 133 = .ok (.return_, 1) := by decide +kernel
set_option maxRecDepth 20000 in
theorem ggX4_load_X4_hasCore : GoodIn wsX4_load wsX4_hasCore := goodIn_r _ [8, 2, 9, 10, 7, 11, 12, 13, 14, 15] (by decide +kernel) (by decide +kernel)
set_option maxRecDepth 20000 in
theorem gX4_load_X4_hasCore : GoodIn wsX4_load (wsV RX4 44 RX4 yX4_hasCore wsX4_hasCore) := goodIn_app (goodIn_of _ (by decide +kernel)) ggX4_load_X4_hasCore
set_option maxRecDepth 20000 in
theorem ggX4_load_X4_within : GoodIn wsX4_load wsX4_within := goodIn_r _ [11] (by decide +kernel) (by decide +kernel)
set_option maxRecDepth 20000 in
theorem gX4_load_X4_within : GoodIn wsX4_load (va_wsS RX4 52 yX4_within wsX4_within) := goodIn_app (goodIn_of _ (by decide +kernel)) ggX4_load_X4_within
theorem dX4_load_0 : decode cX4_load 0 = .ok (.aload_n 0, 1) := by decide +kernel
theorem dX4_load_1 : decode cX4_load 1 = .ok (.getfield 7, 3) := by decide +kernel
theorem dX4_load_4 : decode cX4_load 4 = .ok (.ifCond .ne 28, 3) := by decide +kernel
theorem dX4_load_7 : decode cX4_load 7 = .ok (.aload_n 0, 1) := by decide +kernel
theorem dX4_load_8 : decode cX4_load 8 = .ok (.iload_n 1, 1) := by decide +kernel
theorem dX4_load_9 : decode cX4_load 9 = .ok (.invokevirtual 44, 3) := by decide +kernel
theorem dX4_load_12 : decode cX4_load 12 = .ok (.ifCond .eq 20, 3) := by decide +kernel
theorem dX4_load_15 : decode cX4_load 15 = .ok (.iload_n 2, 1) := by decide +kernel
theorem dX4_load_16 : decode cX4_load 16 = .ok (.aload_n 0, 1) := by decide +kernel
theorem dX4_load_17 : decode cX4_load 17 = .ok (.getfield 28, 3) := by decide +kernel
theorem dX4_load_20 : decode cX4_load 20 = .ok (.iload_n 1, 1) := by decide +kernel
theorem dX4_load_21 : decode cX4_load 21 = .ok (.aaload, 1) := by decide +kernel
theorem dX4_load_22 : decode cX4_load 22 = .ok (.getfield 48, 3) := by decide +kernel
theorem dX4_load_25 : decode cX4_load 25 = .ok (.arraylength, 1) := by decide +kernel
theorem dX4_load_26 : decode cX4_load 26 = .ok (.invokestatic 52, 3) := by decide +kernel
theorem dX4_load_29 : decode cX4_load 29 = .ok (.ifCond .ne 5, 3) := by decide +kernel
theorem dX4_load_32 : decode cX4_load 32 = .ok (.iconst 0, 1) := by decide +kernel
theorem dX4_load_33 : decode cX4_load 33 = .ok (.ireturn, 1) := by decide +kernel
theorem dX4_load_34 : decode cX4_load 34 = .ok (.aload_n 0, 1) := by decide +kernel
theorem dX4_load_35 : decode cX4_load 35 = .ok (.getfield 28, 3) := by decide +kernel
theorem dX4_load_38 : decode cX4_load 38 = .ok (.iload_n 1, 1) := by decide +kernel
theorem dX4_load_39 : decode cX4_load 39 = .ok (.aaload, 1) := by decide +kernel
theorem dX4_load_40 : decode cX4_load 40 = .ok (.getfield 48, 3) := by decide +kernel
theorem dX4_load_43 : decode cX4_load 43 = .ok (.iload_n 2, 1) := by decide +kernel
theorem dX4_load_44 : decode cX4_load 44 = .ok (.iload_n 3, 1) := by decide +kernel
theorem dX4_load_45 : decode cX4_load 45 = .ok (.iastore, 1) := by decide +kernel
theorem dX4_load_46 : decode cX4_load 46 = .ok (.iconst 1, 1) := by decide +kernel
theorem dX4_load_47 : decode cX4_load 47 = .ok (.ireturn, 1) := by decide +kernel
set_option maxRecDepth 20000 in
theorem ggX4_poke_X2_has : GoodIn wsX4_poke wsX2_has := goodIn_r _ [8, 9, 10, 11, 12, 17, 18] (by decide +kernel) (by decide +kernel)
set_option maxRecDepth 20000 in
theorem gX4_poke_X2_has : GoodIn wsX4_poke (wsV RX4 56 RX2 yX2_has wsX2_has) := goodIn_app (goodIn_of _ (by decide +kernel)) ggX4_poke_X2_has
theorem dX4_poke_0 : decode cX4_poke 0 = .ok (.aload_n 0, 1) := by decide +kernel
theorem dX4_poke_1 : decode cX4_poke 1 = .ok (.getfield 7, 3) := by decide +kernel
theorem dX4_poke_4 : decode cX4_poke 4 = .ok (.ifCond .ne 14, 3) := by decide +kernel
theorem dX4_poke_7 : decode cX4_poke 7 = .ok (.aload_n 0, 1) := by decide +kernel
theorem dX4_poke_8 : decode cX4_poke 8 = .ok (.getfield 22, 3) := by decide +kernel
theorem dX4_poke_11 : decode cX4_poke 11 = .ok (.iload_n 1, 1) := by decide +kernel
theorem dX4_poke_12 : decode cX4_poke 12 = .ok (.invokevirtual 56, 3) := by decide +kernel
theorem dX4_poke_15 : decode cX4_poke 15 = .ok (.ifCond .ne 5, 3) := by decide +kernel
theorem dX4_poke_18 : decode cX4_poke 18 = .ok (.iconst 0, 1) := by decide +kernel
theorem dX4_poke_19 : decode cX4_poke 19 = .ok (.ireturn, 1) := by decide +kernel
theorem dX4_poke_20 : decode cX4_poke 20 = .ok (.aload_n 0, 1) := by decide +kernel
theorem dX4_poke_21 : decode cX4_poke 21 = .ok (.getfield 22, 3) := by decide +kernel
theorem dX4_poke_24 : decode cX4_poke 24 = .ok (.getfield 59, 3) := by decide +kernel
theorem dX4_poke_27 : decode cX4_poke 27 = .ok (.iload_n 1, 1) := by decide +kernel
theorem dX4_poke_28 : decode cX4_poke 28 = .ok (.iload_n 2, 1) := by decide +kernel
theorem dX4_poke_29 : decode cX4_poke 29 = .ok (.iastore, 1) := by decide +kernel
theorem dX4_poke_30 : decode cX4_poke 30 = .ok (.iconst 1, 1) := by decide +kernel
theorem dX4_poke_31 : decode cX4_poke 31 = .ok (.ireturn, 1) := by decide +kernel
set_option maxRecDepth 20000 in
theorem ggX4_step_X4_hasCore : GoodIn wsX4_step wsX4_hasCore := goodIn_r _ [8, 2, 9, 10, 7, 11, 66, 67, 68, 69] (by decide +kernel) (by decide +kernel)
set_option maxRecDepth 20000 in
theorem gX4_step_X4_hasCore : GoodIn wsX4_step (wsV RX4 44 RX4 yX4_hasCore wsX4_hasCore) := goodIn_app (goodIn_of _ (by decide +kernel)) ggX4_step_X4_hasCore
set_option maxRecDepth 20000 in
theorem ggX4_step_X1_goOn : GoodIn wsX4_step wsX1_goOn := goodIn_r _ [16, 17, 18, 19, 10, 7, 11, 20, 21, 22, 15, 23, 24, 25, 26, 27, 28, 29, 30, 31, 32, 33, 34, 35, 36, 37, 38, 39, 40, 41, 42, 43, 44, 45, 46, 47, 48, 49, 50, 51, 52, 53, 54, 55, 56, 57, 58, 59, 60, 61, 62, 63, 64, 65, 70, 71, 72, 73, 74, 75, 76, 77, 78, 79, 80, 81] (by decide +kernel) (by decide +kernel)
set_option maxRecDepth 20000 in
theorem gX4_step_X1_goOn : GoodIn wsX4_step (wsV RX4 62 RX1 yX1_goOn wsX1_goOn) := goodIn_app (goodIn_of _ (by decide +kernel)) ggX4_step_X1_goOn
theorem dX4_step_0 : decode cX4_step 0 = .ok (.aload_n 0, 1) := by decide +kernel
theorem dX4_step_1 : decode cX4_step 1 = .ok (.iload_n 1, 1) := by decide +kernel
theorem dX4_step_2 : decode cX4_step 2 = .ok (.invokevirtual 44, 3) := by decide +kernel
theorem dX4_step_5 : decode cX4_step 5 = .ok (.ifCond .ne 5, 3) := by decide +kernel
theorem dX4_step_8 : decode cX4_step 8 = .ok (.iconst (-1), 1) := by decide +kernel
theorem dX4_step_9 : decode cX4_step 9 = .ok (.ireturn, 1) := by decide +kernel
theorem dX4_step_10 : decode cX4_step 10 = .ok (.aload_n 0, 1) := by decide +kernel
theorem dX4_step_11 : decode cX4_step 11 = .ok (.iconst 1, 1) := by decide +kernel
theorem dX4_step_12 : decode cX4_step 12 = .ok (.putfield 7, 3) := by decide +kernel
theorem dX4_step_15 : decode cX4_step 15 = .ok (.aload_n 0, 1) := by decide +kernel
theorem dX4_step_16 : decode cX4_step 16 = .ok (.getfield 28, 3) := by decide +kernel
theorem dX4_step_19 : decode cX4_step 19 = .ok (.iload_n 1, 1) := by decide +kernel
theorem dX4_step_20 : decode cX4_step 20 = .ok (.aaload, 1) := by decide +kernel
theorem dX4_step_21 : decode cX4_step 21 = .ok (.astore_n 2, 1) := by decide +kernel
theorem dX4_step_22 : decode cX4_step 22 = .ok (.aload_n 2, 1) := by decide +kernel
theorem dX4_step_23 : decode cX4_step 23 = .ok (.invokevirtual 62, 3) := by decide +kernel
theorem dX4_step_26 : decode cX4_step 26 = .ok (.aload_n 2, 1) := by decide +kernel
theorem dX4_step_27 : decode cX4_step 27 = .ok (.getfield 65, 3) := by decide +kernel
theorem dX4_step_30 : decode cX4_step 30 = .ok (.tableswitch 32 1 3 #[26, 28, 30], 26) := by decide +kernel
theorem dX4_step_56 : decode cX4_step 56 = .ok (.iconst 2, 1) := by decide +kernel
theorem dX4_step_57 : decode cX4_step 57 = .ok (.ireturn, 1) := by decide +kernel
theorem dX4_step_58 : decode cX4_step 58 = .ok (.iconst 3, 1) := by decide +kernel
theorem dX4_step_59 : decode cX4_step 59 = .ok (.ireturn, 1) := by decide +kernel
theorem dX4_step_60 : decode cX4_step 60 = .ok (.iconst 4, 1) := by decide +kernel
theorem dX4_step_61 : decode cX4_step 61 = .ok (.ireturn, 1) := by decide +kernel
theorem dX4_step_62 : decode cX4_step 62 = .ok (.iconst 1, 1) := by decide +kernel
theorem dX4_step_63 : decode cX4_step 63 = .ok (.ireturn, 1) := by decide +kernel
set_option maxRecDepth 20000 in
theorem ggX4_hasCore_X4_within : GoodIn wsX4_hasCore wsX4_within := goodIn_r _ [5] (by decide +kernel) (by decide +kernel)
set_option maxRecDepth 20000 in
theorem gX4_hasCore_X4_within : GoodIn wsX4_hasCore (va_wsS RX4 52 yX4_within wsX4_within) := goodIn_app (goodIn_of _ (by decide +kernel)) ggX4_hasCore_X4_within
theorem dX4_hasCore_0 : decode cX4_hasCore 0 = .ok (.iload_n 1, 1) := by decide +kernel
theorem dX4_hasCore_1 : decode cX4_hasCore 1 = .ok (.aload_n 0, 1) := by decide +kernel
theorem dX4_hasCore_2 : decode cX4_hasCore 2 = .ok (.getfield 28, 3) := by decide +kernel
theorem dX4_hasCore_5 : decode cX4_hasCore 5 = .ok (.arraylength, 1) := by decide +kernel
theorem dX4_hasCore_6 : decode cX4_hasCore 6 = .ok (.invokestatic 52, 3) := by decide +kernel
theorem dX4_hasCore_9 : decode cX4_hasCore 9 = .ok (.ireturn, 1) := by decide +kernel
theorem dX4_within_0 : decode cX4_within 0 = .ok (.iload_n 0, 1) := by decide +kernel
theorem dX4_within_1 : decode cX4_within 1 = .ok (.ifCond .lt 12, 3) := by decide +kernel
theorem dX4_within_4 : decode cX4_within 4 = .ok (.iload_n 0, 1) := by decide +kernel
theorem dX4_within_5 : decode cX4_within 5 = .ok (.iload_n 1, 1) := by decide +kernel
theorem dX4_within_6 : decode cX4_within 6 = .ok (.if_icmp .ge 7, 3) := by decide +kernel
theorem dX4_within_9 : decode cX4_within 9 = .ok (.iconst 1, 1) := by decide +kernel
theorem dX4_within_10 : decode cX4_within 10 = .ok (.goto 4, 3) := by decide +kernel
theorem dX4_within_13 : decode cX4_within 13 = .ok (.iconst 0, 1) := by decide +kernel
theorem dX4_within_14 : decode cX4_within 14 = .ok (.ireturn, 1) := by decide +kernel
theorem dX4_limited_0 : decode cX4_limited 0 = .ok (.iload_n 1, 1) := by decide +kernel
theorem dX4_limited_1 : decode cX4_limited 1 = .ok (.iload_n 2, 1) := by decide +kernel
theorem dX4_limited_2 : decode cX4_limited 2 = .ok (.iload_n 0, 1) := by decide +kernel
theorem dX4_limited_3 : decode cX4_limited 3 = .ok (.invokestatic 143, 3) := by decide +kernel
theorem dX4_limited_6 : decode cX4_limited 6 = .ok (.invokestatic 149, 3) := by decide +kernel
theorem dX4_limited_9 : decode cX4_limited 9 = .ok (.ireturn, 1) := by decide +kernel
theorem dJ9_max_7cf53_0 : decode cJ9_max_7cf53 0 = .ok (.iload_n 0, 1) := by decide +kernel
theorem dJ9_max_7cf53_1 : decode cJ9_max_7cf53 1 = .ok (.iload_n 1, 1) := by decide +kernel
theorem dJ9_max_7cf53_2 : decode cJ9_max_7cf53 2 = .ok (.if_icmp .lt 7, 3) := by decide +kernel
theorem dJ9_max_7cf53_5 : decode cJ9_max_7cf53 5 = .ok (.iload_n 0, 1) := by decide +kernel
theorem dJ9_max_7cf53_6 : decode cJ9_max_7cf53 6 = .ok (.goto 4, 3) := by decide +kernel
theorem dJ9_max_7cf53_9 : decode cJ9_max_7cf53 9 = .ok (.iload_n 1, 1) := by decide +kernel
theorem dJ9_max_7cf53_10 : decode cJ9_max_7cf53 10 = .ok (.ireturn, 1) := by decide +kernel
theorem dJ9_min_7cf53_0 : decode cJ9_min_7cf53 0 = .ok (.iload_n 0, 1) := by decide +kernel
theorem dJ9_min_7cf53_1 : decode cJ9_min_7cf53 1 = .ok (.iload_n 1, 1) := by decide +kernel
theorem dJ9_min_7cf53_2 : decode cJ9_min_7cf53 2 = .ok (.if_icmp .gt 7, 3) := by decide +kernel
theorem dJ9_min_7cf53_5 : decode cJ9_min_7cf53 5 = .ok (.iload_n 0, 1) := by decide +kernel
theorem dJ9_min_7cf53_6 : decode cJ9_min_7cf53 6 = .ok (.goto 4, 3) := by decide +kernel
theorem dJ9_min_7cf53_9 : decode cJ9_min_7cf53 9 = .ok (.iload_n 1, 1) := by decide +kernel
theorem dJ9_min_7cf53_10 : decode cJ9_min_7cf53 10 = .ok (.ireturn, 1) := by decide +kernel
set_option maxRecDepth 20000 in
theorem ggL_law_X4_init : GoodIn wsL_law wsX4_init := goodIn_r _ [5, 6, 7, 8, 9, 10, 11, 12, 13, 14, 15, 16, 17, 18, 19, 20, 21, 22, 23, 2, 24, 25, 26, 27, 28, 29, 30, 31, 32, 33, 34, 35, 36, 37, 38, 39, 40, 41, 42, 43, 44, 45, 46, 47, 48, 49, 50, 51, 52, 53, 54, 55, 56, 57, 58, 59, 60, 61, 62, 63, 64, 65, 66, 67, 68, 69, 70, 71, 72, 73, 74, 75, 76, 77, 144, 145, 146, 147, 148, 149, 150, 151, 152, 153, 154, 155, 156, 157, 158, 159, 160, 161, 162, 163, 164, 165, 166, 167, 168, 169, 170, 171] (by decide +kernel) (by decide +kernel)
set_option maxRecDepth 20000 in
theorem gL_law_X4_init : GoodIn wsL_law (wsX4_init) := ggL_law_X4_init
set_option maxRecDepth 20000 in
theorem ggL_law_X4_load : GoodIn wsL_law wsX4_load := goodIn_r _ [81, 9, 15, 82, 83, 84, 85, 2, 86, 87, 88, 89, 144, 145, 146, 147, 150, 151, 152, 153, 154, 155, 156, 157, 158, 159] (by decide +kernel) (by decide +kernel)
set_option maxRecDepth 20000 in
theorem gL_law_X4_load : GoodIn wsL_law (wsV RL 21 RX4 yX4_load wsX4_load) := goodIn_app (goodIn_of _ (by decide +kernel)) ggL_law_X4_load
set_option maxRecDepth 20000 in
theorem ggL_law_X4_poke : GoodIn wsL_law wsX4_poke := goodIn_r _ [93, 9, 13, 94, 95, 96, 97, 12, 98, 38, 88, 2, 89, 144, 145, 146, 147, 148, 149] (by decide +kernel) (by decide +kernel)
set_option maxRecDepth 20000 in
theorem gL_law_X4_poke : GoodIn wsL_law (wsV RL 26 RX4 yX4_poke wsX4_poke) := goodIn_app (goodIn_of _ (by decide +kernel)) ggL_law_X4_poke
set_option maxRecDepth 20000 in
theorem ggL_law_X4_step : GoodIn wsL_law wsX4_step := goodIn_r _ [102, 9, 15, 103, 83, 84, 85, 2, 86, 87, 88, 89, 104, 105, 106, 17, 107, 45, 44, 51, 108, 109, 110, 111, 43, 49, 112, 113, 114, 115, 116, 117, 118, 119, 120, 121, 122, 123, 124, 125, 126, 127, 128, 129, 130, 46, 131, 132, 133, 134, 135, 136, 137, 138, 50, 139, 96, 97, 12, 98, 38, 140, 141, 142, 143, 36, 144, 145, 146, 147, 150, 151, 152, 153, 154, 155, 156, 157, 158, 159, 148, 149] (by decide +kernel) (by decide +kernel)
set_option maxRecDepth 20000 in
theorem gL_law_X4_step : GoodIn wsL_law (wsV RL 31 RX4 yX4_step wsX4_step) := goodIn_app (goodIn_of _ (by decide +kernel)) ggL_law_X4_step
theorem dL_law_0 : decode cL_law 0 = .ok (.new 7, 3) := by decide +kernel
theorem dL_law_3 : decode cL_law 3 = .ok (.dup, 1) := by decide +kernel
theorem dL_law_4 : decode cL_law 4 = .ok (.aload_n 0, 1) := by decide +kernel
theorem dL_law_5 : decode cL_law 5 = .ok (.iconst 0, 1) := by decide +kernel
theorem dL_law_6 : decode cL_law 6 = .ok (.invokestatic 9, 3) := by decide +kernel
theorem dL_law_9 : decode cL_law 9 = .ok (.aload_n 0, 1) := by decide +kernel
theorem dL_law_10 : decode cL_law 10 = .ok (.iconst 1, 1) := by decide +kernel
theorem dL_law_11 : decode cL_law 11 = .ok (.invokestatic 9, 3) := by decide +kernel
theorem dL_law_14 : decode cL_law 14 = .ok (.aload_n 0, 1) := by decide +kernel
theorem dL_law_15 : decode cL_law 15 = .ok (.iconst 2, 1) := by decide +kernel
theorem dL_law_16 : decode cL_law 16 = .ok (.invokestatic 9, 3) := by decide +kernel
theorem dL_law_19 : decode cL_law 19 = .ok (.aload_n 0, 1) := by decide +kernel
theorem dL_law_20 : decode cL_law 20 = .ok (.iconst 3, 1) := by decide +kernel
theorem dL_law_21 : decode cL_law 21 = .ok (.invokestatic 9, 3) := by decide +kernel
theorem dL_law_24 : decode cL_law 24 = .ok (.aload_n 0, 1) := by decide +kernel
theorem dL_law_25 : decode cL_law 25 = .ok (.iconst 4, 1) := by decide +kernel
theorem dL_law_26 : decode cL_law 26 = .ok (.invokestatic 9, 3) := by decide +kernel
theorem dL_law_29 : decode cL_law 29 = .ok (.invokespecial 15, 3) := by decide +kernel
theorem dL_law_32 : decode cL_law 32 = .ok (.astore_n 1, 1) := by decide +kernel
theorem dL_law_33 : decode cL_law 33 = .ok (.new 18, 3) := by decide +kernel
theorem dL_law_36 : decode cL_law 36 = .ok (.dup, 1) := by decide +kernel
theorem dL_law_37 : decode cL_law 37 = .ok (.aload_n 0, 1) := by decide +kernel
theorem dL_law_38 : decode cL_law 38 = .ok (.iconst 0, 1) := by decide +kernel
theorem dL_law_39 : decode cL_law 39 = .ok (.invokestatic 9, 3) := by decide +kernel
theorem dL_law_42 : decode cL_law 42 = .ok (.aload_n 0, 1) := by decide +kernel
theorem dL_law_43 : decode cL_law 43 = .ok (.iconst 1, 1) := by decide +kernel
theorem dL_law_44 : decode cL_law 44 = .ok (.invokestatic 9, 3) := by decide +kernel
theorem dL_law_47 : decode cL_law 47 = .ok (.aload_n 0, 1) := by decide +kernel
theorem dL_law_48 : decode cL_law 48 = .ok (.iconst 2, 1) := by decide +kernel
theorem dL_law_49 : decode cL_law 49 = .ok (.invokestatic 9, 3) := by decide +kernel
theorem dL_law_52 : decode cL_law 52 = .ok (.aload_n 0, 1) := by decide +kernel
theorem dL_law_53 : decode cL_law 53 = .ok (.iconst 3, 1) := by decide +kernel
theorem dL_law_54 : decode cL_law 54 = .ok (.invokestatic 9, 3) := by decide +kernel
theorem dL_law_57 : decode cL_law 57 = .ok (.aload_n 0, 1) := by decide +kernel
theorem dL_law_58 : decode cL_law 58 = .ok (.iconst 4, 1) := by decide +kernel
theorem dL_law_59 : decode cL_law 59 = .ok (.invokestatic 9, 3) := by decide +kernel
theorem dL_law_62 : decode cL_law 62 = .ok (.invokespecial 20, 3) := by decide +kernel
theorem dL_law_65 : decode cL_law 65 = .ok (.astore_n 2, 1) := by decide +kernel
theorem dL_law_66 : decode cL_law 66 = .ok (.iconst 5, 1) := by decide +kernel
theorem dL_law_67 : decode cL_law 67 = .ok (.istore_n 3, 1) := by decide +kernel
theorem dL_law_68 : decode cL_law 68 = .ok (.iload_n 3, 1) := by decide +kernel
theorem dL_law_69 : decode cL_law 69 = .ok (.aload_n 0, 1) := by decide +kernel
theorem dL_law_70 : decode cL_law 70 = .ok (.arraylength, 1) := by decide +kernel
theorem dL_law_71 : decode cL_law 71 = .ok (.iconst 4, 1) := by decide +kernel
theorem dL_law_72 : decode cL_law 72 = .ok (.isub, 1) := by decide +kernel
theorem dL_law_73 : decode cL_law 73 = .ok (.if_icmp .gt 396, 3) := by decide +kernel
theorem dL_law_76 : decode cL_law 76 = .ok (.aload_n 0, 1) := by decide +kernel
theorem dL_law_77 : decode cL_law 77 = .ok (.iload_n 3, 1) := by decide +kernel
theorem dL_law_78 : decode cL_law 78 = .ok (.iaload, 1) := by decide +kernel
theorem dL_law_79 : decode cL_law 79 = .ok (.bipush 15, 2) := by decide +kernel
theorem dL_law_81 : decode cL_law 81 = .ok (.iand, 1) := by decide +kernel
theorem dL_law_82 : decode cL_law 82 = .ok (.tableswitch 381 0 10 #[58, 101, 134, 157, 170, 203, 236, 269, 312, 335, 358], 58) := by decide +kernel
theorem dL_law_140 : decode cL_law 140 = .ok (.aload_n 1, 1) := by decide +kernel
theorem dL_law_141 : decode cL_law 141 = .ok (.aload_n 0, 1) := by decide +kernel
theorem dL_law_142 : decode cL_law 142 = .ok (.iload_n 3, 1) := by decide +kernel
theorem dL_law_143 : decode cL_law 143 = .ok (.iconst 1, 1) := by decide +kernel
theorem dL_law_144 : decode cL_law 144 = .ok (.iadd, 1) := by decide +kernel
theorem dL_law_145 : decode cL_law 145 = .ok (.iaload, 1) := by decide +kernel
theorem dL_law_146 : decode cL_law 146 = .ok (.aload_n 0, 1) := by decide +kernel
theorem dL_law_147 : decode cL_law 147 = .ok (.iload_n 3, 1) := by decide +kernel
theorem dL_law_148 : decode cL_law 148 = .ok (.iconst 2, 1) := by decide +kernel
theorem dL_law_149 : decode cL_law 149 = .ok (.iadd, 1) := by decide +kernel
theorem dL_law_150 : decode cL_law 150 = .ok (.iaload, 1) := by decide +kernel
theorem dL_law_151 : decode cL_law 151 = .ok (.aload_n 0, 1) := by decide +kernel
theorem dL_law_152 : decode cL_law 152 = .ok (.iload_n 3, 1) := by decide +kernel
theorem dL_law_153 : decode cL_law 153 = .ok (.iconst 3, 1) := by decide +kernel
theorem dL_law_154 : decode cL_law 154 = .ok (.iadd, 1) := by decide +kernel
theorem dL_law_155 : decode cL_law 155 = .ok (.iaload, 1) := by decide +kernel
theorem dL_law_156 : decode cL_law 156 = .ok (.invokevirtual 21, 3) := by decide +kernel
theorem dL_law_159 : decode cL_law 159 = .ok (.aload_n 2, 1) := by decide +kernel
theorem dL_law_160 : decode cL_law 160 = .ok (.aload_n 0, 1) := by decide +kernel
theorem dL_law_161 : decode cL_law 161 = .ok (.iload_n 3, 1) := by decide +kernel
theorem dL_law_162 : decode cL_law 162 = .ok (.iconst 1, 1) := by decide +kernel
theorem dL_law_163 : decode cL_law 163 = .ok (.iadd, 1) := by decide +kernel
theorem dL_law_164 : decode cL_law 164 = .ok (.iaload, 1) := by decide +kernel
theorem dL_law_165 : decode cL_law 165 = .ok (.aload_n 0, 1) := by decide +kernel
theorem dL_law_166 : decode cL_law 166 = .ok (.iload_n 3, 1) := by decide +kernel
theorem dL_law_167 : decode cL_law 167 = .ok (.iconst 2, 1) := by decide +kernel
theorem dL_law_168 : decode cL_law 168 = .ok (.iadd, 1) := by decide +kernel
theorem dL_law_169 : decode cL_law 169 = .ok (.iaload, 1) := by decide +kernel
theorem dL_law_170 : decode cL_law 170 = .ok (.aload_n 0, 1) := by decide +kernel
theorem dL_law_171 : decode cL_law 171 = .ok (.iload_n 3, 1) := by decide +kernel
theorem dL_law_172 : decode cL_law 172 = .ok (.iconst 3, 1) := by decide +kernel
theorem dL_law_173 : decode cL_law 173 = .ok (.iadd, 1) := by decide +kernel
theorem dL_law_174 : decode cL_law 174 = .ok (.iaload, 1) := by decide +kernel
theorem dL_law_175 : decode cL_law 175 = .ok (.invokevirtual 25, 3) := by decide +kernel
theorem dL_law_178 : decode cL_law 178 = .ok (.if_icmp .eq 285, 3) := by decide +kernel
theorem dL_law_181 : decode cL_law 181 = .ok (.iconst 0, 1) := by decide +kernel
theorem dL_law_182 : decode cL_law 182 = .ok (.ireturn, 1) := by decide +kernel
theorem dL_law_183 : decode cL_law 183 = .ok (.aload_n 1, 1) := by decide +kernel
theorem dL_law_184 : decode cL_law 184 = .ok (.aload_n 0, 1) := by decide +kernel
theorem dL_law_185 : decode cL_law 185 = .ok (.iload_n 3, 1) := by decide +kernel
theorem dL_law_186 : decode cL_law 186 = .ok (.iconst 1, 1) := by decide +kernel
theorem dL_law_187 : decode cL_law 187 = .ok (.iadd, 1) := by decide +kernel
theorem dL_law_188 : decode cL_law 188 = .ok (.iaload, 1) := by decide +kernel
theorem dL_law_189 : decode cL_law 189 = .ok (.aload_n 0, 1) := by decide +kernel
theorem dL_law_190 : decode cL_law 190 = .ok (.iload_n 3, 1) := by decide +kernel
theorem dL_law_191 : decode cL_law 191 = .ok (.iconst 2, 1) := by decide +kernel
theorem dL_law_192 : decode cL_law 192 = .ok (.iadd, 1) := by decide +kernel
theorem dL_law_193 : decode cL_law 193 = .ok (.iaload, 1) := by decide +kernel
theorem dL_law_194 : decode cL_law 194 = .ok (.invokevirtual 26, 3) := by decide +kernel
theorem dL_law_197 : decode cL_law 197 = .ok (.aload_n 2, 1) := by decide +kernel
theorem dL_law_198 : decode cL_law 198 = .ok (.aload_n 0, 1) := by decide +kernel
theorem dL_law_199 : decode cL_law 199 = .ok (.iload_n 3, 1) := by decide +kernel
theorem dL_law_200 : decode cL_law 200 = .ok (.iconst 1, 1) := by decide +kernel
theorem dL_law_201 : decode cL_law 201 = .ok (.iadd, 1) := by decide +kernel
theorem dL_law_202 : decode cL_law 202 = .ok (.iaload, 1) := by decide +kernel
theorem dL_law_203 : decode cL_law 203 = .ok (.aload_n 0, 1) := by decide +kernel
theorem dL_law_204 : decode cL_law 204 = .ok (.iload_n 3, 1) := by decide +kernel
theorem dL_law_205 : decode cL_law 205 = .ok (.iconst 2, 1) := by decide +kernel
theorem dL_law_206 : decode cL_law 206 = .ok (.iadd, 1) := by decide +kernel
theorem dL_law_207 : decode cL_law 207 = .ok (.iaload, 1) := by decide +kernel
theorem dL_law_208 : decode cL_law 208 = .ok (.invokevirtual 30, 3) := by decide +kernel
theorem dL_law_211 : decode cL_law 211 = .ok (.if_icmp .eq 252, 3) := by decide +kernel
theorem dL_law_214 : decode cL_law 214 = .ok (.iconst 0, 1) := by decide +kernel
theorem dL_law_215 : decode cL_law 215 = .ok (.ireturn, 1) := by decide +kernel
theorem dL_law_216 : decode cL_law 216 = .ok (.aload_n 1, 1) := by decide +kernel
theorem dL_law_217 : decode cL_law 217 = .ok (.aload_n 0, 1) := by decide +kernel
theorem dL_law_218 : decode cL_law 218 = .ok (.iload_n 3, 1) := by decide +kernel
theorem dL_law_219 : decode cL_law 219 = .ok (.iconst 1, 1) := by decide +kernel
theorem dL_law_220 : decode cL_law 220 = .ok (.iadd, 1) := by decide +kernel
theorem dL_law_221 : decode cL_law 221 = .ok (.iaload, 1) := by decide +kernel
theorem dL_law_222 : decode cL_law 222 = .ok (.invokevirtual 31, 3) := by decide +kernel
theorem dL_law_225 : decode cL_law 225 = .ok (.aload_n 2, 1) := by decide +kernel
theorem dL_law_226 : decode cL_law 226 = .ok (.aload_n 0, 1) := by decide +kernel
theorem dL_law_227 : decode cL_law 227 = .ok (.iload_n 3, 1) := by decide +kernel
theorem dL_law_228 : decode cL_law 228 = .ok (.iconst 1, 1) := by decide +kernel
theorem dL_law_229 : decode cL_law 229 = .ok (.iadd, 1) := by decide +kernel
theorem dL_law_230 : decode cL_law 230 = .ok (.iaload, 1) := by decide +kernel
theorem dL_law_231 : decode cL_law 231 = .ok (.invokevirtual 35, 3) := by decide +kernel
theorem dL_law_234 : decode cL_law 234 = .ok (.if_icmp .eq 229, 3) := by decide +kernel
theorem dL_law_237 : decode cL_law 237 = .ok (.iconst 0, 1) := by decide +kernel
theorem dL_law_238 : decode cL_law 238 = .ok (.ireturn, 1) := by decide +kernel
theorem dL_law_239 : decode cL_law 239 = .ok (.aload_n 1, 1) := by decide +kernel
theorem dL_law_240 : decode cL_law 240 = .ok (.invokevirtual 36, 3) := by decide +kernel
theorem dL_law_243 : decode cL_law 243 = .ok (.aload_n 2, 1) := by decide +kernel
theorem dL_law_244 : decode cL_law 244 = .ok (.invokevirtual 40, 3) := by decide +kernel
theorem dL_law_247 : decode cL_law 247 = .ok (.if_icmp .eq 216, 3) := by decide +kernel
theorem dL_law_250 : decode cL_law 250 = .ok (.iconst 0, 1) := by decide +kernel
theorem dL_law_251 : decode cL_law 251 = .ok (.ireturn, 1) := by decide +kernel
theorem dL_law_252 : decode cL_law 252 = .ok (.aload_n 1, 1) := by decide +kernel
theorem dL_law_253 : decode cL_law 253 = .ok (.aload_n 0, 1) := by decide +kernel
theorem dL_law_254 : decode cL_law 254 = .ok (.iload_n 3, 1) := by decide +kernel
theorem dL_law_255 : decode cL_law 255 = .ok (.iconst 1, 1) := by decide +kernel
theorem dL_law_256 : decode cL_law 256 = .ok (.iadd, 1) := by decide +kernel
theorem dL_law_257 : decode cL_law 257 = .ok (.iaload, 1) := by decide +kernel
theorem dL_law_258 : decode cL_law 258 = .ok (.aload_n 0, 1) := by decide +kernel
theorem dL_law_259 : decode cL_law 259 = .ok (.iload_n 3, 1) := by decide +kernel
theorem dL_law_260 : decode cL_law 260 = .ok (.iconst 2, 1) := by decide +kernel
theorem dL_law_261 : decode cL_law 261 = .ok (.iadd, 1) := by decide +kernel
theorem dL_law_262 : decode cL_law 262 = .ok (.iaload, 1) := by decide +kernel
theorem dL_law_263 : decode cL_law 263 = .ok (.invokevirtual 41, 3) := by decide +kernel
theorem dL_law_266 : decode cL_law 266 = .ok (.aload_n 2, 1) := by decide +kernel
theorem dL_law_267 : decode cL_law 267 = .ok (.aload_n 0, 1) := by decide +kernel
theorem dL_law_268 : decode cL_law 268 = .ok (.iload_n 3, 1) := by decide +kernel
theorem dL_law_269 : decode cL_law 269 = .ok (.iconst 1, 1) := by decide +kernel
theorem dL_law_270 : decode cL_law 270 = .ok (.iadd, 1) := by decide +kernel
theorem dL_law_271 : decode cL_law 271 = .ok (.iaload, 1) := by decide +kernel
theorem dL_law_272 : decode cL_law 272 = .ok (.aload_n 0, 1) := by decide +kernel
theorem dL_law_273 : decode cL_law 273 = .ok (.iload_n 3, 1) := by decide +kernel
theorem dL_law_274 : decode cL_law 274 = .ok (.iconst 2, 1) := by decide +kernel
theorem dL_law_275 : decode cL_law 275 = .ok (.iadd, 1) := by decide +kernel
theorem dL_law_276 : decode cL_law 276 = .ok (.iaload, 1) := by decide +kernel
theorem dL_law_277 : decode cL_law 277 = .ok (.invokevirtual 45, 3) := by decide +kernel
theorem dL_law_280 : decode cL_law 280 = .ok (.if_icmp .eq 183, 3) := by decide +kernel
theorem dL_law_283 : decode cL_law 283 = .ok (.iconst 0, 1) := by decide +kernel
theorem dL_law_284 : decode cL_law 284 = .ok (.ireturn, 1) := by decide +kernel
theorem dL_law_285 : decode cL_law 285 = .ok (.aload_n 1, 1) := by decide +kernel
theorem dL_law_286 : decode cL_law 286 = .ok (.aload_n 0, 1) := by decide +kernel
theorem dL_law_287 : decode cL_law 287 = .ok (.iload_n 3, 1) := by decide +kernel
theorem dL_law_288 : decode cL_law 288 = .ok (.iconst 1, 1) := by decide +kernel
theorem dL_law_289 : decode cL_law 289 = .ok (.iadd, 1) := by decide +kernel
theorem dL_law_290 : decode cL_law 290 = .ok (.iaload, 1) := by decide +kernel
theorem dL_law_291 : decode cL_law 291 = .ok (.aload_n 0, 1) := by decide +kernel
theorem dL_law_292 : decode cL_law 292 = .ok (.iload_n 3, 1) := by decide +kernel
theorem dL_law_293 : decode cL_law 293 = .ok (.iconst 2, 1) := by decide +kernel
theorem dL_law_294 : decode cL_law 294 = .ok (.iadd, 1) := by decide +kernel
theorem dL_law_295 : decode cL_law 295 = .ok (.iaload, 1) := by decide +kernel
theorem dL_law_296 : decode cL_law 296 = .ok (.invokevirtual 46, 3) := by decide +kernel
theorem dL_law_299 : decode cL_law 299 = .ok (.aload_n 2, 1) := by decide +kernel
theorem dL_law_300 : decode cL_law 300 = .ok (.aload_n 0, 1) := by decide +kernel
theorem dL_law_301 : decode cL_law 301 = .ok (.iload_n 3, 1) := by decide +kernel
theorem dL_law_302 : decode cL_law 302 = .ok (.iconst 1, 1) := by decide +kernel
theorem dL_law_303 : decode cL_law 303 = .ok (.iadd, 1) := by decide +kernel
theorem dL_law_304 : decode cL_law 304 = .ok (.iaload, 1) := by decide +kernel
theorem dL_law_305 : decode cL_law 305 = .ok (.aload_n 0, 1) := by decide +kernel
theorem dL_law_306 : decode cL_law 306 = .ok (.iload_n 3, 1) := by decide +kernel
theorem dL_law_307 : decode cL_law 307 = .ok (.iconst 2, 1) := by decide +kernel
theorem dL_law_308 : decode cL_law 308 = .ok (.iadd, 1) := by decide +kernel
theorem dL_law_309 : decode cL_law 309 = .ok (.iaload, 1) := by decide +kernel
theorem dL_law_310 : decode cL_law 310 = .ok (.invokevirtual 49, 3) := by decide +kernel
theorem dL_law_313 : decode cL_law 313 = .ok (.if_icmp .eq 150, 3) := by decide +kernel
theorem dL_law_316 : decode cL_law 316 = .ok (.iconst 0, 1) := by decide +kernel
theorem dL_law_317 : decode cL_law 317 = .ok (.ireturn, 1) := by decide +kernel
theorem dL_law_318 : decode cL_law 318 = .ok (.aload_n 1, 1) := by decide +kernel
theorem dL_law_319 : decode cL_law 319 = .ok (.aload_n 0, 1) := by decide +kernel
theorem dL_law_320 : decode cL_law 320 = .ok (.iload_n 3, 1) := by decide +kernel
theorem dL_law_321 : decode cL_law 321 = .ok (.iconst 1, 1) := by decide +kernel
theorem dL_law_322 : decode cL_law 322 = .ok (.iadd, 1) := by decide +kernel
theorem dL_law_323 : decode cL_law 323 = .ok (.iaload, 1) := by decide +kernel
theorem dL_law_324 : decode cL_law 324 = .ok (.aload_n 0, 1) := by decide +kernel
theorem dL_law_325 : decode cL_law 325 = .ok (.iload_n 3, 1) := by decide +kernel
theorem dL_law_326 : decode cL_law 326 = .ok (.iconst 2, 1) := by decide +kernel
theorem dL_law_327 : decode cL_law 327 = .ok (.iadd, 1) := by decide +kernel
theorem dL_law_328 : decode cL_law 328 = .ok (.iaload, 1) := by decide +kernel
theorem dL_law_329 : decode cL_law 329 = .ok (.invokevirtual 50, 3) := by decide +kernel
theorem dL_law_332 : decode cL_law 332 = .ok (.aload_n 2, 1) := by decide +kernel
theorem dL_law_333 : decode cL_law 333 = .ok (.aload_n 0, 1) := by decide +kernel
theorem dL_law_334 : decode cL_law 334 = .ok (.iload_n 3, 1) := by decide +kernel
theorem dL_law_335 : decode cL_law 335 = .ok (.iconst 1, 1) := by decide +kernel
theorem dL_law_336 : decode cL_law 336 = .ok (.iadd, 1) := by decide +kernel
theorem dL_law_337 : decode cL_law 337 = .ok (.iaload, 1) := by decide +kernel
theorem dL_law_338 : decode cL_law 338 = .ok (.aload_n 0, 1) := by decide +kernel
theorem dL_law_339 : decode cL_law 339 = .ok (.iload_n 3, 1) := by decide +kernel
theorem dL_law_340 : decode cL_law 340 = .ok (.iconst 2, 1) := by decide +kernel
theorem dL_law_341 : decode cL_law 341 = .ok (.iadd, 1) := by decide +kernel
theorem dL_law_342 : decode cL_law 342 = .ok (.iaload, 1) := by decide +kernel
theorem dL_law_343 : decode cL_law 343 = .ok (.invokevirtual 53, 3) := by decide +kernel
theorem dL_law_346 : decode cL_law 346 = .ok (.if_icmp .eq 117, 3) := by decide +kernel
theorem dL_law_349 : decode cL_law 349 = .ok (.iconst 0, 1) := by decide +kernel
theorem dL_law_350 : decode cL_law 350 = .ok (.ireturn, 1) := by decide +kernel
theorem dL_law_351 : decode cL_law 351 = .ok (.aload_n 1, 1) := by decide +kernel
theorem dL_law_352 : decode cL_law 352 = .ok (.aload_n 0, 1) := by decide +kernel
theorem dL_law_353 : decode cL_law 353 = .ok (.iload_n 3, 1) := by decide +kernel
theorem dL_law_354 : decode cL_law 354 = .ok (.iconst 1, 1) := by decide +kernel
theorem dL_law_355 : decode cL_law 355 = .ok (.iadd, 1) := by decide +kernel
theorem dL_law_356 : decode cL_law 356 = .ok (.iaload, 1) := by decide +kernel
theorem dL_law_357 : decode cL_law 357 = .ok (.aload_n 0, 1) := by decide +kernel
theorem dL_law_358 : decode cL_law 358 = .ok (.iload_n 3, 1) := by decide +kernel
theorem dL_law_359 : decode cL_law 359 = .ok (.iconst 2, 1) := by decide +kernel
theorem dL_law_360 : decode cL_law 360 = .ok (.iadd, 1) := by decide +kernel
theorem dL_law_361 : decode cL_law 361 = .ok (.iaload, 1) := by decide +kernel
theorem dL_law_362 : decode cL_law 362 = .ok (.aload_n 0, 1) := by decide +kernel
theorem dL_law_363 : decode cL_law 363 = .ok (.iload_n 3, 1) := by decide +kernel
theorem dL_law_364 : decode cL_law 364 = .ok (.iconst 3, 1) := by decide +kernel
theorem dL_law_365 : decode cL_law 365 = .ok (.iadd, 1) := by decide +kernel
theorem dL_law_366 : decode cL_law 366 = .ok (.iaload, 1) := by decide +kernel
theorem dL_law_367 : decode cL_law 367 = .ok (.invokevirtual 54, 3) := by decide +kernel
theorem dL_law_370 : decode cL_law 370 = .ok (.aload_n 2, 1) := by decide +kernel
theorem dL_law_371 : decode cL_law 371 = .ok (.aload_n 0, 1) := by decide +kernel
theorem dL_law_372 : decode cL_law 372 = .ok (.iload_n 3, 1) := by decide +kernel
theorem dL_law_373 : decode cL_law 373 = .ok (.iconst 1, 1) := by decide +kernel
theorem dL_law_374 : decode cL_law 374 = .ok (.iadd, 1) := by decide +kernel
theorem dL_law_375 : decode cL_law 375 = .ok (.iaload, 1) := by decide +kernel
theorem dL_law_376 : decode cL_law 376 = .ok (.aload_n 0, 1) := by decide +kernel
theorem dL_law_377 : decode cL_law 377 = .ok (.iload_n 3, 1) := by decide +kernel
theorem dL_law_378 : decode cL_law 378 = .ok (.iconst 2, 1) := by decide +kernel
theorem dL_law_379 : decode cL_law 379 = .ok (.iadd, 1) := by decide +kernel
theorem dL_law_380 : decode cL_law 380 = .ok (.iaload, 1) := by decide +kernel
theorem dL_law_381 : decode cL_law 381 = .ok (.aload_n 0, 1) := by decide +kernel
theorem dL_law_382 : decode cL_law 382 = .ok (.iload_n 3, 1) := by decide +kernel
theorem dL_law_383 : decode cL_law 383 = .ok (.iconst 3, 1) := by decide +kernel
theorem dL_law_384 : decode cL_law 384 = .ok (.iadd, 1) := by decide +kernel
theorem dL_law_385 : decode cL_law 385 = .ok (.iaload, 1) := by decide +kernel
theorem dL_law_386 : decode cL_law 386 = .ok (.invokevirtual 58, 3) := by decide +kernel
theorem dL_law_389 : decode cL_law 389 = .ok (.if_icmp .eq 74, 3) := by decide +kernel
theorem dL_law_392 : decode cL_law 392 = .ok (.iconst 0, 1) := by decide +kernel
theorem dL_law_393 : decode cL_law 393 = .ok (.ireturn, 1) := by decide +kernel
theorem dL_law_394 : decode cL_law 394 = .ok (.aload_n 1, 1) := by decide +kernel
theorem dL_law_395 : decode cL_law 395 = .ok (.aload_n 0, 1) := by decide +kernel
theorem dL_law_396 : decode cL_law 396 = .ok (.iload_n 3, 1) := by decide +kernel
theorem dL_law_397 : decode cL_law 397 = .ok (.iconst 1, 1) := by decide +kernel
theorem dL_law_398 : decode cL_law 398 = .ok (.iadd, 1) := by decide +kernel
theorem dL_law_399 : decode cL_law 399 = .ok (.iaload, 1) := by decide +kernel
theorem dL_law_400 : decode cL_law 400 = .ok (.invokevirtual 59, 3) := by decide +kernel
theorem dL_law_403 : decode cL_law 403 = .ok (.aload_n 2, 1) := by decide +kernel
theorem dL_law_404 : decode cL_law 404 = .ok (.aload_n 0, 1) := by decide +kernel
theorem dL_law_405 : decode cL_law 405 = .ok (.iload_n 3, 1) := by decide +kernel
theorem dL_law_406 : decode cL_law 406 = .ok (.iconst 1, 1) := by decide +kernel
theorem dL_law_407 : decode cL_law 407 = .ok (.iadd, 1) := by decide +kernel
theorem dL_law_408 : decode cL_law 408 = .ok (.iaload, 1) := by decide +kernel
theorem dL_law_409 : decode cL_law 409 = .ok (.invokevirtual 62, 3) := by decide +kernel
theorem dL_law_412 : decode cL_law 412 = .ok (.if_icmp .eq 51, 3) := by decide +kernel
theorem dL_law_415 : decode cL_law 415 = .ok (.iconst 0, 1) := by decide +kernel
theorem dL_law_416 : decode cL_law 416 = .ok (.ireturn, 1) := by decide +kernel
theorem dL_law_417 : decode cL_law 417 = .ok (.aload_n 1, 1) := by decide +kernel
theorem dL_law_418 : decode cL_law 418 = .ok (.aload_n 0, 1) := by decide +kernel
theorem dL_law_419 : decode cL_law 419 = .ok (.iload_n 3, 1) := by decide +kernel
theorem dL_law_420 : decode cL_law 420 = .ok (.iconst 1, 1) := by decide +kernel
theorem dL_law_421 : decode cL_law 421 = .ok (.iadd, 1) := by decide +kernel
theorem dL_law_422 : decode cL_law 422 = .ok (.iaload, 1) := by decide +kernel
theorem dL_law_423 : decode cL_law 423 = .ok (.invokevirtual 63, 3) := by decide +kernel
theorem dL_law_426 : decode cL_law 426 = .ok (.aload_n 2, 1) := by decide +kernel
theorem dL_law_427 : decode cL_law 427 = .ok (.aload_n 0, 1) := by decide +kernel
theorem dL_law_428 : decode cL_law 428 = .ok (.iload_n 3, 1) := by decide +kernel
theorem dL_law_429 : decode cL_law 429 = .ok (.iconst 1, 1) := by decide +kernel
theorem dL_law_430 : decode cL_law 430 = .ok (.iadd, 1) := by decide +kernel
theorem dL_law_431 : decode cL_law 431 = .ok (.iaload, 1) := by decide +kernel
theorem dL_law_432 : decode cL_law 432 = .ok (.invokevirtual 66, 3) := by decide +kernel
theorem dL_law_435 : decode cL_law 435 = .ok (.if_icmp .eq 28, 3) := by decide +kernel
theorem dL_law_438 : decode cL_law 438 = .ok (.iconst 0, 1) := by decide +kernel
theorem dL_law_439 : decode cL_law 439 = .ok (.ireturn, 1) := by decide +kernel
theorem dL_law_440 : decode cL_law 440 = .ok (.aload_n 1, 1) := by decide +kernel
theorem dL_law_441 : decode cL_law 441 = .ok (.aload_n 0, 1) := by decide +kernel
theorem dL_law_442 : decode cL_law 442 = .ok (.iload_n 3, 1) := by decide +kernel
theorem dL_law_443 : decode cL_law 443 = .ok (.iconst 1, 1) := by decide +kernel
theorem dL_law_444 : decode cL_law 444 = .ok (.iadd, 1) := by decide +kernel
theorem dL_law_445 : decode cL_law 445 = .ok (.iaload, 1) := by decide +kernel
theorem dL_law_446 : decode cL_law 446 = .ok (.invokevirtual 67, 3) := by decide +kernel
theorem dL_law_449 : decode cL_law 449 = .ok (.aload_n 2, 1) := by decide +kernel
theorem dL_law_450 : decode cL_law 450 = .ok (.aload_n 0, 1) := by decide +kernel
theorem dL_law_451 : decode cL_law 451 = .ok (.iload_n 3, 1) := by decide +kernel
theorem dL_law_452 : decode cL_law 452 = .ok (.iconst 1, 1) := by decide +kernel
theorem dL_law_453 : decode cL_law 453 = .ok (.iadd, 1) := by decide +kernel
theorem dL_law_454 : decode cL_law 454 = .ok (.iaload, 1) := by decide +kernel
theorem dL_law_455 : decode cL_law 455 = .ok (.invokevirtual 70, 3) := by decide +kernel
theorem dL_law_458 : decode cL_law 458 = .ok (.if_icmp .eq 5, 3) := by decide +kernel
theorem dL_law_461 : decode cL_law 461 = .ok (.iconst 0, 1) := by decide +kernel
theorem dL_law_462 : decode cL_law 462 = .ok (.ireturn, 1) := by decide +kernel
theorem dL_law_463 : decode cL_law 463 = .ok (.iinc 3 4, 3) := by decide +kernel
theorem dL_law_466 : decode cL_law 466 = .ok (.goto (-398), 3) := by decide +kernel
theorem dL_law_469 : decode cL_law 469 = .ok (.iconst 1, 1) := by decide +kernel
theorem dL_law_470 : decode cL_law 470 = .ok (.ireturn, 1) := by decide +kernel
abbrev vwCl : List vw_C := [(RX0, TX0, 9), (RX1, TX1, 10), (RX2, TX2, 2), (RX3, TX3, 3), (RX4, TX4, 4)]
/-- the objects of SnoopingCores$Bus, kind 0: what each holds, by its address -/
structure wK_O_Bus where
  f_cores : Nat → Option Nat
  f_mainMemory : Nat → Option Nat
  f_phasesDone : Nat → Option Nat
  f_kept : Nat → Option Nat
  f_anotherHadIt : Nat → Int32
  f_phase : Nat → Int32
  f_asker : Nat → Int32
  f_request : Nat → Int32
  f_line : Nat → Int32
/-- the objects of SnoopingCores$Core, kind 1: what each holds, by its address -/
structure wK_O_Core where
  f_number : Nat → Int32
  f_mainMemory : Nat → Option Nat
  f_code : Nat → Option Nat
  f_registers : Nat → Option Nat
  f_slots : Nat → Option Nat
  f_place : Nat → Int32
  f_status : Nat → Int32
  f_done : Nat → Int32
  f_request : Nat → Int32
  f_requestLine : Nat → Int32
/-- the objects of SnoopingCores$Memory, kind 2: what each holds, by its address -/
structure wK_O_Memory where
  f_width : Nat → Int32
  f_words : Nat → Option Nat
/-- the objects of SnoopingCores$Slot, kind 3: what each holds, by its address -/
structure wK_O_Slot where
  f_words : Nat → Option Nat
  f_state : Nat → Int32
  f_line : Nat → Int32
/-- the objects of SnoopingCores, kind 4: what each holds, by its address -/
structure wK_O_SnoopingCores where
  f_mainMemory : Nat → Option Nat
  f_cores : Nat → Option Nat
  f_bus : Nat → Option Nat
  f_stepped : Nat → Int32
/-- the arrays of kind 5: what each holds, by its address -/
structure wK_R_I where
  len : Nat → Nat
  row : Nat → Nat → Int32
/-- the arrays of kind 6: what each holds, by its address -/
structure wK_R_Core where
  len : Nat → Nat
  row : Nat → Nat → Option Nat
/-- the arrays of kind 7: what each holds, by its address -/
structure wK_R_Slot where
  len : Nat → Nat
  row : Nat → Nat → Option Nat
/-- the pool: the addresses, the kind of each, and the kinds -/
structure wPS where
  L : List Nat
  K : Nat → Nat
  O_Bus : wK_O_Bus
  O_Core : wK_O_Core
  O_Memory : wK_O_Memory
  O_Slot : wK_O_Slot
  O_SnoopingCores : wK_O_SnoopingCores
  R_I : wK_R_I
  R_Core : wK_R_Core
  R_Slot : wK_R_Slot
/-- the empty pool -/
abbrev wP0 : wPS := { L := [], K := (fun _ => 0), O_Bus := { f_cores := (fun _ => none), f_mainMemory := (fun _ => none), f_phasesDone := (fun _ => none), f_kept := (fun _ => none), f_anotherHadIt := (fun _ => 0), f_phase := (fun _ => 0), f_asker := (fun _ => 0), f_request := (fun _ => 0), f_line := (fun _ => 0) }, O_Core := { f_number := (fun _ => 0), f_mainMemory := (fun _ => none), f_code := (fun _ => none), f_registers := (fun _ => none), f_slots := (fun _ => none), f_place := (fun _ => 0), f_status := (fun _ => 0), f_done := (fun _ => 0), f_request := (fun _ => 0), f_requestLine := (fun _ => 0) }, O_Memory := { f_width := (fun _ => 0), f_words := (fun _ => none) }, O_Slot := { f_words := (fun _ => none), f_state := (fun _ => 0), f_line := (fun _ => 0) }, O_SnoopingCores := { f_mainMemory := (fun _ => none), f_cores := (fun _ => none), f_bus := (fun _ => none), f_stepped := (fun _ => 0) }, R_I := { len := (fun _ => 0), row := (fun _ _ => 0) }, R_Core := { len := (fun _ => 0), row := (fun _ _ => none) }, R_Slot := { len := (fun _ => 0), row := (fun _ _ => none) } }
/-- the pool's rows by their kinds -/
abbrev wPF (cyI : ClassId) (cyO5bced : ClassId) (cyOa9bf3 : ClassId) (S : wPS) : Nat → va_E := fun a => if S.K a = 0 then .inr (0, [va_rf (S.O_Bus.f_cores a), va_rf (S.O_Bus.f_mainMemory a), va_rf (S.O_Bus.f_phasesDone a), va_rf (S.O_Bus.f_kept a), .int (S.O_Bus.f_anotherHadIt a), .int (S.O_Bus.f_phase a), .int (S.O_Bus.f_asker a), .int (S.O_Bus.f_request a), .int (S.O_Bus.f_line a)]) else if S.K a = 1 then .inr (1, [.int (S.O_Core.f_number a), va_rf (S.O_Core.f_mainMemory a), va_rf (S.O_Core.f_code a), va_rf (S.O_Core.f_registers a), va_rf (S.O_Core.f_slots a), .int (S.O_Core.f_place a), .int (S.O_Core.f_status a), .int (S.O_Core.f_done a), .int (S.O_Core.f_request a), .int (S.O_Core.f_requestLine a)]) else if S.K a = 2 then .inr (2, [.int (S.O_Memory.f_width a), va_rf (S.O_Memory.f_words a)]) else if S.K a = 3 then .inr (3, [va_rf (S.O_Slot.f_words a), .int (S.O_Slot.f_state a), .int (S.O_Slot.f_line a)]) else if S.K a = 4 then .inr (4, [va_rf (S.O_SnoopingCores.f_mainMemory a), va_rf (S.O_SnoopingCores.f_cores a), va_rf (S.O_SnoopingCores.f_bus a), .int (S.O_SnoopingCores.f_stepped a)]) else if S.K a = 5 then .inl (cyI, S.R_I.len a, .inl (S.R_I.row a)) else if S.K a = 6 then .inl (cyO5bced, S.R_Core.len a, .inr (.inr (.inr (.inr (S.R_Core.row a))))) else .inl (cyOa9bf3, S.R_Slot.len a, .inr (.inr (.inr (.inr (S.R_Slot.row a)))))
theorem wAt_O_Bus (cyI : ClassId) (cyO5bced : ClassId) (cyOa9bf3 : ClassId) (S : wPS) {a : Nat} (h : S.K a = 0) : wPF cyI cyO5bced cyOa9bf3 S a = .inr (0, [va_rf (S.O_Bus.f_cores a), va_rf (S.O_Bus.f_mainMemory a), va_rf (S.O_Bus.f_phasesDone a), va_rf (S.O_Bus.f_kept a), .int (S.O_Bus.f_anotherHadIt a), .int (S.O_Bus.f_phase a), .int (S.O_Bus.f_asker a), .int (S.O_Bus.f_request a), .int (S.O_Bus.f_line a)]) := by simp [wPF, h]
theorem wGt_O_Bus (cyI : ClassId) (cyO5bced : ClassId) (cyOa9bf3 : ClassId) (X : va_W) (S : wPS) {a : Nat} (hL : a ∈ S.L) (h : S.K a = 0) : ∃ k : Nat, (X ++ va_pl S.L (wPF cyI cyO5bced cyOa9bf3 S))[k]? = some (a, wPF cyI cyO5bced cyOa9bf3 S a) ∧ (X ++ va_pl S.L (wPF cyI cyO5bced cyOa9bf3 S))[k]? = some (a, .inr (0, [va_rf (S.O_Bus.f_cores a), va_rf (S.O_Bus.f_mainMemory a), va_rf (S.O_Bus.f_phasesDone a), va_rf (S.O_Bus.f_kept a), .int (S.O_Bus.f_anotherHadIt a), .int (S.O_Bus.f_phase a), .int (S.O_Bus.f_asker a), .int (S.O_Bus.f_request a), .int (S.O_Bus.f_line a)])) := by
  obtain ⟨k, hk⟩ := va_pl_get (X := X) (f := wPF cyI cyO5bced cyOa9bf3 S) hL
  exact ⟨k, hk, hk.trans (congrArg (fun e => some (a, e)) (wAt_O_Bus cyI cyO5bced cyOa9bf3 S h))⟩
theorem wSt_O_Bus_f_cores (cyI : ClassId) (cyO5bced : ClassId) (cyOa9bf3 : ClassId) (S : wPS) {a : Nat} (h : S.K a = 0) (v : Option Nat) (b : Nat) : va_up (wPF cyI cyO5bced cyOa9bf3 S) a (.inr (0, [va_rf v, va_rf (S.O_Bus.f_mainMemory a), va_rf (S.O_Bus.f_phasesDone a), va_rf (S.O_Bus.f_kept a), .int (S.O_Bus.f_anotherHadIt a), .int (S.O_Bus.f_phase a), .int (S.O_Bus.f_asker a), .int (S.O_Bus.f_request a), .int (S.O_Bus.f_line a)])) b = wPF cyI cyO5bced cyOa9bf3 { S with O_Bus := { S.O_Bus with f_cores := va_up S.O_Bus.f_cores a v } } b := by by_cases hb : b = a <;> first | (simp only [wPF, va_up_ne _ _ hb]; done) | (simp only [wPF, va_up, if_neg hb]; done) | simp [wPF, va_re, va_up, va_rf, hb, h]
theorem wPu_O_Bus_f_cores (cyI : ClassId) (cyO5bced : ClassId) (cyOa9bf3 : ClassId) (X : va_W) (S : wPS) {A : Nat → Prop} {a k : Nat} (hD : va_D A (X ++ va_pl S.L (wPF cyI cyO5bced cyOa9bf3 S))) (hL : a ∈ S.L) (h : S.K a = 0) (hk : (X ++ va_pl S.L (wPF cyI cyO5bced cyOa9bf3 S))[k]? = some (a, wPF cyI cyO5bced cyOa9bf3 S a)) (v : Option Nat) : (X ++ va_pl S.L (wPF cyI cyO5bced cyOa9bf3 S)).set k (a, .inr (0, [va_rf v, va_rf (S.O_Bus.f_mainMemory a), va_rf (S.O_Bus.f_phasesDone a), va_rf (S.O_Bus.f_kept a), .int (S.O_Bus.f_anotherHadIt a), .int (S.O_Bus.f_phase a), .int (S.O_Bus.f_asker a), .int (S.O_Bus.f_request a), .int (S.O_Bus.f_line a)])) = X ++ va_pl S.L (wPF cyI cyO5bced cyOa9bf3 { S with O_Bus := { S.O_Bus with f_cores := va_up S.O_Bus.f_cores a v } }) := by
  rw [va_pl_set hD hL hk]
  exact congrArg (fun l => X ++ l) (va_pl_congr (wSt_O_Bus_f_cores cyI cyO5bced cyOa9bf3 S h v))
theorem wSt_O_Bus_f_mainMemory (cyI : ClassId) (cyO5bced : ClassId) (cyOa9bf3 : ClassId) (S : wPS) {a : Nat} (h : S.K a = 0) (v : Option Nat) (b : Nat) : va_up (wPF cyI cyO5bced cyOa9bf3 S) a (.inr (0, [va_rf (S.O_Bus.f_cores a), va_rf v, va_rf (S.O_Bus.f_phasesDone a), va_rf (S.O_Bus.f_kept a), .int (S.O_Bus.f_anotherHadIt a), .int (S.O_Bus.f_phase a), .int (S.O_Bus.f_asker a), .int (S.O_Bus.f_request a), .int (S.O_Bus.f_line a)])) b = wPF cyI cyO5bced cyOa9bf3 { S with O_Bus := { S.O_Bus with f_mainMemory := va_up S.O_Bus.f_mainMemory a v } } b := by by_cases hb : b = a <;> first | (simp only [wPF, va_up_ne _ _ hb]; done) | (simp only [wPF, va_up, if_neg hb]; done) | simp [wPF, va_re, va_up, va_rf, hb, h]
theorem wPu_O_Bus_f_mainMemory (cyI : ClassId) (cyO5bced : ClassId) (cyOa9bf3 : ClassId) (X : va_W) (S : wPS) {A : Nat → Prop} {a k : Nat} (hD : va_D A (X ++ va_pl S.L (wPF cyI cyO5bced cyOa9bf3 S))) (hL : a ∈ S.L) (h : S.K a = 0) (hk : (X ++ va_pl S.L (wPF cyI cyO5bced cyOa9bf3 S))[k]? = some (a, wPF cyI cyO5bced cyOa9bf3 S a)) (v : Option Nat) : (X ++ va_pl S.L (wPF cyI cyO5bced cyOa9bf3 S)).set k (a, .inr (0, [va_rf (S.O_Bus.f_cores a), va_rf v, va_rf (S.O_Bus.f_phasesDone a), va_rf (S.O_Bus.f_kept a), .int (S.O_Bus.f_anotherHadIt a), .int (S.O_Bus.f_phase a), .int (S.O_Bus.f_asker a), .int (S.O_Bus.f_request a), .int (S.O_Bus.f_line a)])) = X ++ va_pl S.L (wPF cyI cyO5bced cyOa9bf3 { S with O_Bus := { S.O_Bus with f_mainMemory := va_up S.O_Bus.f_mainMemory a v } }) := by
  rw [va_pl_set hD hL hk]
  exact congrArg (fun l => X ++ l) (va_pl_congr (wSt_O_Bus_f_mainMemory cyI cyO5bced cyOa9bf3 S h v))
theorem wSt_O_Bus_f_phasesDone (cyI : ClassId) (cyO5bced : ClassId) (cyOa9bf3 : ClassId) (S : wPS) {a : Nat} (h : S.K a = 0) (v : Option Nat) (b : Nat) : va_up (wPF cyI cyO5bced cyOa9bf3 S) a (.inr (0, [va_rf (S.O_Bus.f_cores a), va_rf (S.O_Bus.f_mainMemory a), va_rf v, va_rf (S.O_Bus.f_kept a), .int (S.O_Bus.f_anotherHadIt a), .int (S.O_Bus.f_phase a), .int (S.O_Bus.f_asker a), .int (S.O_Bus.f_request a), .int (S.O_Bus.f_line a)])) b = wPF cyI cyO5bced cyOa9bf3 { S with O_Bus := { S.O_Bus with f_phasesDone := va_up S.O_Bus.f_phasesDone a v } } b := by by_cases hb : b = a <;> first | (simp only [wPF, va_up_ne _ _ hb]; done) | (simp only [wPF, va_up, if_neg hb]; done) | simp [wPF, va_re, va_up, va_rf, hb, h]
theorem wPu_O_Bus_f_phasesDone (cyI : ClassId) (cyO5bced : ClassId) (cyOa9bf3 : ClassId) (X : va_W) (S : wPS) {A : Nat → Prop} {a k : Nat} (hD : va_D A (X ++ va_pl S.L (wPF cyI cyO5bced cyOa9bf3 S))) (hL : a ∈ S.L) (h : S.K a = 0) (hk : (X ++ va_pl S.L (wPF cyI cyO5bced cyOa9bf3 S))[k]? = some (a, wPF cyI cyO5bced cyOa9bf3 S a)) (v : Option Nat) : (X ++ va_pl S.L (wPF cyI cyO5bced cyOa9bf3 S)).set k (a, .inr (0, [va_rf (S.O_Bus.f_cores a), va_rf (S.O_Bus.f_mainMemory a), va_rf v, va_rf (S.O_Bus.f_kept a), .int (S.O_Bus.f_anotherHadIt a), .int (S.O_Bus.f_phase a), .int (S.O_Bus.f_asker a), .int (S.O_Bus.f_request a), .int (S.O_Bus.f_line a)])) = X ++ va_pl S.L (wPF cyI cyO5bced cyOa9bf3 { S with O_Bus := { S.O_Bus with f_phasesDone := va_up S.O_Bus.f_phasesDone a v } }) := by
  rw [va_pl_set hD hL hk]
  exact congrArg (fun l => X ++ l) (va_pl_congr (wSt_O_Bus_f_phasesDone cyI cyO5bced cyOa9bf3 S h v))
theorem wSt_O_Bus_f_kept (cyI : ClassId) (cyO5bced : ClassId) (cyOa9bf3 : ClassId) (S : wPS) {a : Nat} (h : S.K a = 0) (v : Option Nat) (b : Nat) : va_up (wPF cyI cyO5bced cyOa9bf3 S) a (.inr (0, [va_rf (S.O_Bus.f_cores a), va_rf (S.O_Bus.f_mainMemory a), va_rf (S.O_Bus.f_phasesDone a), va_rf v, .int (S.O_Bus.f_anotherHadIt a), .int (S.O_Bus.f_phase a), .int (S.O_Bus.f_asker a), .int (S.O_Bus.f_request a), .int (S.O_Bus.f_line a)])) b = wPF cyI cyO5bced cyOa9bf3 { S with O_Bus := { S.O_Bus with f_kept := va_up S.O_Bus.f_kept a v } } b := by by_cases hb : b = a <;> first | (simp only [wPF, va_up_ne _ _ hb]; done) | (simp only [wPF, va_up, if_neg hb]; done) | simp [wPF, va_re, va_up, va_rf, hb, h]
theorem wPu_O_Bus_f_kept (cyI : ClassId) (cyO5bced : ClassId) (cyOa9bf3 : ClassId) (X : va_W) (S : wPS) {A : Nat → Prop} {a k : Nat} (hD : va_D A (X ++ va_pl S.L (wPF cyI cyO5bced cyOa9bf3 S))) (hL : a ∈ S.L) (h : S.K a = 0) (hk : (X ++ va_pl S.L (wPF cyI cyO5bced cyOa9bf3 S))[k]? = some (a, wPF cyI cyO5bced cyOa9bf3 S a)) (v : Option Nat) : (X ++ va_pl S.L (wPF cyI cyO5bced cyOa9bf3 S)).set k (a, .inr (0, [va_rf (S.O_Bus.f_cores a), va_rf (S.O_Bus.f_mainMemory a), va_rf (S.O_Bus.f_phasesDone a), va_rf v, .int (S.O_Bus.f_anotherHadIt a), .int (S.O_Bus.f_phase a), .int (S.O_Bus.f_asker a), .int (S.O_Bus.f_request a), .int (S.O_Bus.f_line a)])) = X ++ va_pl S.L (wPF cyI cyO5bced cyOa9bf3 { S with O_Bus := { S.O_Bus with f_kept := va_up S.O_Bus.f_kept a v } }) := by
  rw [va_pl_set hD hL hk]
  exact congrArg (fun l => X ++ l) (va_pl_congr (wSt_O_Bus_f_kept cyI cyO5bced cyOa9bf3 S h v))
theorem wSt_O_Bus_f_anotherHadIt (cyI : ClassId) (cyO5bced : ClassId) (cyOa9bf3 : ClassId) (S : wPS) {a : Nat} (h : S.K a = 0) (v : Int32) (b : Nat) : va_up (wPF cyI cyO5bced cyOa9bf3 S) a (.inr (0, [va_rf (S.O_Bus.f_cores a), va_rf (S.O_Bus.f_mainMemory a), va_rf (S.O_Bus.f_phasesDone a), va_rf (S.O_Bus.f_kept a), .int v, .int (S.O_Bus.f_phase a), .int (S.O_Bus.f_asker a), .int (S.O_Bus.f_request a), .int (S.O_Bus.f_line a)])) b = wPF cyI cyO5bced cyOa9bf3 { S with O_Bus := { S.O_Bus with f_anotherHadIt := va_up S.O_Bus.f_anotherHadIt a v } } b := by by_cases hb : b = a <;> first | (simp only [wPF, va_up_ne _ _ hb]; done) | (simp only [wPF, va_up, if_neg hb]; done) | simp [wPF, va_re, va_up, va_rf, hb, h]
theorem wPu_O_Bus_f_anotherHadIt (cyI : ClassId) (cyO5bced : ClassId) (cyOa9bf3 : ClassId) (X : va_W) (S : wPS) {A : Nat → Prop} {a k : Nat} (hD : va_D A (X ++ va_pl S.L (wPF cyI cyO5bced cyOa9bf3 S))) (hL : a ∈ S.L) (h : S.K a = 0) (hk : (X ++ va_pl S.L (wPF cyI cyO5bced cyOa9bf3 S))[k]? = some (a, wPF cyI cyO5bced cyOa9bf3 S a)) (v : Int32) : (X ++ va_pl S.L (wPF cyI cyO5bced cyOa9bf3 S)).set k (a, .inr (0, [va_rf (S.O_Bus.f_cores a), va_rf (S.O_Bus.f_mainMemory a), va_rf (S.O_Bus.f_phasesDone a), va_rf (S.O_Bus.f_kept a), .int v, .int (S.O_Bus.f_phase a), .int (S.O_Bus.f_asker a), .int (S.O_Bus.f_request a), .int (S.O_Bus.f_line a)])) = X ++ va_pl S.L (wPF cyI cyO5bced cyOa9bf3 { S with O_Bus := { S.O_Bus with f_anotherHadIt := va_up S.O_Bus.f_anotherHadIt a v } }) := by
  rw [va_pl_set hD hL hk]
  exact congrArg (fun l => X ++ l) (va_pl_congr (wSt_O_Bus_f_anotherHadIt cyI cyO5bced cyOa9bf3 S h v))
theorem wSt_O_Bus_f_phase (cyI : ClassId) (cyO5bced : ClassId) (cyOa9bf3 : ClassId) (S : wPS) {a : Nat} (h : S.K a = 0) (v : Int32) (b : Nat) : va_up (wPF cyI cyO5bced cyOa9bf3 S) a (.inr (0, [va_rf (S.O_Bus.f_cores a), va_rf (S.O_Bus.f_mainMemory a), va_rf (S.O_Bus.f_phasesDone a), va_rf (S.O_Bus.f_kept a), .int (S.O_Bus.f_anotherHadIt a), .int v, .int (S.O_Bus.f_asker a), .int (S.O_Bus.f_request a), .int (S.O_Bus.f_line a)])) b = wPF cyI cyO5bced cyOa9bf3 { S with O_Bus := { S.O_Bus with f_phase := va_up S.O_Bus.f_phase a v } } b := by by_cases hb : b = a <;> first | (simp only [wPF, va_up_ne _ _ hb]; done) | (simp only [wPF, va_up, if_neg hb]; done) | simp [wPF, va_re, va_up, va_rf, hb, h]
theorem wPu_O_Bus_f_phase (cyI : ClassId) (cyO5bced : ClassId) (cyOa9bf3 : ClassId) (X : va_W) (S : wPS) {A : Nat → Prop} {a k : Nat} (hD : va_D A (X ++ va_pl S.L (wPF cyI cyO5bced cyOa9bf3 S))) (hL : a ∈ S.L) (h : S.K a = 0) (hk : (X ++ va_pl S.L (wPF cyI cyO5bced cyOa9bf3 S))[k]? = some (a, wPF cyI cyO5bced cyOa9bf3 S a)) (v : Int32) : (X ++ va_pl S.L (wPF cyI cyO5bced cyOa9bf3 S)).set k (a, .inr (0, [va_rf (S.O_Bus.f_cores a), va_rf (S.O_Bus.f_mainMemory a), va_rf (S.O_Bus.f_phasesDone a), va_rf (S.O_Bus.f_kept a), .int (S.O_Bus.f_anotherHadIt a), .int v, .int (S.O_Bus.f_asker a), .int (S.O_Bus.f_request a), .int (S.O_Bus.f_line a)])) = X ++ va_pl S.L (wPF cyI cyO5bced cyOa9bf3 { S with O_Bus := { S.O_Bus with f_phase := va_up S.O_Bus.f_phase a v } }) := by
  rw [va_pl_set hD hL hk]
  exact congrArg (fun l => X ++ l) (va_pl_congr (wSt_O_Bus_f_phase cyI cyO5bced cyOa9bf3 S h v))
theorem wSt_O_Bus_f_asker (cyI : ClassId) (cyO5bced : ClassId) (cyOa9bf3 : ClassId) (S : wPS) {a : Nat} (h : S.K a = 0) (v : Int32) (b : Nat) : va_up (wPF cyI cyO5bced cyOa9bf3 S) a (.inr (0, [va_rf (S.O_Bus.f_cores a), va_rf (S.O_Bus.f_mainMemory a), va_rf (S.O_Bus.f_phasesDone a), va_rf (S.O_Bus.f_kept a), .int (S.O_Bus.f_anotherHadIt a), .int (S.O_Bus.f_phase a), .int v, .int (S.O_Bus.f_request a), .int (S.O_Bus.f_line a)])) b = wPF cyI cyO5bced cyOa9bf3 { S with O_Bus := { S.O_Bus with f_asker := va_up S.O_Bus.f_asker a v } } b := by by_cases hb : b = a <;> first | (simp only [wPF, va_up_ne _ _ hb]; done) | (simp only [wPF, va_up, if_neg hb]; done) | simp [wPF, va_re, va_up, va_rf, hb, h]
theorem wPu_O_Bus_f_asker (cyI : ClassId) (cyO5bced : ClassId) (cyOa9bf3 : ClassId) (X : va_W) (S : wPS) {A : Nat → Prop} {a k : Nat} (hD : va_D A (X ++ va_pl S.L (wPF cyI cyO5bced cyOa9bf3 S))) (hL : a ∈ S.L) (h : S.K a = 0) (hk : (X ++ va_pl S.L (wPF cyI cyO5bced cyOa9bf3 S))[k]? = some (a, wPF cyI cyO5bced cyOa9bf3 S a)) (v : Int32) : (X ++ va_pl S.L (wPF cyI cyO5bced cyOa9bf3 S)).set k (a, .inr (0, [va_rf (S.O_Bus.f_cores a), va_rf (S.O_Bus.f_mainMemory a), va_rf (S.O_Bus.f_phasesDone a), va_rf (S.O_Bus.f_kept a), .int (S.O_Bus.f_anotherHadIt a), .int (S.O_Bus.f_phase a), .int v, .int (S.O_Bus.f_request a), .int (S.O_Bus.f_line a)])) = X ++ va_pl S.L (wPF cyI cyO5bced cyOa9bf3 { S with O_Bus := { S.O_Bus with f_asker := va_up S.O_Bus.f_asker a v } }) := by
  rw [va_pl_set hD hL hk]
  exact congrArg (fun l => X ++ l) (va_pl_congr (wSt_O_Bus_f_asker cyI cyO5bced cyOa9bf3 S h v))
theorem wSt_O_Bus_f_request (cyI : ClassId) (cyO5bced : ClassId) (cyOa9bf3 : ClassId) (S : wPS) {a : Nat} (h : S.K a = 0) (v : Int32) (b : Nat) : va_up (wPF cyI cyO5bced cyOa9bf3 S) a (.inr (0, [va_rf (S.O_Bus.f_cores a), va_rf (S.O_Bus.f_mainMemory a), va_rf (S.O_Bus.f_phasesDone a), va_rf (S.O_Bus.f_kept a), .int (S.O_Bus.f_anotherHadIt a), .int (S.O_Bus.f_phase a), .int (S.O_Bus.f_asker a), .int v, .int (S.O_Bus.f_line a)])) b = wPF cyI cyO5bced cyOa9bf3 { S with O_Bus := { S.O_Bus with f_request := va_up S.O_Bus.f_request a v } } b := by by_cases hb : b = a <;> first | (simp only [wPF, va_up_ne _ _ hb]; done) | (simp only [wPF, va_up, if_neg hb]; done) | simp [wPF, va_re, va_up, va_rf, hb, h]
theorem wPu_O_Bus_f_request (cyI : ClassId) (cyO5bced : ClassId) (cyOa9bf3 : ClassId) (X : va_W) (S : wPS) {A : Nat → Prop} {a k : Nat} (hD : va_D A (X ++ va_pl S.L (wPF cyI cyO5bced cyOa9bf3 S))) (hL : a ∈ S.L) (h : S.K a = 0) (hk : (X ++ va_pl S.L (wPF cyI cyO5bced cyOa9bf3 S))[k]? = some (a, wPF cyI cyO5bced cyOa9bf3 S a)) (v : Int32) : (X ++ va_pl S.L (wPF cyI cyO5bced cyOa9bf3 S)).set k (a, .inr (0, [va_rf (S.O_Bus.f_cores a), va_rf (S.O_Bus.f_mainMemory a), va_rf (S.O_Bus.f_phasesDone a), va_rf (S.O_Bus.f_kept a), .int (S.O_Bus.f_anotherHadIt a), .int (S.O_Bus.f_phase a), .int (S.O_Bus.f_asker a), .int v, .int (S.O_Bus.f_line a)])) = X ++ va_pl S.L (wPF cyI cyO5bced cyOa9bf3 { S with O_Bus := { S.O_Bus with f_request := va_up S.O_Bus.f_request a v } }) := by
  rw [va_pl_set hD hL hk]
  exact congrArg (fun l => X ++ l) (va_pl_congr (wSt_O_Bus_f_request cyI cyO5bced cyOa9bf3 S h v))
theorem wSt_O_Bus_f_line (cyI : ClassId) (cyO5bced : ClassId) (cyOa9bf3 : ClassId) (S : wPS) {a : Nat} (h : S.K a = 0) (v : Int32) (b : Nat) : va_up (wPF cyI cyO5bced cyOa9bf3 S) a (.inr (0, [va_rf (S.O_Bus.f_cores a), va_rf (S.O_Bus.f_mainMemory a), va_rf (S.O_Bus.f_phasesDone a), va_rf (S.O_Bus.f_kept a), .int (S.O_Bus.f_anotherHadIt a), .int (S.O_Bus.f_phase a), .int (S.O_Bus.f_asker a), .int (S.O_Bus.f_request a), .int v])) b = wPF cyI cyO5bced cyOa9bf3 { S with O_Bus := { S.O_Bus with f_line := va_up S.O_Bus.f_line a v } } b := by by_cases hb : b = a <;> first | (simp only [wPF, va_up_ne _ _ hb]; done) | (simp only [wPF, va_up, if_neg hb]; done) | simp [wPF, va_re, va_up, va_rf, hb, h]
theorem wPu_O_Bus_f_line (cyI : ClassId) (cyO5bced : ClassId) (cyOa9bf3 : ClassId) (X : va_W) (S : wPS) {A : Nat → Prop} {a k : Nat} (hD : va_D A (X ++ va_pl S.L (wPF cyI cyO5bced cyOa9bf3 S))) (hL : a ∈ S.L) (h : S.K a = 0) (hk : (X ++ va_pl S.L (wPF cyI cyO5bced cyOa9bf3 S))[k]? = some (a, wPF cyI cyO5bced cyOa9bf3 S a)) (v : Int32) : (X ++ va_pl S.L (wPF cyI cyO5bced cyOa9bf3 S)).set k (a, .inr (0, [va_rf (S.O_Bus.f_cores a), va_rf (S.O_Bus.f_mainMemory a), va_rf (S.O_Bus.f_phasesDone a), va_rf (S.O_Bus.f_kept a), .int (S.O_Bus.f_anotherHadIt a), .int (S.O_Bus.f_phase a), .int (S.O_Bus.f_asker a), .int (S.O_Bus.f_request a), .int v])) = X ++ va_pl S.L (wPF cyI cyO5bced cyOa9bf3 { S with O_Bus := { S.O_Bus with f_line := va_up S.O_Bus.f_line a v } }) := by
  rw [va_pl_set hD hL hk]
  exact congrArg (fun l => X ++ l) (va_pl_congr (wSt_O_Bus_f_line cyI cyO5bced cyOa9bf3 S h v))
theorem wNw_O_Bus (cyI : ClassId) (cyO5bced : ClassId) (cyOa9bf3 : ClassId) (S : wPS) (a b : Nat) : va_up (wPF cyI cyO5bced cyOa9bf3 S) a (.inr (0, [.null, .null, .null, .null, .int 0, .int 0, .int 0, .int 0, .int 0])) b = wPF cyI cyO5bced cyOa9bf3 { S with L := S.L ++ [a], K := va_up S.K a 0, O_Bus := { f_cores := va_up S.O_Bus.f_cores a none, f_mainMemory := va_up S.O_Bus.f_mainMemory a none, f_phasesDone := va_up S.O_Bus.f_phasesDone a none, f_kept := va_up S.O_Bus.f_kept a none, f_anotherHadIt := va_up S.O_Bus.f_anotherHadIt a 0, f_phase := va_up S.O_Bus.f_phase a 0, f_asker := va_up S.O_Bus.f_asker a 0, f_request := va_up S.O_Bus.f_request a 0, f_line := va_up S.O_Bus.f_line a 0 } } b := by by_cases hb : b = a <;> first | (simp only [wPF, va_up_ne _ _ hb]; done) | (simp only [wPF, va_up, if_neg hb]; done) | simp [wPF, va_re, va_up, va_rf, hb]
theorem wPn_O_Bus (cyI : ClassId) (cyO5bced : ClassId) (cyOa9bf3 : ClassId) (X : va_W) (S : wPS) {a : Nat} (ha : a ∉ S.L) : (X ++ va_pl S.L (wPF cyI cyO5bced cyOa9bf3 S)) ++ [(a, .inr (0, [.null, .null, .null, .null, .int 0, .int 0, .int 0, .int 0, .int 0]))] = X ++ va_pl (S.L ++ [a]) (wPF cyI cyO5bced cyOa9bf3 { S with L := S.L ++ [a], K := va_up S.K a 0, O_Bus := { f_cores := va_up S.O_Bus.f_cores a none, f_mainMemory := va_up S.O_Bus.f_mainMemory a none, f_phasesDone := va_up S.O_Bus.f_phasesDone a none, f_kept := va_up S.O_Bus.f_kept a none, f_anotherHadIt := va_up S.O_Bus.f_anotherHadIt a 0, f_phase := va_up S.O_Bus.f_phase a 0, f_asker := va_up S.O_Bus.f_asker a 0, f_request := va_up S.O_Bus.f_request a 0, f_line := va_up S.O_Bus.f_line a 0 } }) := by
  rw [List.append_assoc, va_pl_push ha]
  exact congrArg (fun l => X ++ l) (va_pl_congr (wNw_O_Bus cyI cyO5bced cyOa9bf3 S a))
theorem wAt_O_Core (cyI : ClassId) (cyO5bced : ClassId) (cyOa9bf3 : ClassId) (S : wPS) {a : Nat} (h : S.K a = 1) : wPF cyI cyO5bced cyOa9bf3 S a = .inr (1, [.int (S.O_Core.f_number a), va_rf (S.O_Core.f_mainMemory a), va_rf (S.O_Core.f_code a), va_rf (S.O_Core.f_registers a), va_rf (S.O_Core.f_slots a), .int (S.O_Core.f_place a), .int (S.O_Core.f_status a), .int (S.O_Core.f_done a), .int (S.O_Core.f_request a), .int (S.O_Core.f_requestLine a)]) := by simp [wPF, h]
theorem wGt_O_Core (cyI : ClassId) (cyO5bced : ClassId) (cyOa9bf3 : ClassId) (X : va_W) (S : wPS) {a : Nat} (hL : a ∈ S.L) (h : S.K a = 1) : ∃ k : Nat, (X ++ va_pl S.L (wPF cyI cyO5bced cyOa9bf3 S))[k]? = some (a, wPF cyI cyO5bced cyOa9bf3 S a) ∧ (X ++ va_pl S.L (wPF cyI cyO5bced cyOa9bf3 S))[k]? = some (a, .inr (1, [.int (S.O_Core.f_number a), va_rf (S.O_Core.f_mainMemory a), va_rf (S.O_Core.f_code a), va_rf (S.O_Core.f_registers a), va_rf (S.O_Core.f_slots a), .int (S.O_Core.f_place a), .int (S.O_Core.f_status a), .int (S.O_Core.f_done a), .int (S.O_Core.f_request a), .int (S.O_Core.f_requestLine a)])) := by
  obtain ⟨k, hk⟩ := va_pl_get (X := X) (f := wPF cyI cyO5bced cyOa9bf3 S) hL
  exact ⟨k, hk, hk.trans (congrArg (fun e => some (a, e)) (wAt_O_Core cyI cyO5bced cyOa9bf3 S h))⟩
theorem wSt_O_Core_f_number (cyI : ClassId) (cyO5bced : ClassId) (cyOa9bf3 : ClassId) (S : wPS) {a : Nat} (h : S.K a = 1) (v : Int32) (b : Nat) : va_up (wPF cyI cyO5bced cyOa9bf3 S) a (.inr (1, [.int v, va_rf (S.O_Core.f_mainMemory a), va_rf (S.O_Core.f_code a), va_rf (S.O_Core.f_registers a), va_rf (S.O_Core.f_slots a), .int (S.O_Core.f_place a), .int (S.O_Core.f_status a), .int (S.O_Core.f_done a), .int (S.O_Core.f_request a), .int (S.O_Core.f_requestLine a)])) b = wPF cyI cyO5bced cyOa9bf3 { S with O_Core := { S.O_Core with f_number := va_up S.O_Core.f_number a v } } b := by by_cases hb : b = a <;> first | (simp only [wPF, va_up_ne _ _ hb]; done) | (simp only [wPF, va_up, if_neg hb]; done) | simp [wPF, va_re, va_up, va_rf, hb, h]
theorem wPu_O_Core_f_number (cyI : ClassId) (cyO5bced : ClassId) (cyOa9bf3 : ClassId) (X : va_W) (S : wPS) {A : Nat → Prop} {a k : Nat} (hD : va_D A (X ++ va_pl S.L (wPF cyI cyO5bced cyOa9bf3 S))) (hL : a ∈ S.L) (h : S.K a = 1) (hk : (X ++ va_pl S.L (wPF cyI cyO5bced cyOa9bf3 S))[k]? = some (a, wPF cyI cyO5bced cyOa9bf3 S a)) (v : Int32) : (X ++ va_pl S.L (wPF cyI cyO5bced cyOa9bf3 S)).set k (a, .inr (1, [.int v, va_rf (S.O_Core.f_mainMemory a), va_rf (S.O_Core.f_code a), va_rf (S.O_Core.f_registers a), va_rf (S.O_Core.f_slots a), .int (S.O_Core.f_place a), .int (S.O_Core.f_status a), .int (S.O_Core.f_done a), .int (S.O_Core.f_request a), .int (S.O_Core.f_requestLine a)])) = X ++ va_pl S.L (wPF cyI cyO5bced cyOa9bf3 { S with O_Core := { S.O_Core with f_number := va_up S.O_Core.f_number a v } }) := by
  rw [va_pl_set hD hL hk]
  exact congrArg (fun l => X ++ l) (va_pl_congr (wSt_O_Core_f_number cyI cyO5bced cyOa9bf3 S h v))
theorem wSt_O_Core_f_mainMemory (cyI : ClassId) (cyO5bced : ClassId) (cyOa9bf3 : ClassId) (S : wPS) {a : Nat} (h : S.K a = 1) (v : Option Nat) (b : Nat) : va_up (wPF cyI cyO5bced cyOa9bf3 S) a (.inr (1, [.int (S.O_Core.f_number a), va_rf v, va_rf (S.O_Core.f_code a), va_rf (S.O_Core.f_registers a), va_rf (S.O_Core.f_slots a), .int (S.O_Core.f_place a), .int (S.O_Core.f_status a), .int (S.O_Core.f_done a), .int (S.O_Core.f_request a), .int (S.O_Core.f_requestLine a)])) b = wPF cyI cyO5bced cyOa9bf3 { S with O_Core := { S.O_Core with f_mainMemory := va_up S.O_Core.f_mainMemory a v } } b := by by_cases hb : b = a <;> first | (simp only [wPF, va_up_ne _ _ hb]; done) | (simp only [wPF, va_up, if_neg hb]; done) | simp [wPF, va_re, va_up, va_rf, hb, h]
theorem wPu_O_Core_f_mainMemory (cyI : ClassId) (cyO5bced : ClassId) (cyOa9bf3 : ClassId) (X : va_W) (S : wPS) {A : Nat → Prop} {a k : Nat} (hD : va_D A (X ++ va_pl S.L (wPF cyI cyO5bced cyOa9bf3 S))) (hL : a ∈ S.L) (h : S.K a = 1) (hk : (X ++ va_pl S.L (wPF cyI cyO5bced cyOa9bf3 S))[k]? = some (a, wPF cyI cyO5bced cyOa9bf3 S a)) (v : Option Nat) : (X ++ va_pl S.L (wPF cyI cyO5bced cyOa9bf3 S)).set k (a, .inr (1, [.int (S.O_Core.f_number a), va_rf v, va_rf (S.O_Core.f_code a), va_rf (S.O_Core.f_registers a), va_rf (S.O_Core.f_slots a), .int (S.O_Core.f_place a), .int (S.O_Core.f_status a), .int (S.O_Core.f_done a), .int (S.O_Core.f_request a), .int (S.O_Core.f_requestLine a)])) = X ++ va_pl S.L (wPF cyI cyO5bced cyOa9bf3 { S with O_Core := { S.O_Core with f_mainMemory := va_up S.O_Core.f_mainMemory a v } }) := by
  rw [va_pl_set hD hL hk]
  exact congrArg (fun l => X ++ l) (va_pl_congr (wSt_O_Core_f_mainMemory cyI cyO5bced cyOa9bf3 S h v))
theorem wSt_O_Core_f_code (cyI : ClassId) (cyO5bced : ClassId) (cyOa9bf3 : ClassId) (S : wPS) {a : Nat} (h : S.K a = 1) (v : Option Nat) (b : Nat) : va_up (wPF cyI cyO5bced cyOa9bf3 S) a (.inr (1, [.int (S.O_Core.f_number a), va_rf (S.O_Core.f_mainMemory a), va_rf v, va_rf (S.O_Core.f_registers a), va_rf (S.O_Core.f_slots a), .int (S.O_Core.f_place a), .int (S.O_Core.f_status a), .int (S.O_Core.f_done a), .int (S.O_Core.f_request a), .int (S.O_Core.f_requestLine a)])) b = wPF cyI cyO5bced cyOa9bf3 { S with O_Core := { S.O_Core with f_code := va_up S.O_Core.f_code a v } } b := by by_cases hb : b = a <;> first | (simp only [wPF, va_up_ne _ _ hb]; done) | (simp only [wPF, va_up, if_neg hb]; done) | simp [wPF, va_re, va_up, va_rf, hb, h]
theorem wPu_O_Core_f_code (cyI : ClassId) (cyO5bced : ClassId) (cyOa9bf3 : ClassId) (X : va_W) (S : wPS) {A : Nat → Prop} {a k : Nat} (hD : va_D A (X ++ va_pl S.L (wPF cyI cyO5bced cyOa9bf3 S))) (hL : a ∈ S.L) (h : S.K a = 1) (hk : (X ++ va_pl S.L (wPF cyI cyO5bced cyOa9bf3 S))[k]? = some (a, wPF cyI cyO5bced cyOa9bf3 S a)) (v : Option Nat) : (X ++ va_pl S.L (wPF cyI cyO5bced cyOa9bf3 S)).set k (a, .inr (1, [.int (S.O_Core.f_number a), va_rf (S.O_Core.f_mainMemory a), va_rf v, va_rf (S.O_Core.f_registers a), va_rf (S.O_Core.f_slots a), .int (S.O_Core.f_place a), .int (S.O_Core.f_status a), .int (S.O_Core.f_done a), .int (S.O_Core.f_request a), .int (S.O_Core.f_requestLine a)])) = X ++ va_pl S.L (wPF cyI cyO5bced cyOa9bf3 { S with O_Core := { S.O_Core with f_code := va_up S.O_Core.f_code a v } }) := by
  rw [va_pl_set hD hL hk]
  exact congrArg (fun l => X ++ l) (va_pl_congr (wSt_O_Core_f_code cyI cyO5bced cyOa9bf3 S h v))
theorem wSt_O_Core_f_registers (cyI : ClassId) (cyO5bced : ClassId) (cyOa9bf3 : ClassId) (S : wPS) {a : Nat} (h : S.K a = 1) (v : Option Nat) (b : Nat) : va_up (wPF cyI cyO5bced cyOa9bf3 S) a (.inr (1, [.int (S.O_Core.f_number a), va_rf (S.O_Core.f_mainMemory a), va_rf (S.O_Core.f_code a), va_rf v, va_rf (S.O_Core.f_slots a), .int (S.O_Core.f_place a), .int (S.O_Core.f_status a), .int (S.O_Core.f_done a), .int (S.O_Core.f_request a), .int (S.O_Core.f_requestLine a)])) b = wPF cyI cyO5bced cyOa9bf3 { S with O_Core := { S.O_Core with f_registers := va_up S.O_Core.f_registers a v } } b := by by_cases hb : b = a <;> first | (simp only [wPF, va_up_ne _ _ hb]; done) | (simp only [wPF, va_up, if_neg hb]; done) | simp [wPF, va_re, va_up, va_rf, hb, h]
theorem wPu_O_Core_f_registers (cyI : ClassId) (cyO5bced : ClassId) (cyOa9bf3 : ClassId) (X : va_W) (S : wPS) {A : Nat → Prop} {a k : Nat} (hD : va_D A (X ++ va_pl S.L (wPF cyI cyO5bced cyOa9bf3 S))) (hL : a ∈ S.L) (h : S.K a = 1) (hk : (X ++ va_pl S.L (wPF cyI cyO5bced cyOa9bf3 S))[k]? = some (a, wPF cyI cyO5bced cyOa9bf3 S a)) (v : Option Nat) : (X ++ va_pl S.L (wPF cyI cyO5bced cyOa9bf3 S)).set k (a, .inr (1, [.int (S.O_Core.f_number a), va_rf (S.O_Core.f_mainMemory a), va_rf (S.O_Core.f_code a), va_rf v, va_rf (S.O_Core.f_slots a), .int (S.O_Core.f_place a), .int (S.O_Core.f_status a), .int (S.O_Core.f_done a), .int (S.O_Core.f_request a), .int (S.O_Core.f_requestLine a)])) = X ++ va_pl S.L (wPF cyI cyO5bced cyOa9bf3 { S with O_Core := { S.O_Core with f_registers := va_up S.O_Core.f_registers a v } }) := by
  rw [va_pl_set hD hL hk]
  exact congrArg (fun l => X ++ l) (va_pl_congr (wSt_O_Core_f_registers cyI cyO5bced cyOa9bf3 S h v))
theorem wSt_O_Core_f_slots (cyI : ClassId) (cyO5bced : ClassId) (cyOa9bf3 : ClassId) (S : wPS) {a : Nat} (h : S.K a = 1) (v : Option Nat) (b : Nat) : va_up (wPF cyI cyO5bced cyOa9bf3 S) a (.inr (1, [.int (S.O_Core.f_number a), va_rf (S.O_Core.f_mainMemory a), va_rf (S.O_Core.f_code a), va_rf (S.O_Core.f_registers a), va_rf v, .int (S.O_Core.f_place a), .int (S.O_Core.f_status a), .int (S.O_Core.f_done a), .int (S.O_Core.f_request a), .int (S.O_Core.f_requestLine a)])) b = wPF cyI cyO5bced cyOa9bf3 { S with O_Core := { S.O_Core with f_slots := va_up S.O_Core.f_slots a v } } b := by by_cases hb : b = a <;> first | (simp only [wPF, va_up_ne _ _ hb]; done) | (simp only [wPF, va_up, if_neg hb]; done) | simp [wPF, va_re, va_up, va_rf, hb, h]
theorem wPu_O_Core_f_slots (cyI : ClassId) (cyO5bced : ClassId) (cyOa9bf3 : ClassId) (X : va_W) (S : wPS) {A : Nat → Prop} {a k : Nat} (hD : va_D A (X ++ va_pl S.L (wPF cyI cyO5bced cyOa9bf3 S))) (hL : a ∈ S.L) (h : S.K a = 1) (hk : (X ++ va_pl S.L (wPF cyI cyO5bced cyOa9bf3 S))[k]? = some (a, wPF cyI cyO5bced cyOa9bf3 S a)) (v : Option Nat) : (X ++ va_pl S.L (wPF cyI cyO5bced cyOa9bf3 S)).set k (a, .inr (1, [.int (S.O_Core.f_number a), va_rf (S.O_Core.f_mainMemory a), va_rf (S.O_Core.f_code a), va_rf (S.O_Core.f_registers a), va_rf v, .int (S.O_Core.f_place a), .int (S.O_Core.f_status a), .int (S.O_Core.f_done a), .int (S.O_Core.f_request a), .int (S.O_Core.f_requestLine a)])) = X ++ va_pl S.L (wPF cyI cyO5bced cyOa9bf3 { S with O_Core := { S.O_Core with f_slots := va_up S.O_Core.f_slots a v } }) := by
  rw [va_pl_set hD hL hk]
  exact congrArg (fun l => X ++ l) (va_pl_congr (wSt_O_Core_f_slots cyI cyO5bced cyOa9bf3 S h v))
theorem wSt_O_Core_f_place (cyI : ClassId) (cyO5bced : ClassId) (cyOa9bf3 : ClassId) (S : wPS) {a : Nat} (h : S.K a = 1) (v : Int32) (b : Nat) : va_up (wPF cyI cyO5bced cyOa9bf3 S) a (.inr (1, [.int (S.O_Core.f_number a), va_rf (S.O_Core.f_mainMemory a), va_rf (S.O_Core.f_code a), va_rf (S.O_Core.f_registers a), va_rf (S.O_Core.f_slots a), .int v, .int (S.O_Core.f_status a), .int (S.O_Core.f_done a), .int (S.O_Core.f_request a), .int (S.O_Core.f_requestLine a)])) b = wPF cyI cyO5bced cyOa9bf3 { S with O_Core := { S.O_Core with f_place := va_up S.O_Core.f_place a v } } b := by by_cases hb : b = a <;> first | (simp only [wPF, va_up_ne _ _ hb]; done) | (simp only [wPF, va_up, if_neg hb]; done) | simp [wPF, va_re, va_up, va_rf, hb, h]
theorem wPu_O_Core_f_place (cyI : ClassId) (cyO5bced : ClassId) (cyOa9bf3 : ClassId) (X : va_W) (S : wPS) {A : Nat → Prop} {a k : Nat} (hD : va_D A (X ++ va_pl S.L (wPF cyI cyO5bced cyOa9bf3 S))) (hL : a ∈ S.L) (h : S.K a = 1) (hk : (X ++ va_pl S.L (wPF cyI cyO5bced cyOa9bf3 S))[k]? = some (a, wPF cyI cyO5bced cyOa9bf3 S a)) (v : Int32) : (X ++ va_pl S.L (wPF cyI cyO5bced cyOa9bf3 S)).set k (a, .inr (1, [.int (S.O_Core.f_number a), va_rf (S.O_Core.f_mainMemory a), va_rf (S.O_Core.f_code a), va_rf (S.O_Core.f_registers a), va_rf (S.O_Core.f_slots a), .int v, .int (S.O_Core.f_status a), .int (S.O_Core.f_done a), .int (S.O_Core.f_request a), .int (S.O_Core.f_requestLine a)])) = X ++ va_pl S.L (wPF cyI cyO5bced cyOa9bf3 { S with O_Core := { S.O_Core with f_place := va_up S.O_Core.f_place a v } }) := by
  rw [va_pl_set hD hL hk]
  exact congrArg (fun l => X ++ l) (va_pl_congr (wSt_O_Core_f_place cyI cyO5bced cyOa9bf3 S h v))
theorem wSt_O_Core_f_status (cyI : ClassId) (cyO5bced : ClassId) (cyOa9bf3 : ClassId) (S : wPS) {a : Nat} (h : S.K a = 1) (v : Int32) (b : Nat) : va_up (wPF cyI cyO5bced cyOa9bf3 S) a (.inr (1, [.int (S.O_Core.f_number a), va_rf (S.O_Core.f_mainMemory a), va_rf (S.O_Core.f_code a), va_rf (S.O_Core.f_registers a), va_rf (S.O_Core.f_slots a), .int (S.O_Core.f_place a), .int v, .int (S.O_Core.f_done a), .int (S.O_Core.f_request a), .int (S.O_Core.f_requestLine a)])) b = wPF cyI cyO5bced cyOa9bf3 { S with O_Core := { S.O_Core with f_status := va_up S.O_Core.f_status a v } } b := by by_cases hb : b = a <;> first | (simp only [wPF, va_up_ne _ _ hb]; done) | (simp only [wPF, va_up, if_neg hb]; done) | simp [wPF, va_re, va_up, va_rf, hb, h]
theorem wPu_O_Core_f_status (cyI : ClassId) (cyO5bced : ClassId) (cyOa9bf3 : ClassId) (X : va_W) (S : wPS) {A : Nat → Prop} {a k : Nat} (hD : va_D A (X ++ va_pl S.L (wPF cyI cyO5bced cyOa9bf3 S))) (hL : a ∈ S.L) (h : S.K a = 1) (hk : (X ++ va_pl S.L (wPF cyI cyO5bced cyOa9bf3 S))[k]? = some (a, wPF cyI cyO5bced cyOa9bf3 S a)) (v : Int32) : (X ++ va_pl S.L (wPF cyI cyO5bced cyOa9bf3 S)).set k (a, .inr (1, [.int (S.O_Core.f_number a), va_rf (S.O_Core.f_mainMemory a), va_rf (S.O_Core.f_code a), va_rf (S.O_Core.f_registers a), va_rf (S.O_Core.f_slots a), .int (S.O_Core.f_place a), .int v, .int (S.O_Core.f_done a), .int (S.O_Core.f_request a), .int (S.O_Core.f_requestLine a)])) = X ++ va_pl S.L (wPF cyI cyO5bced cyOa9bf3 { S with O_Core := { S.O_Core with f_status := va_up S.O_Core.f_status a v } }) := by
  rw [va_pl_set hD hL hk]
  exact congrArg (fun l => X ++ l) (va_pl_congr (wSt_O_Core_f_status cyI cyO5bced cyOa9bf3 S h v))
theorem wSt_O_Core_f_done (cyI : ClassId) (cyO5bced : ClassId) (cyOa9bf3 : ClassId) (S : wPS) {a : Nat} (h : S.K a = 1) (v : Int32) (b : Nat) : va_up (wPF cyI cyO5bced cyOa9bf3 S) a (.inr (1, [.int (S.O_Core.f_number a), va_rf (S.O_Core.f_mainMemory a), va_rf (S.O_Core.f_code a), va_rf (S.O_Core.f_registers a), va_rf (S.O_Core.f_slots a), .int (S.O_Core.f_place a), .int (S.O_Core.f_status a), .int v, .int (S.O_Core.f_request a), .int (S.O_Core.f_requestLine a)])) b = wPF cyI cyO5bced cyOa9bf3 { S with O_Core := { S.O_Core with f_done := va_up S.O_Core.f_done a v } } b := by by_cases hb : b = a <;> first | (simp only [wPF, va_up_ne _ _ hb]; done) | (simp only [wPF, va_up, if_neg hb]; done) | simp [wPF, va_re, va_up, va_rf, hb, h]
theorem wPu_O_Core_f_done (cyI : ClassId) (cyO5bced : ClassId) (cyOa9bf3 : ClassId) (X : va_W) (S : wPS) {A : Nat → Prop} {a k : Nat} (hD : va_D A (X ++ va_pl S.L (wPF cyI cyO5bced cyOa9bf3 S))) (hL : a ∈ S.L) (h : S.K a = 1) (hk : (X ++ va_pl S.L (wPF cyI cyO5bced cyOa9bf3 S))[k]? = some (a, wPF cyI cyO5bced cyOa9bf3 S a)) (v : Int32) : (X ++ va_pl S.L (wPF cyI cyO5bced cyOa9bf3 S)).set k (a, .inr (1, [.int (S.O_Core.f_number a), va_rf (S.O_Core.f_mainMemory a), va_rf (S.O_Core.f_code a), va_rf (S.O_Core.f_registers a), va_rf (S.O_Core.f_slots a), .int (S.O_Core.f_place a), .int (S.O_Core.f_status a), .int v, .int (S.O_Core.f_request a), .int (S.O_Core.f_requestLine a)])) = X ++ va_pl S.L (wPF cyI cyO5bced cyOa9bf3 { S with O_Core := { S.O_Core with f_done := va_up S.O_Core.f_done a v } }) := by
  rw [va_pl_set hD hL hk]
  exact congrArg (fun l => X ++ l) (va_pl_congr (wSt_O_Core_f_done cyI cyO5bced cyOa9bf3 S h v))
theorem wSt_O_Core_f_request (cyI : ClassId) (cyO5bced : ClassId) (cyOa9bf3 : ClassId) (S : wPS) {a : Nat} (h : S.K a = 1) (v : Int32) (b : Nat) : va_up (wPF cyI cyO5bced cyOa9bf3 S) a (.inr (1, [.int (S.O_Core.f_number a), va_rf (S.O_Core.f_mainMemory a), va_rf (S.O_Core.f_code a), va_rf (S.O_Core.f_registers a), va_rf (S.O_Core.f_slots a), .int (S.O_Core.f_place a), .int (S.O_Core.f_status a), .int (S.O_Core.f_done a), .int v, .int (S.O_Core.f_requestLine a)])) b = wPF cyI cyO5bced cyOa9bf3 { S with O_Core := { S.O_Core with f_request := va_up S.O_Core.f_request a v } } b := by by_cases hb : b = a <;> first | (simp only [wPF, va_up_ne _ _ hb]; done) | (simp only [wPF, va_up, if_neg hb]; done) | simp [wPF, va_re, va_up, va_rf, hb, h]
theorem wPu_O_Core_f_request (cyI : ClassId) (cyO5bced : ClassId) (cyOa9bf3 : ClassId) (X : va_W) (S : wPS) {A : Nat → Prop} {a k : Nat} (hD : va_D A (X ++ va_pl S.L (wPF cyI cyO5bced cyOa9bf3 S))) (hL : a ∈ S.L) (h : S.K a = 1) (hk : (X ++ va_pl S.L (wPF cyI cyO5bced cyOa9bf3 S))[k]? = some (a, wPF cyI cyO5bced cyOa9bf3 S a)) (v : Int32) : (X ++ va_pl S.L (wPF cyI cyO5bced cyOa9bf3 S)).set k (a, .inr (1, [.int (S.O_Core.f_number a), va_rf (S.O_Core.f_mainMemory a), va_rf (S.O_Core.f_code a), va_rf (S.O_Core.f_registers a), va_rf (S.O_Core.f_slots a), .int (S.O_Core.f_place a), .int (S.O_Core.f_status a), .int (S.O_Core.f_done a), .int v, .int (S.O_Core.f_requestLine a)])) = X ++ va_pl S.L (wPF cyI cyO5bced cyOa9bf3 { S with O_Core := { S.O_Core with f_request := va_up S.O_Core.f_request a v } }) := by
  rw [va_pl_set hD hL hk]
  exact congrArg (fun l => X ++ l) (va_pl_congr (wSt_O_Core_f_request cyI cyO5bced cyOa9bf3 S h v))
theorem wSt_O_Core_f_requestLine (cyI : ClassId) (cyO5bced : ClassId) (cyOa9bf3 : ClassId) (S : wPS) {a : Nat} (h : S.K a = 1) (v : Int32) (b : Nat) : va_up (wPF cyI cyO5bced cyOa9bf3 S) a (.inr (1, [.int (S.O_Core.f_number a), va_rf (S.O_Core.f_mainMemory a), va_rf (S.O_Core.f_code a), va_rf (S.O_Core.f_registers a), va_rf (S.O_Core.f_slots a), .int (S.O_Core.f_place a), .int (S.O_Core.f_status a), .int (S.O_Core.f_done a), .int (S.O_Core.f_request a), .int v])) b = wPF cyI cyO5bced cyOa9bf3 { S with O_Core := { S.O_Core with f_requestLine := va_up S.O_Core.f_requestLine a v } } b := by by_cases hb : b = a <;> first | (simp only [wPF, va_up_ne _ _ hb]; done) | (simp only [wPF, va_up, if_neg hb]; done) | simp [wPF, va_re, va_up, va_rf, hb, h]
theorem wPu_O_Core_f_requestLine (cyI : ClassId) (cyO5bced : ClassId) (cyOa9bf3 : ClassId) (X : va_W) (S : wPS) {A : Nat → Prop} {a k : Nat} (hD : va_D A (X ++ va_pl S.L (wPF cyI cyO5bced cyOa9bf3 S))) (hL : a ∈ S.L) (h : S.K a = 1) (hk : (X ++ va_pl S.L (wPF cyI cyO5bced cyOa9bf3 S))[k]? = some (a, wPF cyI cyO5bced cyOa9bf3 S a)) (v : Int32) : (X ++ va_pl S.L (wPF cyI cyO5bced cyOa9bf3 S)).set k (a, .inr (1, [.int (S.O_Core.f_number a), va_rf (S.O_Core.f_mainMemory a), va_rf (S.O_Core.f_code a), va_rf (S.O_Core.f_registers a), va_rf (S.O_Core.f_slots a), .int (S.O_Core.f_place a), .int (S.O_Core.f_status a), .int (S.O_Core.f_done a), .int (S.O_Core.f_request a), .int v])) = X ++ va_pl S.L (wPF cyI cyO5bced cyOa9bf3 { S with O_Core := { S.O_Core with f_requestLine := va_up S.O_Core.f_requestLine a v } }) := by
  rw [va_pl_set hD hL hk]
  exact congrArg (fun l => X ++ l) (va_pl_congr (wSt_O_Core_f_requestLine cyI cyO5bced cyOa9bf3 S h v))
theorem wNw_O_Core (cyI : ClassId) (cyO5bced : ClassId) (cyOa9bf3 : ClassId) (S : wPS) (a b : Nat) : va_up (wPF cyI cyO5bced cyOa9bf3 S) a (.inr (1, [.int 0, .null, .null, .null, .null, .int 0, .int 0, .int 0, .int 0, .int 0])) b = wPF cyI cyO5bced cyOa9bf3 { S with L := S.L ++ [a], K := va_up S.K a 1, O_Core := { f_number := va_up S.O_Core.f_number a 0, f_mainMemory := va_up S.O_Core.f_mainMemory a none, f_code := va_up S.O_Core.f_code a none, f_registers := va_up S.O_Core.f_registers a none, f_slots := va_up S.O_Core.f_slots a none, f_place := va_up S.O_Core.f_place a 0, f_status := va_up S.O_Core.f_status a 0, f_done := va_up S.O_Core.f_done a 0, f_request := va_up S.O_Core.f_request a 0, f_requestLine := va_up S.O_Core.f_requestLine a 0 } } b := by by_cases hb : b = a <;> first | (simp only [wPF, va_up_ne _ _ hb]; done) | (simp only [wPF, va_up, if_neg hb]; done) | simp [wPF, va_re, va_up, va_rf, hb]
theorem wPn_O_Core (cyI : ClassId) (cyO5bced : ClassId) (cyOa9bf3 : ClassId) (X : va_W) (S : wPS) {a : Nat} (ha : a ∉ S.L) : (X ++ va_pl S.L (wPF cyI cyO5bced cyOa9bf3 S)) ++ [(a, .inr (1, [.int 0, .null, .null, .null, .null, .int 0, .int 0, .int 0, .int 0, .int 0]))] = X ++ va_pl (S.L ++ [a]) (wPF cyI cyO5bced cyOa9bf3 { S with L := S.L ++ [a], K := va_up S.K a 1, O_Core := { f_number := va_up S.O_Core.f_number a 0, f_mainMemory := va_up S.O_Core.f_mainMemory a none, f_code := va_up S.O_Core.f_code a none, f_registers := va_up S.O_Core.f_registers a none, f_slots := va_up S.O_Core.f_slots a none, f_place := va_up S.O_Core.f_place a 0, f_status := va_up S.O_Core.f_status a 0, f_done := va_up S.O_Core.f_done a 0, f_request := va_up S.O_Core.f_request a 0, f_requestLine := va_up S.O_Core.f_requestLine a 0 } }) := by
  rw [List.append_assoc, va_pl_push ha]
  exact congrArg (fun l => X ++ l) (va_pl_congr (wNw_O_Core cyI cyO5bced cyOa9bf3 S a))
theorem wAt_O_Memory (cyI : ClassId) (cyO5bced : ClassId) (cyOa9bf3 : ClassId) (S : wPS) {a : Nat} (h : S.K a = 2) : wPF cyI cyO5bced cyOa9bf3 S a = .inr (2, [.int (S.O_Memory.f_width a), va_rf (S.O_Memory.f_words a)]) := by simp [wPF, h]
theorem wGt_O_Memory (cyI : ClassId) (cyO5bced : ClassId) (cyOa9bf3 : ClassId) (X : va_W) (S : wPS) {a : Nat} (hL : a ∈ S.L) (h : S.K a = 2) : ∃ k : Nat, (X ++ va_pl S.L (wPF cyI cyO5bced cyOa9bf3 S))[k]? = some (a, wPF cyI cyO5bced cyOa9bf3 S a) ∧ (X ++ va_pl S.L (wPF cyI cyO5bced cyOa9bf3 S))[k]? = some (a, .inr (2, [.int (S.O_Memory.f_width a), va_rf (S.O_Memory.f_words a)])) := by
  obtain ⟨k, hk⟩ := va_pl_get (X := X) (f := wPF cyI cyO5bced cyOa9bf3 S) hL
  exact ⟨k, hk, hk.trans (congrArg (fun e => some (a, e)) (wAt_O_Memory cyI cyO5bced cyOa9bf3 S h))⟩
theorem wSt_O_Memory_f_width (cyI : ClassId) (cyO5bced : ClassId) (cyOa9bf3 : ClassId) (S : wPS) {a : Nat} (h : S.K a = 2) (v : Int32) (b : Nat) : va_up (wPF cyI cyO5bced cyOa9bf3 S) a (.inr (2, [.int v, va_rf (S.O_Memory.f_words a)])) b = wPF cyI cyO5bced cyOa9bf3 { S with O_Memory := { S.O_Memory with f_width := va_up S.O_Memory.f_width a v } } b := by by_cases hb : b = a <;> first | (simp only [wPF, va_up_ne _ _ hb]; done) | (simp only [wPF, va_up, if_neg hb]; done) | simp [wPF, va_re, va_up, va_rf, hb, h]
theorem wPu_O_Memory_f_width (cyI : ClassId) (cyO5bced : ClassId) (cyOa9bf3 : ClassId) (X : va_W) (S : wPS) {A : Nat → Prop} {a k : Nat} (hD : va_D A (X ++ va_pl S.L (wPF cyI cyO5bced cyOa9bf3 S))) (hL : a ∈ S.L) (h : S.K a = 2) (hk : (X ++ va_pl S.L (wPF cyI cyO5bced cyOa9bf3 S))[k]? = some (a, wPF cyI cyO5bced cyOa9bf3 S a)) (v : Int32) : (X ++ va_pl S.L (wPF cyI cyO5bced cyOa9bf3 S)).set k (a, .inr (2, [.int v, va_rf (S.O_Memory.f_words a)])) = X ++ va_pl S.L (wPF cyI cyO5bced cyOa9bf3 { S with O_Memory := { S.O_Memory with f_width := va_up S.O_Memory.f_width a v } }) := by
  rw [va_pl_set hD hL hk]
  exact congrArg (fun l => X ++ l) (va_pl_congr (wSt_O_Memory_f_width cyI cyO5bced cyOa9bf3 S h v))
theorem wSt_O_Memory_f_words (cyI : ClassId) (cyO5bced : ClassId) (cyOa9bf3 : ClassId) (S : wPS) {a : Nat} (h : S.K a = 2) (v : Option Nat) (b : Nat) : va_up (wPF cyI cyO5bced cyOa9bf3 S) a (.inr (2, [.int (S.O_Memory.f_width a), va_rf v])) b = wPF cyI cyO5bced cyOa9bf3 { S with O_Memory := { S.O_Memory with f_words := va_up S.O_Memory.f_words a v } } b := by by_cases hb : b = a <;> first | (simp only [wPF, va_up_ne _ _ hb]; done) | (simp only [wPF, va_up, if_neg hb]; done) | simp [wPF, va_re, va_up, va_rf, hb, h]
theorem wPu_O_Memory_f_words (cyI : ClassId) (cyO5bced : ClassId) (cyOa9bf3 : ClassId) (X : va_W) (S : wPS) {A : Nat → Prop} {a k : Nat} (hD : va_D A (X ++ va_pl S.L (wPF cyI cyO5bced cyOa9bf3 S))) (hL : a ∈ S.L) (h : S.K a = 2) (hk : (X ++ va_pl S.L (wPF cyI cyO5bced cyOa9bf3 S))[k]? = some (a, wPF cyI cyO5bced cyOa9bf3 S a)) (v : Option Nat) : (X ++ va_pl S.L (wPF cyI cyO5bced cyOa9bf3 S)).set k (a, .inr (2, [.int (S.O_Memory.f_width a), va_rf v])) = X ++ va_pl S.L (wPF cyI cyO5bced cyOa9bf3 { S with O_Memory := { S.O_Memory with f_words := va_up S.O_Memory.f_words a v } }) := by
  rw [va_pl_set hD hL hk]
  exact congrArg (fun l => X ++ l) (va_pl_congr (wSt_O_Memory_f_words cyI cyO5bced cyOa9bf3 S h v))
theorem wNw_O_Memory (cyI : ClassId) (cyO5bced : ClassId) (cyOa9bf3 : ClassId) (S : wPS) (a b : Nat) : va_up (wPF cyI cyO5bced cyOa9bf3 S) a (.inr (2, [.int 0, .null])) b = wPF cyI cyO5bced cyOa9bf3 { S with L := S.L ++ [a], K := va_up S.K a 2, O_Memory := { f_width := va_up S.O_Memory.f_width a 0, f_words := va_up S.O_Memory.f_words a none } } b := by by_cases hb : b = a <;> first | (simp only [wPF, va_up_ne _ _ hb]; done) | (simp only [wPF, va_up, if_neg hb]; done) | simp [wPF, va_re, va_up, va_rf, hb]
theorem wPn_O_Memory (cyI : ClassId) (cyO5bced : ClassId) (cyOa9bf3 : ClassId) (X : va_W) (S : wPS) {a : Nat} (ha : a ∉ S.L) : (X ++ va_pl S.L (wPF cyI cyO5bced cyOa9bf3 S)) ++ [(a, .inr (2, [.int 0, .null]))] = X ++ va_pl (S.L ++ [a]) (wPF cyI cyO5bced cyOa9bf3 { S with L := S.L ++ [a], K := va_up S.K a 2, O_Memory := { f_width := va_up S.O_Memory.f_width a 0, f_words := va_up S.O_Memory.f_words a none } }) := by
  rw [List.append_assoc, va_pl_push ha]
  exact congrArg (fun l => X ++ l) (va_pl_congr (wNw_O_Memory cyI cyO5bced cyOa9bf3 S a))
theorem wAt_O_Slot (cyI : ClassId) (cyO5bced : ClassId) (cyOa9bf3 : ClassId) (S : wPS) {a : Nat} (h : S.K a = 3) : wPF cyI cyO5bced cyOa9bf3 S a = .inr (3, [va_rf (S.O_Slot.f_words a), .int (S.O_Slot.f_state a), .int (S.O_Slot.f_line a)]) := by simp [wPF, h]
theorem wGt_O_Slot (cyI : ClassId) (cyO5bced : ClassId) (cyOa9bf3 : ClassId) (X : va_W) (S : wPS) {a : Nat} (hL : a ∈ S.L) (h : S.K a = 3) : ∃ k : Nat, (X ++ va_pl S.L (wPF cyI cyO5bced cyOa9bf3 S))[k]? = some (a, wPF cyI cyO5bced cyOa9bf3 S a) ∧ (X ++ va_pl S.L (wPF cyI cyO5bced cyOa9bf3 S))[k]? = some (a, .inr (3, [va_rf (S.O_Slot.f_words a), .int (S.O_Slot.f_state a), .int (S.O_Slot.f_line a)])) := by
  obtain ⟨k, hk⟩ := va_pl_get (X := X) (f := wPF cyI cyO5bced cyOa9bf3 S) hL
  exact ⟨k, hk, hk.trans (congrArg (fun e => some (a, e)) (wAt_O_Slot cyI cyO5bced cyOa9bf3 S h))⟩
theorem wSt_O_Slot_f_words (cyI : ClassId) (cyO5bced : ClassId) (cyOa9bf3 : ClassId) (S : wPS) {a : Nat} (h : S.K a = 3) (v : Option Nat) (b : Nat) : va_up (wPF cyI cyO5bced cyOa9bf3 S) a (.inr (3, [va_rf v, .int (S.O_Slot.f_state a), .int (S.O_Slot.f_line a)])) b = wPF cyI cyO5bced cyOa9bf3 { S with O_Slot := { S.O_Slot with f_words := va_up S.O_Slot.f_words a v } } b := by by_cases hb : b = a <;> first | (simp only [wPF, va_up_ne _ _ hb]; done) | (simp only [wPF, va_up, if_neg hb]; done) | simp [wPF, va_re, va_up, va_rf, hb, h]
theorem wPu_O_Slot_f_words (cyI : ClassId) (cyO5bced : ClassId) (cyOa9bf3 : ClassId) (X : va_W) (S : wPS) {A : Nat → Prop} {a k : Nat} (hD : va_D A (X ++ va_pl S.L (wPF cyI cyO5bced cyOa9bf3 S))) (hL : a ∈ S.L) (h : S.K a = 3) (hk : (X ++ va_pl S.L (wPF cyI cyO5bced cyOa9bf3 S))[k]? = some (a, wPF cyI cyO5bced cyOa9bf3 S a)) (v : Option Nat) : (X ++ va_pl S.L (wPF cyI cyO5bced cyOa9bf3 S)).set k (a, .inr (3, [va_rf v, .int (S.O_Slot.f_state a), .int (S.O_Slot.f_line a)])) = X ++ va_pl S.L (wPF cyI cyO5bced cyOa9bf3 { S with O_Slot := { S.O_Slot with f_words := va_up S.O_Slot.f_words a v } }) := by
  rw [va_pl_set hD hL hk]
  exact congrArg (fun l => X ++ l) (va_pl_congr (wSt_O_Slot_f_words cyI cyO5bced cyOa9bf3 S h v))
theorem wSt_O_Slot_f_state (cyI : ClassId) (cyO5bced : ClassId) (cyOa9bf3 : ClassId) (S : wPS) {a : Nat} (h : S.K a = 3) (v : Int32) (b : Nat) : va_up (wPF cyI cyO5bced cyOa9bf3 S) a (.inr (3, [va_rf (S.O_Slot.f_words a), .int v, .int (S.O_Slot.f_line a)])) b = wPF cyI cyO5bced cyOa9bf3 { S with O_Slot := { S.O_Slot with f_state := va_up S.O_Slot.f_state a v } } b := by by_cases hb : b = a <;> first | (simp only [wPF, va_up_ne _ _ hb]; done) | (simp only [wPF, va_up, if_neg hb]; done) | simp [wPF, va_re, va_up, va_rf, hb, h]
theorem wPu_O_Slot_f_state (cyI : ClassId) (cyO5bced : ClassId) (cyOa9bf3 : ClassId) (X : va_W) (S : wPS) {A : Nat → Prop} {a k : Nat} (hD : va_D A (X ++ va_pl S.L (wPF cyI cyO5bced cyOa9bf3 S))) (hL : a ∈ S.L) (h : S.K a = 3) (hk : (X ++ va_pl S.L (wPF cyI cyO5bced cyOa9bf3 S))[k]? = some (a, wPF cyI cyO5bced cyOa9bf3 S a)) (v : Int32) : (X ++ va_pl S.L (wPF cyI cyO5bced cyOa9bf3 S)).set k (a, .inr (3, [va_rf (S.O_Slot.f_words a), .int v, .int (S.O_Slot.f_line a)])) = X ++ va_pl S.L (wPF cyI cyO5bced cyOa9bf3 { S with O_Slot := { S.O_Slot with f_state := va_up S.O_Slot.f_state a v } }) := by
  rw [va_pl_set hD hL hk]
  exact congrArg (fun l => X ++ l) (va_pl_congr (wSt_O_Slot_f_state cyI cyO5bced cyOa9bf3 S h v))
theorem wSt_O_Slot_f_line (cyI : ClassId) (cyO5bced : ClassId) (cyOa9bf3 : ClassId) (S : wPS) {a : Nat} (h : S.K a = 3) (v : Int32) (b : Nat) : va_up (wPF cyI cyO5bced cyOa9bf3 S) a (.inr (3, [va_rf (S.O_Slot.f_words a), .int (S.O_Slot.f_state a), .int v])) b = wPF cyI cyO5bced cyOa9bf3 { S with O_Slot := { S.O_Slot with f_line := va_up S.O_Slot.f_line a v } } b := by by_cases hb : b = a <;> first | (simp only [wPF, va_up_ne _ _ hb]; done) | (simp only [wPF, va_up, if_neg hb]; done) | simp [wPF, va_re, va_up, va_rf, hb, h]
theorem wPu_O_Slot_f_line (cyI : ClassId) (cyO5bced : ClassId) (cyOa9bf3 : ClassId) (X : va_W) (S : wPS) {A : Nat → Prop} {a k : Nat} (hD : va_D A (X ++ va_pl S.L (wPF cyI cyO5bced cyOa9bf3 S))) (hL : a ∈ S.L) (h : S.K a = 3) (hk : (X ++ va_pl S.L (wPF cyI cyO5bced cyOa9bf3 S))[k]? = some (a, wPF cyI cyO5bced cyOa9bf3 S a)) (v : Int32) : (X ++ va_pl S.L (wPF cyI cyO5bced cyOa9bf3 S)).set k (a, .inr (3, [va_rf (S.O_Slot.f_words a), .int (S.O_Slot.f_state a), .int v])) = X ++ va_pl S.L (wPF cyI cyO5bced cyOa9bf3 { S with O_Slot := { S.O_Slot with f_line := va_up S.O_Slot.f_line a v } }) := by
  rw [va_pl_set hD hL hk]
  exact congrArg (fun l => X ++ l) (va_pl_congr (wSt_O_Slot_f_line cyI cyO5bced cyOa9bf3 S h v))
theorem wNw_O_Slot (cyI : ClassId) (cyO5bced : ClassId) (cyOa9bf3 : ClassId) (S : wPS) (a b : Nat) : va_up (wPF cyI cyO5bced cyOa9bf3 S) a (.inr (3, [.null, .int 0, .int 0])) b = wPF cyI cyO5bced cyOa9bf3 { S with L := S.L ++ [a], K := va_up S.K a 3, O_Slot := { f_words := va_up S.O_Slot.f_words a none, f_state := va_up S.O_Slot.f_state a 0, f_line := va_up S.O_Slot.f_line a 0 } } b := by by_cases hb : b = a <;> first | (simp only [wPF, va_up_ne _ _ hb]; done) | (simp only [wPF, va_up, if_neg hb]; done) | simp [wPF, va_re, va_up, va_rf, hb]
theorem wPn_O_Slot (cyI : ClassId) (cyO5bced : ClassId) (cyOa9bf3 : ClassId) (X : va_W) (S : wPS) {a : Nat} (ha : a ∉ S.L) : (X ++ va_pl S.L (wPF cyI cyO5bced cyOa9bf3 S)) ++ [(a, .inr (3, [.null, .int 0, .int 0]))] = X ++ va_pl (S.L ++ [a]) (wPF cyI cyO5bced cyOa9bf3 { S with L := S.L ++ [a], K := va_up S.K a 3, O_Slot := { f_words := va_up S.O_Slot.f_words a none, f_state := va_up S.O_Slot.f_state a 0, f_line := va_up S.O_Slot.f_line a 0 } }) := by
  rw [List.append_assoc, va_pl_push ha]
  exact congrArg (fun l => X ++ l) (va_pl_congr (wNw_O_Slot cyI cyO5bced cyOa9bf3 S a))
theorem wAt_O_SnoopingCores (cyI : ClassId) (cyO5bced : ClassId) (cyOa9bf3 : ClassId) (S : wPS) {a : Nat} (h : S.K a = 4) : wPF cyI cyO5bced cyOa9bf3 S a = .inr (4, [va_rf (S.O_SnoopingCores.f_mainMemory a), va_rf (S.O_SnoopingCores.f_cores a), va_rf (S.O_SnoopingCores.f_bus a), .int (S.O_SnoopingCores.f_stepped a)]) := by simp [wPF, h]
theorem wGt_O_SnoopingCores (cyI : ClassId) (cyO5bced : ClassId) (cyOa9bf3 : ClassId) (X : va_W) (S : wPS) {a : Nat} (hL : a ∈ S.L) (h : S.K a = 4) : ∃ k : Nat, (X ++ va_pl S.L (wPF cyI cyO5bced cyOa9bf3 S))[k]? = some (a, wPF cyI cyO5bced cyOa9bf3 S a) ∧ (X ++ va_pl S.L (wPF cyI cyO5bced cyOa9bf3 S))[k]? = some (a, .inr (4, [va_rf (S.O_SnoopingCores.f_mainMemory a), va_rf (S.O_SnoopingCores.f_cores a), va_rf (S.O_SnoopingCores.f_bus a), .int (S.O_SnoopingCores.f_stepped a)])) := by
  obtain ⟨k, hk⟩ := va_pl_get (X := X) (f := wPF cyI cyO5bced cyOa9bf3 S) hL
  exact ⟨k, hk, hk.trans (congrArg (fun e => some (a, e)) (wAt_O_SnoopingCores cyI cyO5bced cyOa9bf3 S h))⟩
theorem wSt_O_SnoopingCores_f_mainMemory (cyI : ClassId) (cyO5bced : ClassId) (cyOa9bf3 : ClassId) (S : wPS) {a : Nat} (h : S.K a = 4) (v : Option Nat) (b : Nat) : va_up (wPF cyI cyO5bced cyOa9bf3 S) a (.inr (4, [va_rf v, va_rf (S.O_SnoopingCores.f_cores a), va_rf (S.O_SnoopingCores.f_bus a), .int (S.O_SnoopingCores.f_stepped a)])) b = wPF cyI cyO5bced cyOa9bf3 { S with O_SnoopingCores := { S.O_SnoopingCores with f_mainMemory := va_up S.O_SnoopingCores.f_mainMemory a v } } b := by by_cases hb : b = a <;> first | (simp only [wPF, va_up_ne _ _ hb]; done) | (simp only [wPF, va_up, if_neg hb]; done) | simp [wPF, va_re, va_up, va_rf, hb, h]
theorem wPu_O_SnoopingCores_f_mainMemory (cyI : ClassId) (cyO5bced : ClassId) (cyOa9bf3 : ClassId) (X : va_W) (S : wPS) {A : Nat → Prop} {a k : Nat} (hD : va_D A (X ++ va_pl S.L (wPF cyI cyO5bced cyOa9bf3 S))) (hL : a ∈ S.L) (h : S.K a = 4) (hk : (X ++ va_pl S.L (wPF cyI cyO5bced cyOa9bf3 S))[k]? = some (a, wPF cyI cyO5bced cyOa9bf3 S a)) (v : Option Nat) : (X ++ va_pl S.L (wPF cyI cyO5bced cyOa9bf3 S)).set k (a, .inr (4, [va_rf v, va_rf (S.O_SnoopingCores.f_cores a), va_rf (S.O_SnoopingCores.f_bus a), .int (S.O_SnoopingCores.f_stepped a)])) = X ++ va_pl S.L (wPF cyI cyO5bced cyOa9bf3 { S with O_SnoopingCores := { S.O_SnoopingCores with f_mainMemory := va_up S.O_SnoopingCores.f_mainMemory a v } }) := by
  rw [va_pl_set hD hL hk]
  exact congrArg (fun l => X ++ l) (va_pl_congr (wSt_O_SnoopingCores_f_mainMemory cyI cyO5bced cyOa9bf3 S h v))
theorem wSt_O_SnoopingCores_f_cores (cyI : ClassId) (cyO5bced : ClassId) (cyOa9bf3 : ClassId) (S : wPS) {a : Nat} (h : S.K a = 4) (v : Option Nat) (b : Nat) : va_up (wPF cyI cyO5bced cyOa9bf3 S) a (.inr (4, [va_rf (S.O_SnoopingCores.f_mainMemory a), va_rf v, va_rf (S.O_SnoopingCores.f_bus a), .int (S.O_SnoopingCores.f_stepped a)])) b = wPF cyI cyO5bced cyOa9bf3 { S with O_SnoopingCores := { S.O_SnoopingCores with f_cores := va_up S.O_SnoopingCores.f_cores a v } } b := by by_cases hb : b = a <;> first | (simp only [wPF, va_up_ne _ _ hb]; done) | (simp only [wPF, va_up, if_neg hb]; done) | simp [wPF, va_re, va_up, va_rf, hb, h]
theorem wPu_O_SnoopingCores_f_cores (cyI : ClassId) (cyO5bced : ClassId) (cyOa9bf3 : ClassId) (X : va_W) (S : wPS) {A : Nat → Prop} {a k : Nat} (hD : va_D A (X ++ va_pl S.L (wPF cyI cyO5bced cyOa9bf3 S))) (hL : a ∈ S.L) (h : S.K a = 4) (hk : (X ++ va_pl S.L (wPF cyI cyO5bced cyOa9bf3 S))[k]? = some (a, wPF cyI cyO5bced cyOa9bf3 S a)) (v : Option Nat) : (X ++ va_pl S.L (wPF cyI cyO5bced cyOa9bf3 S)).set k (a, .inr (4, [va_rf (S.O_SnoopingCores.f_mainMemory a), va_rf v, va_rf (S.O_SnoopingCores.f_bus a), .int (S.O_SnoopingCores.f_stepped a)])) = X ++ va_pl S.L (wPF cyI cyO5bced cyOa9bf3 { S with O_SnoopingCores := { S.O_SnoopingCores with f_cores := va_up S.O_SnoopingCores.f_cores a v } }) := by
  rw [va_pl_set hD hL hk]
  exact congrArg (fun l => X ++ l) (va_pl_congr (wSt_O_SnoopingCores_f_cores cyI cyO5bced cyOa9bf3 S h v))
theorem wSt_O_SnoopingCores_f_bus (cyI : ClassId) (cyO5bced : ClassId) (cyOa9bf3 : ClassId) (S : wPS) {a : Nat} (h : S.K a = 4) (v : Option Nat) (b : Nat) : va_up (wPF cyI cyO5bced cyOa9bf3 S) a (.inr (4, [va_rf (S.O_SnoopingCores.f_mainMemory a), va_rf (S.O_SnoopingCores.f_cores a), va_rf v, .int (S.O_SnoopingCores.f_stepped a)])) b = wPF cyI cyO5bced cyOa9bf3 { S with O_SnoopingCores := { S.O_SnoopingCores with f_bus := va_up S.O_SnoopingCores.f_bus a v } } b := by by_cases hb : b = a <;> first | (simp only [wPF, va_up_ne _ _ hb]; done) | (simp only [wPF, va_up, if_neg hb]; done) | simp [wPF, va_re, va_up, va_rf, hb, h]
theorem wPu_O_SnoopingCores_f_bus (cyI : ClassId) (cyO5bced : ClassId) (cyOa9bf3 : ClassId) (X : va_W) (S : wPS) {A : Nat → Prop} {a k : Nat} (hD : va_D A (X ++ va_pl S.L (wPF cyI cyO5bced cyOa9bf3 S))) (hL : a ∈ S.L) (h : S.K a = 4) (hk : (X ++ va_pl S.L (wPF cyI cyO5bced cyOa9bf3 S))[k]? = some (a, wPF cyI cyO5bced cyOa9bf3 S a)) (v : Option Nat) : (X ++ va_pl S.L (wPF cyI cyO5bced cyOa9bf3 S)).set k (a, .inr (4, [va_rf (S.O_SnoopingCores.f_mainMemory a), va_rf (S.O_SnoopingCores.f_cores a), va_rf v, .int (S.O_SnoopingCores.f_stepped a)])) = X ++ va_pl S.L (wPF cyI cyO5bced cyOa9bf3 { S with O_SnoopingCores := { S.O_SnoopingCores with f_bus := va_up S.O_SnoopingCores.f_bus a v } }) := by
  rw [va_pl_set hD hL hk]
  exact congrArg (fun l => X ++ l) (va_pl_congr (wSt_O_SnoopingCores_f_bus cyI cyO5bced cyOa9bf3 S h v))
theorem wSt_O_SnoopingCores_f_stepped (cyI : ClassId) (cyO5bced : ClassId) (cyOa9bf3 : ClassId) (S : wPS) {a : Nat} (h : S.K a = 4) (v : Int32) (b : Nat) : va_up (wPF cyI cyO5bced cyOa9bf3 S) a (.inr (4, [va_rf (S.O_SnoopingCores.f_mainMemory a), va_rf (S.O_SnoopingCores.f_cores a), va_rf (S.O_SnoopingCores.f_bus a), .int v])) b = wPF cyI cyO5bced cyOa9bf3 { S with O_SnoopingCores := { S.O_SnoopingCores with f_stepped := va_up S.O_SnoopingCores.f_stepped a v } } b := by by_cases hb : b = a <;> first | (simp only [wPF, va_up_ne _ _ hb]; done) | (simp only [wPF, va_up, if_neg hb]; done) | simp [wPF, va_re, va_up, va_rf, hb, h]
theorem wPu_O_SnoopingCores_f_stepped (cyI : ClassId) (cyO5bced : ClassId) (cyOa9bf3 : ClassId) (X : va_W) (S : wPS) {A : Nat → Prop} {a k : Nat} (hD : va_D A (X ++ va_pl S.L (wPF cyI cyO5bced cyOa9bf3 S))) (hL : a ∈ S.L) (h : S.K a = 4) (hk : (X ++ va_pl S.L (wPF cyI cyO5bced cyOa9bf3 S))[k]? = some (a, wPF cyI cyO5bced cyOa9bf3 S a)) (v : Int32) : (X ++ va_pl S.L (wPF cyI cyO5bced cyOa9bf3 S)).set k (a, .inr (4, [va_rf (S.O_SnoopingCores.f_mainMemory a), va_rf (S.O_SnoopingCores.f_cores a), va_rf (S.O_SnoopingCores.f_bus a), .int v])) = X ++ va_pl S.L (wPF cyI cyO5bced cyOa9bf3 { S with O_SnoopingCores := { S.O_SnoopingCores with f_stepped := va_up S.O_SnoopingCores.f_stepped a v } }) := by
  rw [va_pl_set hD hL hk]
  exact congrArg (fun l => X ++ l) (va_pl_congr (wSt_O_SnoopingCores_f_stepped cyI cyO5bced cyOa9bf3 S h v))
theorem wNw_O_SnoopingCores (cyI : ClassId) (cyO5bced : ClassId) (cyOa9bf3 : ClassId) (S : wPS) (a b : Nat) : va_up (wPF cyI cyO5bced cyOa9bf3 S) a (.inr (4, [.null, .null, .null, .int 0])) b = wPF cyI cyO5bced cyOa9bf3 { S with L := S.L ++ [a], K := va_up S.K a 4, O_SnoopingCores := { f_mainMemory := va_up S.O_SnoopingCores.f_mainMemory a none, f_cores := va_up S.O_SnoopingCores.f_cores a none, f_bus := va_up S.O_SnoopingCores.f_bus a none, f_stepped := va_up S.O_SnoopingCores.f_stepped a 0 } } b := by by_cases hb : b = a <;> first | (simp only [wPF, va_up_ne _ _ hb]; done) | (simp only [wPF, va_up, if_neg hb]; done) | simp [wPF, va_re, va_up, va_rf, hb]
theorem wPn_O_SnoopingCores (cyI : ClassId) (cyO5bced : ClassId) (cyOa9bf3 : ClassId) (X : va_W) (S : wPS) {a : Nat} (ha : a ∉ S.L) : (X ++ va_pl S.L (wPF cyI cyO5bced cyOa9bf3 S)) ++ [(a, .inr (4, [.null, .null, .null, .int 0]))] = X ++ va_pl (S.L ++ [a]) (wPF cyI cyO5bced cyOa9bf3 { S with L := S.L ++ [a], K := va_up S.K a 4, O_SnoopingCores := { f_mainMemory := va_up S.O_SnoopingCores.f_mainMemory a none, f_cores := va_up S.O_SnoopingCores.f_cores a none, f_bus := va_up S.O_SnoopingCores.f_bus a none, f_stepped := va_up S.O_SnoopingCores.f_stepped a 0 } }) := by
  rw [List.append_assoc, va_pl_push ha]
  exact congrArg (fun l => X ++ l) (va_pl_congr (wNw_O_SnoopingCores cyI cyO5bced cyOa9bf3 S a))
theorem wAt_R_I (cyI : ClassId) (cyO5bced : ClassId) (cyOa9bf3 : ClassId) (S : wPS) {a : Nat} (h : S.K a = 5) : wPF cyI cyO5bced cyOa9bf3 S a = .inl (cyI, S.R_I.len a, .inl (S.R_I.row a)) := by simp [wPF, h]
theorem wGt_R_I (cyI : ClassId) (cyO5bced : ClassId) (cyOa9bf3 : ClassId) (X : va_W) (S : wPS) {a : Nat} (hL : a ∈ S.L) (h : S.K a = 5) : ∃ k : Nat, (X ++ va_pl S.L (wPF cyI cyO5bced cyOa9bf3 S))[k]? = some (a, wPF cyI cyO5bced cyOa9bf3 S a) ∧ (X ++ va_pl S.L (wPF cyI cyO5bced cyOa9bf3 S))[k]? = some (a, .inl (cyI, S.R_I.len a, .inl (S.R_I.row a))) := by
  obtain ⟨k, hk⟩ := va_pl_get (X := X) (f := wPF cyI cyO5bced cyOa9bf3 S) hL
  exact ⟨k, hk, hk.trans (congrArg (fun e => some (a, e)) (wAt_R_I cyI cyO5bced cyOa9bf3 S h))⟩
theorem wSt_R_I_row (cyI : ClassId) (cyO5bced : ClassId) (cyOa9bf3 : ClassId) (S : wPS) {a : Nat} (h : S.K a = 5) (v : Nat → Int32) (b : Nat) : va_up (wPF cyI cyO5bced cyOa9bf3 S) a (.inl (cyI, S.R_I.len a, .inl v)) b = wPF cyI cyO5bced cyOa9bf3 { S with R_I := { S.R_I with row := va_up S.R_I.row a v } } b := by by_cases hb : b = a <;> first | (simp only [wPF, va_up_ne _ _ hb]; done) | (simp only [wPF, va_up, if_neg hb]; done) | simp [wPF, va_re, va_up, va_rf, hb, h]
theorem wPu_R_I_row (cyI : ClassId) (cyO5bced : ClassId) (cyOa9bf3 : ClassId) (X : va_W) (S : wPS) {A : Nat → Prop} {a k : Nat} (hD : va_D A (X ++ va_pl S.L (wPF cyI cyO5bced cyOa9bf3 S))) (hL : a ∈ S.L) (h : S.K a = 5) (hk : (X ++ va_pl S.L (wPF cyI cyO5bced cyOa9bf3 S))[k]? = some (a, wPF cyI cyO5bced cyOa9bf3 S a)) (v : Nat → Int32) : (X ++ va_pl S.L (wPF cyI cyO5bced cyOa9bf3 S)).set k (a, .inl (cyI, S.R_I.len a, .inl v)) = X ++ va_pl S.L (wPF cyI cyO5bced cyOa9bf3 { S with R_I := { S.R_I with row := va_up S.R_I.row a v } }) := by
  rw [va_pl_set hD hL hk]
  exact congrArg (fun l => X ++ l) (va_pl_congr (wSt_R_I_row cyI cyO5bced cyOa9bf3 S h v))
theorem wNw_R_I (cyI : ClassId) (cyO5bced : ClassId) (cyOa9bf3 : ClassId) (S : wPS) (a : Nat) (z : Nat) (f : Nat → Int32) (b : Nat) : va_up (wPF cyI cyO5bced cyOa9bf3 S) a (.inl (cyI, z, .inl f)) b = wPF cyI cyO5bced cyOa9bf3 { S with L := S.L ++ [a], K := va_up S.K a 5, R_I := { len := va_up S.R_I.len a z, row := va_up S.R_I.row a f } } b := by by_cases hb : b = a <;> first | (simp only [wPF, va_up_ne _ _ hb]; done) | (simp only [wPF, va_up, if_neg hb]; done) | simp [wPF, va_re, va_up, va_rf, hb]
theorem wAt_R_Core (cyI : ClassId) (cyO5bced : ClassId) (cyOa9bf3 : ClassId) (S : wPS) {a : Nat} (h : S.K a = 6) : wPF cyI cyO5bced cyOa9bf3 S a = .inl (cyO5bced, S.R_Core.len a, .inr (.inr (.inr (.inr (S.R_Core.row a))))) := by simp [wPF, h]
theorem wGt_R_Core (cyI : ClassId) (cyO5bced : ClassId) (cyOa9bf3 : ClassId) (X : va_W) (S : wPS) {a : Nat} (hL : a ∈ S.L) (h : S.K a = 6) : ∃ k : Nat, (X ++ va_pl S.L (wPF cyI cyO5bced cyOa9bf3 S))[k]? = some (a, wPF cyI cyO5bced cyOa9bf3 S a) ∧ (X ++ va_pl S.L (wPF cyI cyO5bced cyOa9bf3 S))[k]? = some (a, .inl (cyO5bced, S.R_Core.len a, .inr (.inr (.inr (.inr (S.R_Core.row a)))))) := by
  obtain ⟨k, hk⟩ := va_pl_get (X := X) (f := wPF cyI cyO5bced cyOa9bf3 S) hL
  exact ⟨k, hk, hk.trans (congrArg (fun e => some (a, e)) (wAt_R_Core cyI cyO5bced cyOa9bf3 S h))⟩
theorem wSt_R_Core_row (cyI : ClassId) (cyO5bced : ClassId) (cyOa9bf3 : ClassId) (S : wPS) {a : Nat} (h : S.K a = 6) (v : Nat → Option Nat) (b : Nat) : va_up (wPF cyI cyO5bced cyOa9bf3 S) a (.inl (cyO5bced, S.R_Core.len a, .inr (.inr (.inr (.inr v))))) b = wPF cyI cyO5bced cyOa9bf3 { S with R_Core := { S.R_Core with row := va_up S.R_Core.row a v } } b := by by_cases hb : b = a <;> first | (simp only [wPF, va_up_ne _ _ hb]; done) | (simp only [wPF, va_up, if_neg hb]; done) | simp [wPF, va_re, va_up, va_rf, hb, h]
theorem wPu_R_Core_row (cyI : ClassId) (cyO5bced : ClassId) (cyOa9bf3 : ClassId) (X : va_W) (S : wPS) {A : Nat → Prop} {a k : Nat} (hD : va_D A (X ++ va_pl S.L (wPF cyI cyO5bced cyOa9bf3 S))) (hL : a ∈ S.L) (h : S.K a = 6) (hk : (X ++ va_pl S.L (wPF cyI cyO5bced cyOa9bf3 S))[k]? = some (a, wPF cyI cyO5bced cyOa9bf3 S a)) (v : Nat → Option Nat) : (X ++ va_pl S.L (wPF cyI cyO5bced cyOa9bf3 S)).set k (a, .inl (cyO5bced, S.R_Core.len a, .inr (.inr (.inr (.inr v))))) = X ++ va_pl S.L (wPF cyI cyO5bced cyOa9bf3 { S with R_Core := { S.R_Core with row := va_up S.R_Core.row a v } }) := by
  rw [va_pl_set hD hL hk]
  exact congrArg (fun l => X ++ l) (va_pl_congr (wSt_R_Core_row cyI cyO5bced cyOa9bf3 S h v))
theorem wNw_R_Core (cyI : ClassId) (cyO5bced : ClassId) (cyOa9bf3 : ClassId) (S : wPS) (a : Nat) (z : Nat) (f : Nat → Option Nat) (b : Nat) : va_up (wPF cyI cyO5bced cyOa9bf3 S) a (.inl (cyO5bced, z, .inr (.inr (.inr (.inr f))))) b = wPF cyI cyO5bced cyOa9bf3 { S with L := S.L ++ [a], K := va_up S.K a 6, R_Core := { len := va_up S.R_Core.len a z, row := va_up S.R_Core.row a f } } b := by by_cases hb : b = a <;> first | (simp only [wPF, va_up_ne _ _ hb]; done) | (simp only [wPF, va_up, if_neg hb]; done) | simp [wPF, va_re, va_up, va_rf, hb]
theorem wAt_R_Slot (cyI : ClassId) (cyO5bced : ClassId) (cyOa9bf3 : ClassId) (S : wPS) {a : Nat} (h : S.K a = 7) : wPF cyI cyO5bced cyOa9bf3 S a = .inl (cyOa9bf3, S.R_Slot.len a, .inr (.inr (.inr (.inr (S.R_Slot.row a))))) := by simp [wPF, h]
theorem wGt_R_Slot (cyI : ClassId) (cyO5bced : ClassId) (cyOa9bf3 : ClassId) (X : va_W) (S : wPS) {a : Nat} (hL : a ∈ S.L) (h : S.K a = 7) : ∃ k : Nat, (X ++ va_pl S.L (wPF cyI cyO5bced cyOa9bf3 S))[k]? = some (a, wPF cyI cyO5bced cyOa9bf3 S a) ∧ (X ++ va_pl S.L (wPF cyI cyO5bced cyOa9bf3 S))[k]? = some (a, .inl (cyOa9bf3, S.R_Slot.len a, .inr (.inr (.inr (.inr (S.R_Slot.row a)))))) := by
  obtain ⟨k, hk⟩ := va_pl_get (X := X) (f := wPF cyI cyO5bced cyOa9bf3 S) hL
  exact ⟨k, hk, hk.trans (congrArg (fun e => some (a, e)) (wAt_R_Slot cyI cyO5bced cyOa9bf3 S h))⟩
theorem wSt_R_Slot_row (cyI : ClassId) (cyO5bced : ClassId) (cyOa9bf3 : ClassId) (S : wPS) {a : Nat} (h : S.K a = 7) (v : Nat → Option Nat) (b : Nat) : va_up (wPF cyI cyO5bced cyOa9bf3 S) a (.inl (cyOa9bf3, S.R_Slot.len a, .inr (.inr (.inr (.inr v))))) b = wPF cyI cyO5bced cyOa9bf3 { S with R_Slot := { S.R_Slot with row := va_up S.R_Slot.row a v } } b := by by_cases hb : b = a <;> first | (simp only [wPF, va_up_ne _ _ hb]; done) | (simp only [wPF, va_up, if_neg hb]; done) | simp [wPF, va_re, va_up, va_rf, hb, h]
theorem wPu_R_Slot_row (cyI : ClassId) (cyO5bced : ClassId) (cyOa9bf3 : ClassId) (X : va_W) (S : wPS) {A : Nat → Prop} {a k : Nat} (hD : va_D A (X ++ va_pl S.L (wPF cyI cyO5bced cyOa9bf3 S))) (hL : a ∈ S.L) (h : S.K a = 7) (hk : (X ++ va_pl S.L (wPF cyI cyO5bced cyOa9bf3 S))[k]? = some (a, wPF cyI cyO5bced cyOa9bf3 S a)) (v : Nat → Option Nat) : (X ++ va_pl S.L (wPF cyI cyO5bced cyOa9bf3 S)).set k (a, .inl (cyOa9bf3, S.R_Slot.len a, .inr (.inr (.inr (.inr v))))) = X ++ va_pl S.L (wPF cyI cyO5bced cyOa9bf3 { S with R_Slot := { S.R_Slot with row := va_up S.R_Slot.row a v } }) := by
  rw [va_pl_set hD hL hk]
  exact congrArg (fun l => X ++ l) (va_pl_congr (wSt_R_Slot_row cyI cyO5bced cyOa9bf3 S h v))
theorem wNw_R_Slot (cyI : ClassId) (cyO5bced : ClassId) (cyOa9bf3 : ClassId) (S : wPS) (a : Nat) (z : Nat) (f : Nat → Option Nat) (b : Nat) : va_up (wPF cyI cyO5bced cyOa9bf3 S) a (.inl (cyOa9bf3, z, .inr (.inr (.inr (.inr f))))) b = wPF cyI cyO5bced cyOa9bf3 { S with L := S.L ++ [a], K := va_up S.K a 7, R_Slot := { len := va_up S.R_Slot.len a z, row := va_up S.R_Slot.row a f } } b := by by_cases hb : b = a <;> first | (simp only [wPF, va_up_ne _ _ hb]; done) | (simp only [wPF, va_up, if_neg hb]; done) | simp [wPF, va_re, va_up, va_rf, hb]
/-! ===== END printed: names ===== -/
