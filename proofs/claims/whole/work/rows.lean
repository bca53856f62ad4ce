section
-- ===== PART A: goes FIRST, ahead of the names: the tables' words, and 'selects' of the private methods out of them =====
/-- a private method of a class that the tables say can be made, by its rows of tables_1 -/
def lw_okq (q : MethodName × Nat) : Prop := (q.1.cls ≠ "java/lang/invoke/MethodHandle" ∧ q.1.cls ≠ "java/lang/invoke/VarHandle") ∧ Cond.instantiable q.1.cls q.2 ∈ tables_1 ∧ Cond.privateMethod q.1 ∈ tables_1 ∧ Cond.instanceMethod q.1 ∈ tables_1
theorem lw_p0 : lw_okq (⟨"SnoopingCores", "hasCore", "(I)Z"⟩, 4) := ⟨⟨by decide +kernel, by decide +kernel⟩, List.mem_of_getElem? (i := 10) (by decide +kernel), List.mem_of_getElem? (i := 179) (by decide +kernel), List.mem_of_getElem? (i := 180) (by decide +kernel)⟩
theorem lw_p1 : lw_okq (⟨"SnoopingCores$Core", "tryInstruction", "(I)V"⟩, 10) := ⟨⟨by decide +kernel, by decide +kernel⟩, List.mem_of_getElem? (i := 46) (by decide +kernel), List.mem_of_getElem? (i := 204) (by decide +kernel), List.mem_of_getElem? (i := 205) (by decide +kernel)⟩
theorem lw_p2 : lw_okq (⟨"SnoopingCores$Core", "finish", "(I)V"⟩, 10) := ⟨⟨by decide +kernel, by decide +kernel⟩, List.mem_of_getElem? (i := 46) (by decide +kernel), List.mem_of_getElem? (i := 223) (by decide +kernel), List.mem_of_getElem? (i := 224) (by decide +kernel)⟩
theorem lw_p3 : lw_okq (⟨"SnoopingCores$Core", "answer", "(II)V"⟩, 10) := ⟨⟨by decide +kernel, by decide +kernel⟩, List.mem_of_getElem? (i := 46) (by decide +kernel), List.mem_of_getElem? (i := 227) (by decide +kernel), List.mem_of_getElem? (i := 228) (by decide +kernel)⟩
theorem lw_p4 : lw_okq (⟨"SnoopingCores$Core", "tryAccess", "(II)V"⟩, 10) := ⟨⟨by decide +kernel, by decide +kernel⟩, List.mem_of_getElem? (i := 46) (by decide +kernel), List.mem_of_getElem? (i := 231) (by decide +kernel), List.mem_of_getElem? (i := 232) (by decide +kernel)⟩
theorem lw_p5 : lw_okq (⟨"SnoopingCores$Core", "access", "(ILSnoopingCores$Slot;I)V"⟩, 10) := ⟨⟨by decide +kernel, by decide +kernel⟩, List.mem_of_getElem? (i := 46) (by decide +kernel), List.mem_of_getElem? (i := 260) (by decide +kernel), List.mem_of_getElem? (i := 261) (by decide +kernel)⟩
theorem lw_p6 : lw_okq (⟨"SnoopingCores$Core", "ask", "(II)V"⟩, 10) := ⟨⟨by decide +kernel, by decide +kernel⟩, List.mem_of_getElem? (i := 46) (by decide +kernel), List.mem_of_getElem? (i := 268) (by decide +kernel), List.mem_of_getElem? (i := 269) (by decide +kernel)⟩
theorem lw_p7 : lw_okq (⟨"SnoopingCores$Bus", "lowestWithRequest", "()I"⟩, 9) := ⟨⟨by decide +kernel, by decide +kernel⟩, List.mem_of_getElem? (i := 123) (by decide +kernel), List.mem_of_getElem? (i := 280) (by decide +kernel), List.mem_of_getElem? (i := 281) (by decide +kernel)⟩
theorem lw_p8 : lw_okq (⟨"SnoopingCores$Bus", "phaseAfter", "(ILSnoopingCores$Core;)I"⟩, 9) := ⟨⟨by decide +kernel, by decide +kernel⟩, List.mem_of_getElem? (i := 123) (by decide +kernel), List.mem_of_getElem? (i := 285) (by decide +kernel), List.mem_of_getElem? (i := 286) (by decide +kernel)⟩
theorem lw_p9 : lw_okq (⟨"SnoopingCores$Bus", "mustWriteBack", "(LSnoopingCores$Slot;)Z"⟩, 9) := ⟨⟨by decide +kernel, by decide +kernel⟩, List.mem_of_getElem? (i := 123) (by decide +kernel), List.mem_of_getElem? (i := 290) (by decide +kernel), List.mem_of_getElem? (i := 291) (by decide +kernel)⟩
theorem lw_p10 : lw_okq (⟨"SnoopingCores$Bus", "begin", "(LSnoopingCores$Core;)V"⟩, 9) := ⟨⟨by decide +kernel, by decide +kernel⟩, List.mem_of_getElem? (i := 123) (by decide +kernel), List.mem_of_getElem? (i := 298) (by decide +kernel), List.mem_of_getElem? (i := 299) (by decide +kernel)⟩
theorem lw_p11 : lw_okq (⟨"SnoopingCores$Bus", "snoop", "()V"⟩, 9) := ⟨⟨by decide +kernel, by decide +kernel⟩, List.mem_of_getElem? (i := 123) (by decide +kernel), List.mem_of_getElem? (i := 314) (by decide +kernel), List.mem_of_getElem? (i := 315) (by decide +kernel)⟩
theorem lw_p12 : lw_okq (⟨"SnoopingCores$Bus", "lookOn", "(LSnoopingCores$Slot;)V"⟩, 9) := ⟨⟨by decide +kernel, by decide +kernel⟩, List.mem_of_getElem? (i := 123) (by decide +kernel), List.mem_of_getElem? (i := 323) (by decide +kernel), List.mem_of_getElem? (i := 324) (by decide +kernel)⟩
theorem lw_p13 : lw_okq (⟨"SnoopingCores$Bus", "supply", "(LSnoopingCores$Core;)V"⟩, 9) := ⟨⟨by decide +kernel, by decide +kernel⟩, List.mem_of_getElem? (i := 123) (by decide +kernel), List.mem_of_getElem? (i := 332) (by decide +kernel), List.mem_of_getElem? (i := 333) (by decide +kernel)⟩
theorem lw_p14 : lw_okq (⟨"SnoopingCores$Bus", "end", "()V"⟩, 9) := ⟨⟨by decide +kernel, by decide +kernel⟩, List.mem_of_getElem? (i := 123) (by decide +kernel), List.mem_of_getElem? (i := 341) (by decide +kernel), List.mem_of_getElem? (i := 342) (by decide +kernel)⟩
theorem lw_p15 : lw_okq (⟨"SnoopingCores", "hasSlot", "(II)Z"⟩, 4) := ⟨⟨by decide +kernel, by decide +kernel⟩, List.mem_of_getElem? (i := 10) (by decide +kernel), List.mem_of_getElem? (i := 349) (by decide +kernel), List.mem_of_getElem? (i := 350) (by decide +kernel)⟩
def lw_privs_1 : List (MethodName × Nat) := [(⟨"SnoopingCores", "hasCore", "(I)Z"⟩, 4), (⟨"SnoopingCores$Core", "tryInstruction", "(I)V"⟩, 10), (⟨"SnoopingCores$Core", "finish", "(I)V"⟩, 10), (⟨"SnoopingCores$Core", "answer", "(II)V"⟩, 10), (⟨"SnoopingCores$Core", "tryAccess", "(II)V"⟩, 10), (⟨"SnoopingCores$Core", "access", "(ILSnoopingCores$Slot;I)V"⟩, 10), (⟨"SnoopingCores$Core", "ask", "(II)V"⟩, 10), (⟨"SnoopingCores$Bus", "lowestWithRequest", "()I"⟩, 9), (⟨"SnoopingCores$Bus", "phaseAfter", "(ILSnoopingCores$Core;)I"⟩, 9), (⟨"SnoopingCores$Bus", "mustWriteBack", "(LSnoopingCores$Slot;)Z"⟩, 9), (⟨"SnoopingCores$Bus", "begin", "(LSnoopingCores$Core;)V"⟩, 9), (⟨"SnoopingCores$Bus", "snoop", "()V"⟩, 9), (⟨"SnoopingCores$Bus", "lookOn", "(LSnoopingCores$Slot;)V"⟩, 9), (⟨"SnoopingCores$Bus", "supply", "(LSnoopingCores$Core;)V"⟩, 9), (⟨"SnoopingCores$Bus", "end", "()V"⟩, 9), (⟨"SnoopingCores", "hasSlot", "(II)Z"⟩, 4)]
theorem lw_r1 : ∀ q ∈ lw_privs_1, lw_okq q := List.forall_mem_cons.mpr ⟨lw_p0, List.forall_mem_cons.mpr ⟨lw_p1, List.forall_mem_cons.mpr ⟨lw_p2, List.forall_mem_cons.mpr ⟨lw_p3, List.forall_mem_cons.mpr ⟨lw_p4, List.forall_mem_cons.mpr ⟨lw_p5, List.forall_mem_cons.mpr ⟨lw_p6, List.forall_mem_cons.mpr ⟨lw_p7, List.forall_mem_cons.mpr ⟨lw_p8, List.forall_mem_cons.mpr ⟨lw_p9, List.forall_mem_cons.mpr ⟨lw_p10, List.forall_mem_cons.mpr ⟨lw_p11, List.forall_mem_cons.mpr ⟨lw_p12, List.forall_mem_cons.mpr ⟨lw_p13, List.forall_mem_cons.mpr ⟨lw_p14, List.forall_mem_cons.mpr ⟨lw_p15, fun _ h => absurd h List.not_mem_nil⟩⟩⟩⟩⟩⟩⟩⟩⟩⟩⟩⟩⟩⟩⟩⟩
theorem lw_p16 : lw_okq (⟨"SnoopingCoresModel", "isCpu", "(I)Z"⟩, 24) := ⟨⟨by decide +kernel, by decide +kernel⟩, List.mem_of_getElem? (i := 391) (by decide +kernel), List.mem_of_getElem? (i := 477) (by decide +kernel), List.mem_of_getElem? (i := 478) (by decide +kernel)⟩
theorem lw_p17 : lw_okq (⟨"SnoopingCoresModel", "isAddress", "(I)Z"⟩, 24) := ⟨⟨by decide +kernel, by decide +kernel⟩, List.mem_of_getElem? (i := 391) (by decide +kernel), List.mem_of_getElem? (i := 485) (by decide +kernel), List.mem_of_getElem? (i := 486) (by decide +kernel)⟩
theorem lw_p18 : lw_okq (⟨"SnoopingCoresModel", "answer", "(I)I"⟩, 24) := ⟨⟨by decide +kernel, by decide +kernel⟩, List.mem_of_getElem? (i := 391) (by decide +kernel), List.mem_of_getElem? (i := 493) (by decide +kernel), List.mem_of_getElem? (i := 494) (by decide +kernel)⟩
theorem lw_p19 : lw_okq (⟨"SnoopingCoresModel", "trap", "(I)I"⟩, 24) := ⟨⟨by decide +kernel, by decide +kernel⟩, List.mem_of_getElem? (i := 391) (by decide +kernel), List.mem_of_getElem? (i := 497) (by decide +kernel), List.mem_of_getElem? (i := 498) (by decide +kernel)⟩
theorem lw_p20 : lw_okq (⟨"SnoopingCoresModel", "done", "(II)I"⟩, 24) := ⟨⟨by decide +kernel, by decide +kernel⟩, List.mem_of_getElem? (i := 391) (by decide +kernel), List.mem_of_getElem? (i := 501) (by decide +kernel), List.mem_of_getElem? (i := 502) (by decide +kernel)⟩
theorem lw_p21 : lw_okq (⟨"SnoopingCoresModel", "move", "(IIIII)I"⟩, 24) := ⟨⟨by decide +kernel, by decide +kernel⟩, List.mem_of_getElem? (i := 391) (by decide +kernel), List.mem_of_getElem? (i := 505) (by decide +kernel), List.mem_of_getElem? (i := 506) (by decide +kernel)⟩
theorem lw_p22 : lw_okq (⟨"SnoopingCoresModel", "stateOf", "(II)I"⟩, 24) := ⟨⟨by decide +kernel, by decide +kernel⟩, List.mem_of_getElem? (i := 391) (by decide +kernel), List.mem_of_getElem? (i := 509) (by decide +kernel), List.mem_of_getElem? (i := 510) (by decide +kernel)⟩
theorem lw_p23 : lw_okq (⟨"SnoopingCoresModel", "slotOf", "(II)I"⟩, 24) := ⟨⟨by decide +kernel, by decide +kernel⟩, List.mem_of_getElem? (i := 391) (by decide +kernel), List.mem_of_getElem? (i := 513) (by decide +kernel), List.mem_of_getElem? (i := 514) (by decide +kernel)⟩
theorem lw_p24 : lw_okq (⟨"SnoopingCoresModel", "take", "()I"⟩, 24) := ⟨⟨by decide +kernel, by decide +kernel⟩, List.mem_of_getElem? (i := 391) (by decide +kernel), List.mem_of_getElem? (i := 521) (by decide +kernel), List.mem_of_getElem? (i := 522) (by decide +kernel)⟩
theorem lw_p25 : lw_okq (⟨"SnoopingCoresModel", "phase", "(I)I"⟩, 24) := ⟨⟨by decide +kernel, by decide +kernel⟩, List.mem_of_getElem? (i := 391) (by decide +kernel), List.mem_of_getElem? (i := 525) (by decide +kernel), List.mem_of_getElem? (i := 526) (by decide +kernel)⟩
theorem lw_p26 : lw_okq (⟨"SnoopingCoresModel", "supply", "()I"⟩, 24) := ⟨⟨by decide +kernel, by decide +kernel⟩, List.mem_of_getElem? (i := 391) (by decide +kernel), List.mem_of_getElem? (i := 529) (by decide +kernel), List.mem_of_getElem? (i := 530) (by decide +kernel)⟩
theorem lw_p27 : lw_okq (⟨"SnoopingCoresModel", "writeBack", "(I)V"⟩, 24) := ⟨⟨by decide +kernel, by decide +kernel⟩, List.mem_of_getElem? (i := 391) (by decide +kernel), List.mem_of_getElem? (i := 536) (by decide +kernel), List.mem_of_getElem? (i := 537) (by decide +kernel)⟩
theorem lw_p28 : lw_okq (⟨"SnoopingCoresModel", "empty", "(I)V"⟩, 24) := ⟨⟨by decide +kernel, by decide +kernel⟩, List.mem_of_getElem? (i := 391) (by decide +kernel), List.mem_of_getElem? (i := 540) (by decide +kernel), List.mem_of_getElem? (i := 541) (by decide +kernel)⟩
theorem lw_p29 : lw_okq (⟨"SnoopingCoresModel", "snoop", "()I"⟩, 24) := ⟨⟨by decide +kernel, by decide +kernel⟩, List.mem_of_getElem? (i := 391) (by decide +kernel), List.mem_of_getElem? (i := 544) (by decide +kernel), List.mem_of_getElem? (i := 545) (by decide +kernel)⟩
def lw_privs_2 : List (MethodName × Nat) := [(⟨"SnoopingCoresModel", "isCpu", "(I)Z"⟩, 24), (⟨"SnoopingCoresModel", "isAddress", "(I)Z"⟩, 24), (⟨"SnoopingCoresModel", "answer", "(I)I"⟩, 24), (⟨"SnoopingCoresModel", "trap", "(I)I"⟩, 24), (⟨"SnoopingCoresModel", "done", "(II)I"⟩, 24), (⟨"SnoopingCoresModel", "move", "(IIIII)I"⟩, 24), (⟨"SnoopingCoresModel", "stateOf", "(II)I"⟩, 24), (⟨"SnoopingCoresModel", "slotOf", "(II)I"⟩, 24), (⟨"SnoopingCoresModel", "take", "()I"⟩, 24), (⟨"SnoopingCoresModel", "phase", "(I)I"⟩, 24), (⟨"SnoopingCoresModel", "supply", "()I"⟩, 24), (⟨"SnoopingCoresModel", "writeBack", "(I)V"⟩, 24), (⟨"SnoopingCoresModel", "empty", "(I)V"⟩, 24), (⟨"SnoopingCoresModel", "snoop", "()I"⟩, 24)]
theorem lw_r2 : ∀ q ∈ lw_privs_2, lw_okq q := List.forall_mem_cons.mpr ⟨lw_p16, List.forall_mem_cons.mpr ⟨lw_p17, List.forall_mem_cons.mpr ⟨lw_p18, List.forall_mem_cons.mpr ⟨lw_p19, List.forall_mem_cons.mpr ⟨lw_p20, List.forall_mem_cons.mpr ⟨lw_p21, List.forall_mem_cons.mpr ⟨lw_p22, List.forall_mem_cons.mpr ⟨lw_p23, List.forall_mem_cons.mpr ⟨lw_p24, List.forall_mem_cons.mpr ⟨lw_p25, List.forall_mem_cons.mpr ⟨lw_p26, List.forall_mem_cons.mpr ⟨lw_p27, List.forall_mem_cons.mpr ⟨lw_p28, List.forall_mem_cons.mpr ⟨lw_p29, fun _ h => absurd h List.not_mem_nil⟩⟩⟩⟩⟩⟩⟩⟩⟩⟩⟩⟩⟩⟩
def lw_privs : List (MethodName × Nat) := lw_privs_1 ++ (lw_privs_2)
def lw_tbl : List Cond := k2_sels lw_privs ++ tables_1
theorem lw_privs_ok : ∀ q ∈ lw_privs, lw_okq q := by
  show ∀ q ∈ lw_privs_1 ++ (lw_privs_2), lw_okq q
  exact List.forall_mem_append.mpr ⟨lw_r1, lw_r2⟩
-- ===== end of PART A; then your names; then what follows =====
end
section
/-! Names, fields, methods (laid by wip/whole/gen/build.py out of the Statement). -/
def RX0 : String := "SnoopingCores$Bus"
def TX0 : u_T := fun k => match k with
  | 0 => ("SnoopingCores$Bus", "cores", "[LSnoopingCores$Core;", true)
  | 1 => ("SnoopingCores$Bus", "mainMemory", "LSnoopingCores$Memory;", true)
  | 2 => ("SnoopingCores$Bus", "phasesDone", "[I", true)
  | 3 => ("SnoopingCores$Bus", "kept", "[I", true)
  | 4 => ("SnoopingCores$Bus", "anotherHadIt", "Z", false)
  | 5 => ("SnoopingCores$Bus", "phase", "I", false)
  | 6 => ("SnoopingCores$Bus", "asker", "I", false)
  | 7 => ("SnoopingCores$Bus", "request", "I", false)
  | _ => ("SnoopingCores$Bus", "line", "I", false)
def tyX0 : Nat → FieldType := fun k => match k with
  | 0 => .array (.object "SnoopingCores$Core")
  | 1 => .object "SnoopingCores$Memory"
  | 2 => .array .int
  | 3 => .array .int
  | 4 => .boolean
  | 5 => .int
  | 6 => .int
  | 7 => .int
  | _ => .int
theorem nmX0 : ∀ a, a < 9 → ∀ b, b < 9 → a ≠ b → (TX0 a).2.1 ≠ (TX0 b).2.1 := by decide +kernel
theorem tyX0_ok : ∀ k, k < 9 → parseFieldDescriptor (TX0 k).2.2.1 = some (tyX0 k) := by decide +kernel
def RX1 : String := "SnoopingCores$Core"
def TX1 : u_T := fun k => match k with
  | 0 => ("SnoopingCores$Core", "number", "I", true)
  | 1 => ("SnoopingCores$Core", "mainMemory", "LSnoopingCores$Memory;", true)
  | 2 => ("SnoopingCores$Core", "code", "[I", true)
  | 3 => ("SnoopingCores$Core", "registers", "[I", true)
  | 4 => ("SnoopingCores$Core", "slots", "[LSnoopingCores$Slot;", true)
  | 5 => ("SnoopingCores$Core", "place", "I", false)
  | 6 => ("SnoopingCores$Core", "status", "I", false)
  | 7 => ("SnoopingCores$Core", "done", "I", false)
  | 8 => ("SnoopingCores$Core", "request", "I", false)
  | _ => ("SnoopingCores$Core", "requestLine", "I", false)
def tyX1 : Nat → FieldType := fun k => match k with
  | 0 => .int
  | 1 => .object "SnoopingCores$Memory"
  | 2 => .array .int
  | 3 => .array .int
  | 4 => .array (.object "SnoopingCores$Slot")
  | 5 => .int
  | 6 => .int
  | 7 => .int
  | 8 => .int
  | _ => .int
theorem nmX1 : ∀ a, a < 10 → ∀ b, b < 10 → a ≠ b → (TX1 a).2.1 ≠ (TX1 b).2.1 := by decide +kernel
theorem tyX1_ok : ∀ k, k < 10 → parseFieldDescriptor (TX1 k).2.2.1 = some (tyX1 k) := by decide +kernel
def RX2 : String := "SnoopingCores$Memory"
def TX2 : u_T := fun k => match k with
  | 0 => ("SnoopingCores$Memory", "width", "I", true)
  | _ => ("SnoopingCores$Memory", "words", "[I", true)
def tyX2 : Nat → FieldType := fun k => match k with
  | 0 => .int
  | _ => .array .int
theorem nmX2 : ∀ a, a < 2 → ∀ b, b < 2 → a ≠ b → (TX2 a).2.1 ≠ (TX2 b).2.1 := by decide +kernel
theorem tyX2_ok : ∀ k, k < 2 → parseFieldDescriptor (TX2 k).2.2.1 = some (tyX2 k) := by decide +kernel
def RX3 : String := "SnoopingCores$Slot"
def TX3 : u_T := fun k => match k with
  | 0 => ("SnoopingCores$Slot", "words", "[I", true)
  | 1 => ("SnoopingCores$Slot", "state", "I", false)
  | _ => ("SnoopingCores$Slot", "line", "I", false)
def tyX3 : Nat → FieldType := fun k => match k with
  | 0 => .array .int
  | 1 => .int
  | _ => .int
theorem nmX3 : ∀ a, a < 3 → ∀ b, b < 3 → a ≠ b → (TX3 a).2.1 ≠ (TX3 b).2.1 := by decide +kernel
theorem tyX3_ok : ∀ k, k < 3 → parseFieldDescriptor (TX3 k).2.2.1 = some (tyX3 k) := by decide +kernel
def RX4 : String := "SnoopingCores"
def TX4 : u_T := fun k => match k with
  | 0 => ("SnoopingCores", "mainMemory", "LSnoopingCores$Memory;", true)
  | 1 => ("SnoopingCores", "cores", "[LSnoopingCores$Core;", true)
  | 2 => ("SnoopingCores", "bus", "LSnoopingCores$Bus;", true)
  | _ => ("SnoopingCores", "stepped", "Z", false)
def tyX4 : Nat → FieldType := fun k => match k with
  | 0 => .object "SnoopingCores$Memory"
  | 1 => .array (.object "SnoopingCores$Core")
  | 2 => .object "SnoopingCores$Bus"
  | _ => .boolean
theorem nmX4 : ∀ a, a < 4 → ∀ b, b < 4 → a ≠ b → (TX4 a).2.1 ≠ (TX4 b).2.1 := by decide +kernel
theorem tyX4_ok : ∀ k, k < 4 → parseFieldDescriptor (TX4 k).2.2.1 = some (tyX4 k) := by decide +kernel
def RX5 : String := "SnoopingCoresModel"
def TX5 : u_T := fun k => match k with
  | 0 => ("SnoopingCoresModel", "cpus", "I", false)
  | 1 => ("SnoopingCoresModel", "slots", "I", false)
  | 2 => ("SnoopingCoresModel", "width", "I", false)
  | 3 => ("SnoopingCoresModel", "size", "I", false)
  | 4 => ("SnoopingCoresModel", "length", "I", false)
  | 5 => ("SnoopingCoresModel", "memory", "[I", false)
  | 6 => ("SnoopingCoresModel", "code", "[I", false)
  | 7 => ("SnoopingCoresModel", "stepped", "Z", false)
  | 8 => ("SnoopingCoresModel", "register", "[I", false)
  | 9 => ("SnoopingCoresModel", "place", "[I", false)
  | 10 => ("SnoopingCoresModel", "status", "[I", false)
  | 11 => ("SnoopingCoresModel", "did", "[I", false)
  | 12 => ("SnoopingCoresModel", "request", "[I", false)
  | 13 => ("SnoopingCoresModel", "wanted", "[I", false)
  | 14 => ("SnoopingCoresModel", "state", "[I", false)
  | 15 => ("SnoopingCoresModel", "line", "[I", false)
  | 16 => ("SnoopingCoresModel", "words", "[I", false)
  | 17 => ("SnoopingCoresModel", "phase", "I", false)
  | 18 => ("SnoopingCoresModel", "mover", "I", false)
  | 19 => ("SnoopingCoresModel", "kind", "I", false)
  | 20 => ("SnoopingCoresModel", "moved", "I", false)
  | 21 => ("SnoopingCoresModel", "others", "Z", false)
  | 22 => ("SnoopingCoresModel", "kept", "[I", false)
  | _ => ("SnoopingCoresModel", "phases", "[I", false)
def tyX5 : Nat → FieldType := fun k => match k with
  | 0 => .int
  | 1 => .int
  | 2 => .int
  | 3 => .int
  | 4 => .int
  | 5 => .array .int
  | 6 => .array .int
  | 7 => .boolean
  | 8 => .array .int
  | 9 => .array .int
  | 10 => .array .int
  | 11 => .array .int
  | 12 => .array .int
  | 13 => .array .int
  | 14 => .array .int
  | 15 => .array .int
  | 16 => .array .int
  | 17 => .int
  | 18 => .int
  | 19 => .int
  | 20 => .int
  | 21 => .boolean
  | 22 => .array .int
  | _ => .array .int
theorem nmX5 : ∀ a, a < 24 → ∀ b, b < 24 → a ≠ b → (TX5 a).2.1 ≠ (TX5 b).2.1 := by decide +kernel
theorem tyX5_ok : ∀ k, k < 24 → parseFieldDescriptor (TX5 k).2.2.1 = some (tyX5 k) := by decide +kernel
def RL : String := "SnoopingCoresLaw"
abbrev cX4_init : ByteArray := prog_1_method_1_code
def yX4_init : MethodName := ⟨RX4, "<init>", "(IIIII)V"⟩
abbrev cX4_limited : ByteArray := prog_1_method_16_code
def yX4_limited : MethodName := ⟨RX4, "limited", "(III)I"⟩
abbrev cX2_init : ByteArray := prog_4_method_1_code
def yX2_init : MethodName := ⟨RX2, "<init>", "(II)V"⟩
abbrev cX1_init : ByteArray := prog_3_method_1_code
def yX1_init : MethodName := ⟨RX1, "<init>", "(IIILSnoopingCores$Memory;)V"⟩
abbrev cX3_init : ByteArray := prog_5_method_1_code
def yX3_init : MethodName := ⟨RX3, "<init>", "(I)V"⟩
abbrev cX0_init : ByteArray := prog_2_method_1_code
def yX0_init : MethodName := ⟨RX0, "<init>", "([LSnoopingCores$Core;LSnoopingCores$Memory;)V"⟩
abbrev cX4_load : ByteArray := prog_1_method_2_code
def yX4_load : MethodName := ⟨RX4, "load", "(III)Z"⟩
abbrev cX4_hasCore : ByteArray := prog_1_method_13_code
def yX4_hasCore : MethodName := ⟨RX4, "hasCore", "(I)Z"⟩
abbrev cX4_within : ByteArray := prog_1_method_15_code
def yX4_within : MethodName := ⟨RX4, "within", "(II)Z"⟩
abbrev cX4_poke : ByteArray := prog_1_method_3_code
def yX4_poke : MethodName := ⟨RX4, "poke", "(II)Z"⟩
abbrev cX2_has : ByteArray := prog_4_method_2_code
def yX2_has : MethodName := ⟨RX2, "has", "(I)Z"⟩
abbrev cX4_step : ByteArray := prog_1_method_4_code
def yX4_step : MethodName := ⟨RX4, "step", "(I)I"⟩
abbrev cX1_goOn : ByteArray := prog_3_method_4_code
def yX1_goOn : MethodName := ⟨RX1, "goOn", "()V"⟩
abbrev cX1_tryInstruction : ByteArray := prog_3_method_5_code
def yX1_tryInstruction : MethodName := ⟨RX1, "tryInstruction", "(I)V"⟩
abbrev cX1_fieldA : ByteArray := prog_3_method_13_code
def yX1_fieldA : MethodName := ⟨RX1, "fieldA", "(I)I"⟩
abbrev cX1_fieldB : ByteArray := prog_3_method_14_code
def yX1_fieldB : MethodName := ⟨RX1, "fieldB", "(I)I"⟩
abbrev cX1_fieldC : ByteArray := prog_3_method_15_code
def yX1_fieldC : MethodName := ⟨RX1, "fieldC", "(I)I"⟩
abbrev cX1_fieldN : ByteArray := prog_3_method_16_code
def yX1_fieldN : MethodName := ⟨RX1, "fieldN", "(I)I"⟩
abbrev cX1_operation : ByteArray := prog_3_method_12_code
def yX1_operation : MethodName := ⟨RX1, "operation", "(I)I"⟩
abbrev cX1_finish : ByteArray := prog_3_method_11_code
def yX1_finish : MethodName := ⟨RX1, "finish", "(I)V"⟩
abbrev cX1_answer : ByteArray := prog_3_method_10_code
def yX1_answer : MethodName := ⟨RX1, "answer", "(II)V"⟩
abbrev cX1_tryAccess : ByteArray := prog_3_method_6_code
def yX1_tryAccess : MethodName := ⟨RX1, "tryAccess", "(II)V"⟩
abbrev cX2_lineOf : ByteArray := prog_4_method_3_code
def yX2_lineOf : MethodName := ⟨RX2, "lineOf", "(I)I"⟩
abbrev cX1_slotFor : ByteArray := prog_3_method_3_code
def yX1_slotFor : MethodName := ⟨RX1, "slotFor", "(I)LSnoopingCores$Slot;"⟩
abbrev cX1_indexFor : ByteArray := prog_3_method_2_code
def yX1_indexFor : MethodName := ⟨RX1, "indexFor", "(I)I"⟩
abbrev cX3_holds : ByteArray := prog_5_method_2_code
def yX3_holds : MethodName := ⟨RX3, "holds", "(I)Z"⟩
abbrev cX3_maySetWords : ByteArray := prog_5_method_4_code
def yX3_maySetWords : MethodName := ⟨RX3, "maySetWords", "()Z"⟩
abbrev cX2_offsetOf : ByteArray := prog_4_method_4_code
def yX2_offsetOf : MethodName := ⟨RX2, "offsetOf", "(I)I"⟩
abbrev cX1_access : ByteArray := prog_3_method_7_code
def yX1_access : MethodName := ⟨RX1, "access", "(ILSnoopingCores$Slot;I)V"⟩
abbrev cX3_setWord : ByteArray := prog_5_method_5_code
def yX3_setWord : MethodName := ⟨RX3, "setWord", "(II)V"⟩
abbrev cX1_ask : ByteArray := prog_3_method_8_code
def yX1_ask : MethodName := ⟨RX1, "ask", "(II)V"⟩
abbrev cX4_bus : ByteArray := prog_1_method_5_code
def yX4_bus : MethodName := ⟨RX4, "bus", "()I"⟩
abbrev cX0_doNextPhase : ByteArray := prog_2_method_3_code
def yX0_doNextPhase : MethodName := ⟨RX0, "doNextPhase", "()I"⟩
abbrev cX0_lowestWithRequest : ByteArray := prog_2_method_4_code
def yX0_lowestWithRequest : MethodName := ⟨RX0, "lowestWithRequest", "()I"⟩
abbrev cX0_phaseAfter : ByteArray := prog_2_method_5_code
def yX0_phaseAfter : MethodName := ⟨RX0, "phaseAfter", "(ILSnoopingCores$Core;)I"⟩
abbrev cX0_mustWriteBack : ByteArray := prog_2_method_6_code
def yX0_mustWriteBack : MethodName := ⟨RX0, "mustWriteBack", "(LSnoopingCores$Slot;)Z"⟩
abbrev cX3_isNewerThanMemory : ByteArray := prog_5_method_3_code
def yX3_isNewerThanMemory : MethodName := ⟨RX3, "isNewerThanMemory", "()Z"⟩
abbrev cX0_begin : ByteArray := prog_2_method_7_code
def yX0_begin : MethodName := ⟨RX0, "begin", "(LSnoopingCores$Core;)V"⟩
abbrev cX1_forgetRequest : ByteArray := prog_3_method_9_code
def yX1_forgetRequest : MethodName := ⟨RX1, "forgetRequest", "()V"⟩
abbrev cX2_giveUp : ByteArray := prog_4_method_6_code
def yX2_giveUp : MethodName := ⟨RX2, "giveUp", "(LSnoopingCores$Slot;)V"⟩
abbrev cX0_snoop : ByteArray := prog_2_method_8_code
def yX0_snoop : MethodName := ⟨RX0, "snoop", "()V"⟩
abbrev cX2_readLine : ByteArray := prog_4_method_5_code
def yX2_readLine : MethodName := ⟨RX2, "readLine", "(I[I)V"⟩
abbrev cX0_lookOn : ByteArray := prog_2_method_9_code
def yX0_lookOn : MethodName := ⟨RX0, "lookOn", "(LSnoopingCores$Slot;)V"⟩
abbrev cX3_letOthersRead : ByteArray := prog_5_method_7_code
def yX3_letOthersRead : MethodName := ⟨RX3, "letOthersRead", "()V"⟩
abbrev cX0_supply : ByteArray := prog_2_method_10_code
def yX0_supply : MethodName := ⟨RX0, "supply", "(LSnoopingCores$Core;)V"⟩
abbrev cX3_take : ByteArray := prog_5_method_6_code
def yX3_take : MethodName := ⟨RX3, "take", "(I[I)V"⟩
abbrev cX0_end : ByteArray := prog_2_method_11_code
def yX0_end : MethodName := ⟨RX0, "end", "()V"⟩
abbrev cX4_evict : ByteArray := prog_1_method_6_code
def yX4_evict : MethodName := ⟨RX4, "evict", "(II)I"⟩
abbrev cX4_hasSlot : ByteArray := prog_1_method_14_code
def yX4_hasSlot : MethodName := ⟨RX4, "hasSlot", "(II)Z"⟩
abbrev cX0_needs : ByteArray := prog_2_method_2_code
def yX0_needs : MethodName := ⟨RX0, "needs", "(II)Z"⟩
abbrev cX4_register : ByteArray := prog_1_method_7_code
def yX4_register : MethodName := ⟨RX4, "register", "(II)I"⟩
abbrev cX4_cpu : ByteArray := prog_1_method_8_code
def yX4_cpu : MethodName := ⟨RX4, "cpu", "(II)I"⟩
abbrev cX4_slot : ByteArray := prog_1_method_9_code
def yX4_slot : MethodName := ⟨RX4, "slot", "(III)I"⟩
abbrev cX4_peek : ByteArray := prog_1_method_10_code
def yX4_peek : MethodName := ⟨RX4, "peek", "(I)I"⟩
abbrev cX4_memory : ByteArray := prog_1_method_11_code
def yX4_memory : MethodName := ⟨RX4, "memory", "(I)I"⟩
abbrev cX4_state : ByteArray := prog_1_method_12_code
def yX4_state : MethodName := ⟨RX4, "state", "(I)I"⟩
abbrev cL_cell : ByteArray := method_2_code
def yL_cell : MethodName := ⟨RL, "cell", "([II)I"⟩
abbrev cX5_init : ByteArray := prog_7_method_1_code
def yX5_init : MethodName := ⟨RX5, "<init>", "(IIIII)V"⟩
abbrev cX5_clamp : ByteArray := prog_7_method_2_code
def yX5_clamp : MethodName := ⟨RX5, "clamp", "(III)I"⟩
abbrev cX5_load : ByteArray := prog_7_method_5_code
def yX5_load : MethodName := ⟨RX5, "load", "(III)Z"⟩
abbrev cX5_isCpu : ByteArray := prog_7_method_3_code
def yX5_isCpu : MethodName := ⟨RX5, "isCpu", "(I)Z"⟩
abbrev cX5_poke : ByteArray := prog_7_method_6_code
def yX5_poke : MethodName := ⟨RX5, "poke", "(II)Z"⟩
abbrev cX5_isAddress : ByteArray := prog_7_method_4_code
def yX5_isAddress : MethodName := ⟨RX5, "isAddress", "(I)Z"⟩
abbrev cX5_step : ByteArray := prog_7_method_16_code
def yX5_step : MethodName := ⟨RX5, "step", "(I)I"⟩
abbrev cX5_answer : ByteArray := prog_7_method_13_code
def yX5_answer : MethodName := ⟨RX5, "answer", "(I)I"⟩
abbrev cX5_trap : ByteArray := prog_7_method_12_code
def yX5_trap : MethodName := ⟨RX5, "trap", "(I)I"⟩
abbrev cX5_done : ByteArray := prog_7_method_14_code
def yX5_done : MethodName := ⟨RX5, "done", "(II)I"⟩
abbrev cX5_move : ByteArray := prog_7_method_15_code
def yX5_move : MethodName := ⟨RX5, "move", "(IIIII)I"⟩
abbrev cX5_stateOf : ByteArray := prog_7_method_8_code
def yX5_stateOf : MethodName := ⟨RX5, "stateOf", "(II)I"⟩
abbrev cX5_slotOf : ByteArray := prog_7_method_7_code
def yX5_slotOf : MethodName := ⟨RX5, "slotOf", "(II)I"⟩
abbrev cX5_bus : ByteArray := prog_7_method_21_code
def yX5_bus : MethodName := ⟨RX5, "bus", "()I"⟩
abbrev cX5_take : ByteArray := prog_7_method_18_code
def yX5_take : MethodName := ⟨RX5, "take", "()I"⟩
abbrev cX5_phase : ByteArray := prog_7_method_17_code
def yX5_phase : MethodName := ⟨RX5, "phase", "(I)I"⟩
abbrev cX5_supply : ByteArray := prog_7_method_20_code
def yX5_supply : MethodName := ⟨RX5, "supply", "()I"⟩
abbrev cX5_isDirty : ByteArray := prog_7_method_9_code
def yX5_isDirty : MethodName := ⟨RX5, "isDirty", "(I)Z"⟩
abbrev cX5_writeBack : ByteArray := prog_7_method_10_code
def yX5_writeBack : MethodName := ⟨RX5, "writeBack", "(I)V"⟩
abbrev cX5_empty : ByteArray := prog_7_method_11_code
def yX5_empty : MethodName := ⟨RX5, "empty", "(I)V"⟩
abbrev cX5_snoop : ByteArray := prog_7_method_19_code
def yX5_snoop : MethodName := ⟨RX5, "snoop", "()I"⟩
abbrev cX5_evict : ByteArray := prog_7_method_22_code
def yX5_evict : MethodName := ⟨RX5, "evict", "(II)I"⟩
abbrev cX5_register : ByteArray := prog_7_method_23_code
def yX5_register : MethodName := ⟨RX5, "register", "(II)I"⟩
abbrev cX5_cpu : ByteArray := prog_7_method_24_code
def yX5_cpu : MethodName := ⟨RX5, "cpu", "(II)I"⟩
abbrev cX5_slot : ByteArray := prog_7_method_25_code
def yX5_slot : MethodName := ⟨RX5, "slot", "(III)I"⟩
abbrev cX5_peek : ByteArray := prog_7_method_26_code
def yX5_peek : MethodName := ⟨RX5, "peek", "(I)I"⟩
abbrev cX5_memory : ByteArray := prog_7_method_27_code
def yX5_memory : MethodName := ⟨RX5, "memory", "(I)I"⟩
abbrev cX5_state : ByteArray := prog_7_method_28_code
def yX5_state : MethodName := ⟨RX5, "state", "(I)I"⟩
abbrev cL_law : ByteArray := code
def yL_law : MethodName := ⟨RL, "law", "([I)Z"⟩
theorem dX2_init_0 : decode cX2_init 0 = .ok (.aload_n 0, 1) := by decide +kernel
theorem dX2_init_1 : decode cX2_init 1 = .ok (.invokespecial 3, 3) := by decide +kernel
theorem dX2_init_4 : decode cX2_init 4 = .ok (.aload_n 0, 1) := by decide +kernel
theorem dX2_init_5 : decode cX2_init 5 = .ok (.iload_n 1, 1) := by decide +kernel
theorem dX2_init_6 : decode cX2_init 6 = .ok (.putfield 9, 3) := by decide +kernel
theorem dX2_init_9 : decode cX2_init 9 = .ok (.aload_n 0, 1) := by decide +kernel
theorem dX2_init_10 : decode cX2_init 10 = .ok (.iload_n 2, 1) := by decide +kernel
theorem dX2_init_11 : decode cX2_init 11 = .ok (.iload_n 2, 1) := by decide +kernel
theorem dX2_init_12 : decode cX2_init 12 = .ok (.iload_n 1, 1) := by decide +kernel
theorem dX2_init_13 : decode cX2_init 13 = .ok (.irem, 1) := by decide +kernel
theorem dX2_init_14 : decode cX2_init 14 = .ok (.isub, 1) := by decide +kernel
theorem dX2_init_15 : decode cX2_init 15 = .ok (.newarray .int, 2) := by decide +kernel
theorem dX2_init_17 : decode cX2_init 17 = .ok (.putfield 15, 3) := by decide +kernel
theorem dX2_init_20 : decode cX2_init 20 = .ok (.return_, 1) := by decide +kernel
theorem dX1_init_0 : decode cX1_init 0 = .ok (.aload_n 0, 1) := by decide +kernel
theorem dX1_init_1 : decode cX1_init 1 = .ok (.invokespecial 3, 3) := by decide +kernel
theorem dX1_init_4 : decode cX1_init 4 = .ok (.aload_n 0, 1) := by decide +kernel
theorem dX1_init_5 : decode cX1_init 5 = .ok (.iconst 4, 1) := by decide +kernel
theorem dX1_init_6 : decode cX1_init 6 = .ok (.newarray .int, 2) := by decide +kernel
theorem dX1_init_8 : decode cX1_init 8 = .ok (.putfield 9, 3) := by decide +kernel
theorem dX1_init_11 : decode cX1_init 11 = .ok (.aload_n 0, 1) := by decide +kernel
theorem dX1_init_12 : decode cX1_init 12 = .ok (.iconst 0, 1) := by decide +kernel
theorem dX1_init_13 : decode cX1_init 13 = .ok (.putfield 15, 3) := by decide +kernel
theorem dX1_init_16 : decode cX1_init 16 = .ok (.aload_n 0, 1) := by decide +kernel
theorem dX1_init_17 : decode cX1_init 17 = .ok (.iconst 0, 1) := by decide +kernel
theorem dX1_init_18 : decode cX1_init 18 = .ok (.putfield 19, 3) := by decide +kernel
theorem dX1_init_21 : decode cX1_init 21 = .ok (.aload_n 0, 1) := by decide +kernel
theorem dX1_init_22 : decode cX1_init 22 = .ok (.iconst 0, 1) := by decide +kernel
theorem dX1_init_23 : decode cX1_init 23 = .ok (.putfield 22, 3) := by decide +kernel
theorem dX1_init_26 : decode cX1_init 26 = .ok (.aload_n 0, 1) := by decide +kernel
theorem dX1_init_27 : decode cX1_init 27 = .ok (.iconst 0, 1) := by decide +kernel
theorem dX1_init_28 : decode cX1_init 28 = .ok (.putfield 25, 3) := by decide +kernel
theorem dX1_init_31 : decode cX1_init 31 = .ok (.aload_n 0, 1) := by decide +kernel
theorem dX1_init_32 : decode cX1_init 32 = .ok (.iconst (-1), 1) := by decide +kernel
theorem dX1_init_33 : decode cX1_init 33 = .ok (.putfield 28, 3) := by decide +kernel
theorem dX1_init_36 : decode cX1_init 36 = .ok (.aload_n 0, 1) := by decide +kernel
theorem dX1_init_37 : decode cX1_init 37 = .ok (.iload_n 1, 1) := by decide +kernel
theorem dX1_init_38 : decode cX1_init 38 = .ok (.putfield 31, 3) := by decide +kernel
theorem dX1_init_41 : decode cX1_init 41 = .ok (.aload_n 0, 1) := by decide +kernel
theorem dX1_init_42 : decode cX1_init 42 = .ok (.aload 4, 2) := by decide +kernel
theorem dX1_init_44 : decode cX1_init 44 = .ok (.putfield 34, 3) := by decide +kernel
theorem dX1_init_47 : decode cX1_init 47 = .ok (.aload_n 0, 1) := by decide +kernel
theorem dX1_init_48 : decode cX1_init 48 = .ok (.iload_n 3, 1) := by decide +kernel
theorem dX1_init_49 : decode cX1_init 49 = .ok (.newarray .int, 2) := by decide +kernel
theorem dX1_init_51 : decode cX1_init 51 = .ok (.putfield 38, 3) := by decide +kernel
theorem dX1_init_54 : decode cX1_init 54 = .ok (.aload_n 0, 1) := by decide +kernel
theorem dX1_init_55 : decode cX1_init 55 = .ok (.iload_n 2, 1) := by decide +kernel
theorem dX1_init_56 : decode cX1_init 56 = .ok (.anewarray 41, 3) := by decide +kernel
theorem dX1_init_59 : decode cX1_init 59 = .ok (.putfield 43, 3) := by decide +kernel
theorem dX1_init_62 : decode cX1_init 62 = .ok (.iconst 0, 1) := by decide +kernel
theorem dX1_init_63 : decode cX1_init 63 = .ok (.istore 5, 2) := by decide +kernel
theorem dX1_init_65 : decode cX1_init 65 = .ok (.iload 5, 2) := by decide +kernel
theorem dX1_init_67 : decode cX1_init 67 = .ok (.iload_n 2, 1) := by decide +kernel
theorem dX1_init_68 : decode cX1_init 68 = .ok (.if_icmp .ge 28, 3) := by decide +kernel
theorem dX1_init_71 : decode cX1_init 71 = .ok (.aload_n 0, 1) := by decide +kernel
theorem dX1_init_72 : decode cX1_init 72 = .ok (.getfield 43, 3) := by decide +kernel
theorem dX1_init_75 : decode cX1_init 75 = .ok (.iload 5, 2) := by decide +kernel
theorem dX1_init_77 : decode cX1_init 77 = .ok (.new 41, 3) := by decide +kernel
theorem dX1_init_80 : decode cX1_init 80 = .ok (.dup, 1) := by decide +kernel
theorem dX1_init_81 : decode cX1_init 81 = .ok (.aload 4, 2) := by decide +kernel
theorem dX1_init_83 : decode cX1_init 83 = .ok (.getfield 47, 3) := by decide +kernel
theorem dX1_init_86 : decode cX1_init 86 = .ok (.invokespecial 52, 3) := by decide +kernel
theorem dX1_init_89 : decode cX1_init 89 = .ok (.aastore, 1) := by decide +kernel
theorem dX1_init_90 : decode cX1_init 90 = .ok (.iinc 5 1, 3) := by decide +kernel
theorem dX1_init_93 : decode cX1_init 93 = .ok (.goto (-28), 3) := by decide +kernel
theorem dX1_init_96 : decode cX1_init 96 = .ok (.return_, 1) := by decide +kernel
theorem dX3_init_0 : decode cX3_init 0 = .ok (.aload_n 0, 1) := by decide +kernel
theorem dX3_init_1 : decode cX3_init 1 = .ok (.invokespecial 3, 3) := by decide +kernel
theorem dX3_init_4 : decode cX3_init 4 = .ok (.aload_n 0, 1) := by decide +kernel
theorem dX3_init_5 : decode cX3_init 5 = .ok (.iconst 0, 1) := by decide +kernel
theorem dX3_init_6 : decode cX3_init 6 = .ok (.putfield 9, 3) := by decide +kernel
theorem dX3_init_9 : decode cX3_init 9 = .ok (.aload_n 0, 1) := by decide +kernel
theorem dX3_init_10 : decode cX3_init 10 = .ok (.iconst (-1), 1) := by decide +kernel
theorem dX3_init_11 : decode cX3_init 11 = .ok (.putfield 15, 3) := by decide +kernel
theorem dX3_init_14 : decode cX3_init 14 = .ok (.aload_n 0, 1) := by decide +kernel
theorem dX3_init_15 : decode cX3_init 15 = .ok (.iload_n 1, 1) := by decide +kernel
theorem dX3_init_16 : decode cX3_init 16 = .ok (.newarray .int, 2) := by decide +kernel
theorem dX3_init_18 : decode cX3_init 18 = .ok (.putfield 18, 3) := by decide +kernel
theorem dX3_init_21 : decode cX3_init 21 = .ok (.return_, 1) := by decide +kernel
theorem dX0_init_0 : decode cX0_init 0 = .ok (.aload_n 0, 1) := by decide +kernel
theorem dX0_init_1 : decode cX0_init 1 = .ok (.invokespecial 3, 3) := by decide +kernel
theorem dX0_init_4 : decode cX0_init 4 = .ok (.aload_n 0, 1) := by decide +kernel
theorem dX0_init_5 : decode cX0_init 5 = .ok (.iconst 4, 1) := by decide +kernel
theorem dX0_init_6 : decode cX0_init 6 = .ok (.newarray .int, 2) := by decide +kernel
theorem dX0_init_8 : decode cX0_init 8 = .ok (.putfield 9, 3) := by decide +kernel
theorem dX0_init_11 : decode cX0_init 11 = .ok (.aload_n 0, 1) := by decide +kernel
theorem dX0_init_12 : decode cX0_init 12 = .ok (.iconst 0, 1) := by decide +kernel
theorem dX0_init_13 : decode cX0_init 13 = .ok (.putfield 15, 3) := by decide +kernel
theorem dX0_init_16 : decode cX0_init 16 = .ok (.aload_n 0, 1) := by decide +kernel
theorem dX0_init_17 : decode cX0_init 17 = .ok (.iconst 0, 1) := by decide +kernel
theorem dX0_init_18 : decode cX0_init 18 = .ok (.putfield 19, 3) := by decide +kernel
theorem dX0_init_21 : decode cX0_init 21 = .ok (.aload_n 0, 1) := by decide +kernel
theorem dX0_init_22 : decode cX0_init 22 = .ok (.iconst (-1), 1) := by decide +kernel
theorem dX0_init_23 : decode cX0_init 23 = .ok (.putfield 23, 3) := by decide +kernel
theorem dX0_init_26 : decode cX0_init 26 = .ok (.aload_n 0, 1) := by decide +kernel
theorem dX0_init_27 : decode cX0_init 27 = .ok (.iconst 0, 1) := by decide +kernel
theorem dX0_init_28 : decode cX0_init 28 = .ok (.putfield 26, 3) := by decide +kernel
theorem dX0_init_31 : decode cX0_init 31 = .ok (.aload_n 0, 1) := by decide +kernel
theorem dX0_init_32 : decode cX0_init 32 = .ok (.iconst (-1), 1) := by decide +kernel
theorem dX0_init_33 : decode cX0_init 33 = .ok (.putfield 29, 3) := by decide +kernel
theorem dX0_init_36 : decode cX0_init 36 = .ok (.aload_n 0, 1) := by decide +kernel
theorem dX0_init_37 : decode cX0_init 37 = .ok (.aload_n 1, 1) := by decide +kernel
theorem dX0_init_38 : decode cX0_init 38 = .ok (.putfield 32, 3) := by decide +kernel
theorem dX0_init_41 : decode cX0_init 41 = .ok (.aload_n 0, 1) := by decide +kernel
theorem dX0_init_42 : decode cX0_init 42 = .ok (.aload_n 2, 1) := by decide +kernel
theorem dX0_init_43 : decode cX0_init 43 = .ok (.putfield 36, 3) := by decide +kernel
theorem dX0_init_46 : decode cX0_init 46 = .ok (.aload_n 0, 1) := by decide +kernel
theorem dX0_init_47 : decode cX0_init 47 = .ok (.aload_n 2, 1) := by decide +kernel
theorem dX0_init_48 : decode cX0_init 48 = .ok (.getfield 40, 3) := by decide +kernel
theorem dX0_init_51 : decode cX0_init 51 = .ok (.newarray .int, 2) := by decide +kernel
theorem dX0_init_53 : decode cX0_init 53 = .ok (.putfield 45, 3) := by decide +kernel
theorem dX0_init_56 : decode cX0_init 56 = .ok (.return_, 1) := by decide +kernel
theorem dX2_has_0 : decode cX2_has 0 = .ok (.iload_n 1, 1) := by decide +kernel
theorem dX2_has_1 : decode cX2_has 1 = .ok (.aload_n 0, 1) := by decide +kernel
theorem dX2_has_2 : decode cX2_has 2 = .ok (.getfield 15, 3) := by decide +kernel
theorem dX2_has_5 : decode cX2_has 5 = .ok (.arraylength, 1) := by decide +kernel
theorem dX2_has_6 : decode cX2_has 6 = .ok (.invokestatic 19, 3) := by decide +kernel
theorem dX2_has_9 : decode cX2_has 9 = .ok (.ireturn, 1) := by decide +kernel
theorem dX1_goOn_0 : decode cX1_goOn 0 = .ok (.aload_n 0, 1) := by decide +kernel
theorem dX1_goOn_1 : decode cX1_goOn 1 = .ok (.getfield 19, 3) := by decide +kernel
theorem dX1_goOn_4 : decode cX1_goOn 4 = .ok (.ifCond .eq 4, 3) := by decide +kernel
theorem dX1_goOn_7 : decode cX1_goOn 7 = .ok (.return_, 1) := by decide +kernel
theorem dX1_goOn_8 : decode cX1_goOn 8 = .ok (.aload_n 0, 1) := by decide +kernel
theorem dX1_goOn_9 : decode cX1_goOn 9 = .ok (.getfield 15, 3) := by decide +kernel
theorem dX1_goOn_12 : decode cX1_goOn 12 = .ok (.aload_n 0, 1) := by decide +kernel
theorem dX1_goOn_13 : decode cX1_goOn 13 = .ok (.getfield 38, 3) := by decide +kernel
theorem dX1_goOn_16 : decode cX1_goOn 16 = .ok (.arraylength, 1) := by decide +kernel
theorem dX1_goOn_17 : decode cX1_goOn 17 = .ok (.invokestatic 59, 3) := by decide +kernel
theorem dX1_goOn_20 : decode cX1_goOn 20 = .ok (.ifCond .eq 19, 3) := by decide +kernel
theorem dX1_goOn_23 : decode cX1_goOn 23 = .ok (.aload_n 0, 1) := by decide +kernel
theorem dX1_goOn_24 : decode cX1_goOn 24 = .ok (.aload_n 0, 1) := by decide +kernel
theorem dX1_goOn_25 : decode cX1_goOn 25 = .ok (.getfield 38, 3) := by decide +kernel
theorem dX1_goOn_28 : decode cX1_goOn 28 = .ok (.aload_n 0, 1) := by decide +kernel
theorem dX1_goOn_29 : decode cX1_goOn 29 = .ok (.getfield 15, 3) := by decide +kernel
theorem dX1_goOn_32 : decode cX1_goOn 32 = .ok (.iaload, 1) := by decide +kernel
theorem dX1_goOn_33 : decode cX1_goOn 33 = .ok (.invokevirtual 63, 3) := by decide +kernel
theorem dX1_goOn_36 : decode cX1_goOn 36 = .ok (.goto 8, 3) := by decide +kernel
theorem dX1_goOn_39 : decode cX1_goOn 39 = .ok (.aload_n 0, 1) := by decide +kernel
theorem dX1_goOn_40 : decode cX1_goOn 40 = .ok (.iconst 3, 1) := by decide +kernel
theorem dX1_goOn_41 : decode cX1_goOn 41 = .ok (.putfield 19, 3) := by decide +kernel
theorem dX1_goOn_44 : decode cX1_goOn 44 = .ok (.return_, 1) := by decide +kernel
theorem dX1_tryInstruction_0 : decode cX1_tryInstruction 0 = .ok (.aload_n 0, 1) := by decide +kernel
theorem dX1_tryInstruction_1 : decode cX1_tryInstruction 1 = .ok (.getfield 9, 3) := by decide +kernel
theorem dX1_tryInstruction_4 : decode cX1_tryInstruction 4 = .ok (.iload_n 1, 1) := by decide +kernel
theorem dX1_tryInstruction_5 : decode cX1_tryInstruction 5 = .ok (.invokestatic 66, 3) := by decide +kernel
theorem dX1_tryInstruction_8 : decode cX1_tryInstruction 8 = .ok (.iaload, 1) := by decide +kernel
theorem dX1_tryInstruction_9 : decode cX1_tryInstruction 9 = .ok (.istore_n 2, 1) := by decide +kernel
theorem dX1_tryInstruction_10 : decode cX1_tryInstruction 10 = .ok (.aload_n 0, 1) := by decide +kernel
theorem dX1_tryInstruction_11 : decode cX1_tryInstruction 11 = .ok (.getfield 9, 3) := by decide +kernel
theorem dX1_tryInstruction_14 : decode cX1_tryInstruction 14 = .ok (.iload_n 1, 1) := by decide +kernel
theorem dX1_tryInstruction_15 : decode cX1_tryInstruction 15 = .ok (.invokestatic 69, 3) := by decide +kernel
theorem dX1_tryInstruction_18 : decode cX1_tryInstruction 18 = .ok (.iaload, 1) := by decide +kernel
theorem dX1_tryInstruction_19 : decode cX1_tryInstruction 19 = .ok (.istore_n 3, 1) := by decide +kernel
theorem dX1_tryInstruction_20 : decode cX1_tryInstruction 20 = .ok (.aload_n 0, 1) := by decide +kernel
theorem dX1_tryInstruction_21 : decode cX1_tryInstruction 21 = .ok (.getfield 9, 3) := by decide +kernel
theorem dX1_tryInstruction_24 : decode cX1_tryInstruction 24 = .ok (.iload_n 1, 1) := by decide +kernel
theorem dX1_tryInstruction_25 : decode cX1_tryInstruction 25 = .ok (.invokestatic 72, 3) := by decide +kernel
theorem dX1_tryInstruction_28 : decode cX1_tryInstruction 28 = .ok (.iaload, 1) := by decide +kernel
theorem dX1_tryInstruction_29 : decode cX1_tryInstruction 29 = .ok (.istore 4, 2) := by decide +kernel
theorem dX1_tryInstruction_31 : decode cX1_tryInstruction 31 = .ok (.iload_n 1, 1) := by decide +kernel
theorem dX1_tryInstruction_32 : decode cX1_tryInstruction 32 = .ok (.invokestatic 75, 3) := by decide +kernel
theorem dX1_tryInstruction_35 : decode cX1_tryInstruction 35 = .ok (.istore 5, 2) := by decide +kernel
theorem dX1_tryInstruction_37 : decode cX1_tryInstruction 37 = .ok (.iload_n 1, 1) := by decide +kernel
theorem dX1_tryInstruction_38 : decode cX1_tryInstruction 38 = .ok (.invokestatic 78, 3) := by decide +kernel
theorem dX1_tryInstruction_41 : decode cX1_tryInstruction 41 = .ok (.tableswitch 194 0 11 #[63, 81, 91, 103, 115, 127, 139, 151, 173, 182, 182, 182], 63) := by decide +kernel
theorem dX1_tryInstruction_104 : decode cX1_tryInstruction 104 = .ok (.aload_n 0, 1) := by decide +kernel
theorem dX1_tryInstruction_105 : decode cX1_tryInstruction 105 = .ok (.iconst 2, 1) := by decide +kernel
theorem dX1_tryInstruction_106 : decode cX1_tryInstruction 106 = .ok (.putfield 19, 3) := by decide +kernel
theorem dX1_tryInstruction_109 : decode cX1_tryInstruction 109 = .ok (.aload_n 0, 1) := by decide +kernel
theorem dX1_tryInstruction_110 : decode cX1_tryInstruction 110 = .ok (.aload_n 0, 1) := by decide +kernel
theorem dX1_tryInstruction_111 : decode cX1_tryInstruction 111 = .ok (.getfield 15, 3) := by decide +kernel
theorem dX1_tryInstruction_114 : decode cX1_tryInstruction 114 = .ok (.iconst 1, 1) := by decide +kernel
theorem dX1_tryInstruction_115 : decode cX1_tryInstruction 115 = .ok (.iadd, 1) := by decide +kernel
theorem dX1_tryInstruction_116 : decode cX1_tryInstruction 116 = .ok (.invokevirtual 81, 3) := by decide +kernel
theorem dX1_tryInstruction_119 : decode cX1_tryInstruction 119 = .ok (.goto 121, 3) := by decide +kernel
theorem dX1_tryInstruction_122 : decode cX1_tryInstruction 122 = .ok (.aload_n 0, 1) := by decide +kernel
theorem dX1_tryInstruction_123 : decode cX1_tryInstruction 123 = .ok (.iload_n 1, 1) := by decide +kernel
theorem dX1_tryInstruction_124 : decode cX1_tryInstruction 124 = .ok (.iload 5, 2) := by decide +kernel
theorem dX1_tryInstruction_126 : decode cX1_tryInstruction 126 = .ok (.invokevirtual 84, 3) := by decide +kernel
theorem dX1_tryInstruction_129 : decode cX1_tryInstruction 129 = .ok (.goto 111, 3) := by decide +kernel
theorem dX1_tryInstruction_132 : decode cX1_tryInstruction 132 = .ok (.aload_n 0, 1) := by decide +kernel
theorem dX1_tryInstruction_133 : decode cX1_tryInstruction 133 = .ok (.iload_n 1, 1) := by decide +kernel
theorem dX1_tryInstruction_134 : decode cX1_tryInstruction 134 = .ok (.iload_n 3, 1) := by decide +kernel
theorem dX1_tryInstruction_135 : decode cX1_tryInstruction 135 = .ok (.iload 4, 2) := by decide +kernel
theorem dX1_tryInstruction_137 : decode cX1_tryInstruction 137 = .ok (.iadd, 1) := by decide +kernel
theorem dX1_tryInstruction_138 : decode cX1_tryInstruction 138 = .ok (.invokevirtual 84, 3) := by decide +kernel
theorem dX1_tryInstruction_141 : decode cX1_tryInstruction 141 = .ok (.goto 99, 3) := by decide +kernel
theorem dX1_tryInstruction_144 : decode cX1_tryInstruction 144 = .ok (.aload_n 0, 1) := by decide +kernel
theorem dX1_tryInstruction_145 : decode cX1_tryInstruction 145 = .ok (.iload_n 1, 1) := by decide +kernel
theorem dX1_tryInstruction_146 : decode cX1_tryInstruction 146 = .ok (.iload_n 3, 1) := by decide +kernel
theorem dX1_tryInstruction_147 : decode cX1_tryInstruction 147 = .ok (.iload 4, 2) := by decide +kernel
theorem dX1_tryInstruction_149 : decode cX1_tryInstruction 149 = .ok (.isub, 1) := by decide +kernel
theorem dX1_tryInstruction_150 : decode cX1_tryInstruction 150 = .ok (.invokevirtual 84, 3) := by decide +kernel
theorem dX1_tryInstruction_153 : decode cX1_tryInstruction 153 = .ok (.goto 87, 3) := by decide +kernel
theorem dX1_tryInstruction_156 : decode cX1_tryInstruction 156 = .ok (.aload_n 0, 1) := by decide +kernel
theorem dX1_tryInstruction_157 : decode cX1_tryInstruction 157 = .ok (.iload_n 1, 1) := by decide +kernel
theorem dX1_tryInstruction_158 : decode cX1_tryInstruction 158 = .ok (.iload_n 3, 1) := by decide +kernel
theorem dX1_tryInstruction_159 : decode cX1_tryInstruction 159 = .ok (.iload 4, 2) := by decide +kernel
theorem dX1_tryInstruction_161 : decode cX1_tryInstruction 161 = .ok (.imul, 1) := by decide +kernel
theorem dX1_tryInstruction_162 : decode cX1_tryInstruction 162 = .ok (.invokevirtual 84, 3) := by decide +kernel
theorem dX1_tryInstruction_165 : decode cX1_tryInstruction 165 = .ok (.goto 75, 3) := by decide +kernel
theorem dX1_tryInstruction_168 : decode cX1_tryInstruction 168 = .ok (.aload_n 0, 1) := by decide +kernel
theorem dX1_tryInstruction_169 : decode cX1_tryInstruction 169 = .ok (.iload_n 1, 1) := by decide +kernel
theorem dX1_tryInstruction_170 : decode cX1_tryInstruction 170 = .ok (.iload_n 3, 1) := by decide +kernel
theorem dX1_tryInstruction_171 : decode cX1_tryInstruction 171 = .ok (.iload 5, 2) := by decide +kernel
theorem dX1_tryInstruction_173 : decode cX1_tryInstruction 173 = .ok (.iadd, 1) := by decide +kernel
theorem dX1_tryInstruction_174 : decode cX1_tryInstruction 174 = .ok (.invokevirtual 84, 3) := by decide +kernel
theorem dX1_tryInstruction_177 : decode cX1_tryInstruction 177 = .ok (.goto 63, 3) := by decide +kernel
theorem dX1_tryInstruction_180 : decode cX1_tryInstruction 180 = .ok (.aload_n 0, 1) := by decide +kernel
theorem dX1_tryInstruction_181 : decode cX1_tryInstruction 181 = .ok (.iload_n 1, 1) := by decide +kernel
theorem dX1_tryInstruction_182 : decode cX1_tryInstruction 182 = .ok (.aload_n 0, 1) := by decide +kernel
theorem dX1_tryInstruction_183 : decode cX1_tryInstruction 183 = .ok (.getfield 31, 3) := by decide +kernel
theorem dX1_tryInstruction_186 : decode cX1_tryInstruction 186 = .ok (.invokevirtual 84, 3) := by decide +kernel
theorem dX1_tryInstruction_189 : decode cX1_tryInstruction 189 = .ok (.goto 51, 3) := by decide +kernel
theorem dX1_tryInstruction_192 : decode cX1_tryInstruction 192 = .ok (.aload_n 0, 1) := by decide +kernel
theorem dX1_tryInstruction_193 : decode cX1_tryInstruction 193 = .ok (.iload_n 2, 1) := by decide +kernel
theorem dX1_tryInstruction_194 : decode cX1_tryInstruction 194 = .ok (.ifCond .ne 8, 3) := by decide +kernel
theorem dX1_tryInstruction_197 : decode cX1_tryInstruction 197 = .ok (.iload 5, 2) := by decide +kernel
theorem dX1_tryInstruction_199 : decode cX1_tryInstruction 199 = .ok (.goto 9, 3) := by decide +kernel
theorem dX1_tryInstruction_202 : decode cX1_tryInstruction 202 = .ok (.aload_n 0, 1) := by decide +kernel
theorem dX1_tryInstruction_203 : decode cX1_tryInstruction 203 = .ok (.getfield 15, 3) := by decide +kernel
theorem dX1_tryInstruction_206 : decode cX1_tryInstruction 206 = .ok (.iconst 1, 1) := by decide +kernel
theorem dX1_tryInstruction_207 : decode cX1_tryInstruction 207 = .ok (.iadd, 1) := by decide +kernel
theorem dX1_tryInstruction_208 : decode cX1_tryInstruction 208 = .ok (.invokevirtual 81, 3) := by decide +kernel
theorem dX1_tryInstruction_211 : decode cX1_tryInstruction 211 = .ok (.goto 29, 3) := by decide +kernel
theorem dX1_tryInstruction_214 : decode cX1_tryInstruction 214 = .ok (.aload_n 0, 1) := by decide +kernel
theorem dX1_tryInstruction_215 : decode cX1_tryInstruction 215 = .ok (.iload 5, 2) := by decide +kernel
theorem dX1_tryInstruction_217 : decode cX1_tryInstruction 217 = .ok (.invokevirtual 81, 3) := by decide +kernel
theorem dX1_tryInstruction_220 : decode cX1_tryInstruction 220 = .ok (.goto 20, 3) := by decide +kernel
theorem dX1_tryInstruction_223 : decode cX1_tryInstruction 223 = .ok (.aload_n 0, 1) := by decide +kernel
theorem dX1_tryInstruction_224 : decode cX1_tryInstruction 224 = .ok (.iload_n 1, 1) := by decide +kernel
theorem dX1_tryInstruction_225 : decode cX1_tryInstruction 225 = .ok (.iload_n 3, 1) := by decide +kernel
theorem dX1_tryInstruction_226 : decode cX1_tryInstruction 226 = .ok (.iload 5, 2) := by decide +kernel
theorem dX1_tryInstruction_228 : decode cX1_tryInstruction 228 = .ok (.iadd, 1) := by decide +kernel
theorem dX1_tryInstruction_229 : decode cX1_tryInstruction 229 = .ok (.invokevirtual 88, 3) := by decide +kernel
theorem dX1_tryInstruction_232 : decode cX1_tryInstruction 232 = .ok (.goto 8, 3) := by decide +kernel
theorem dX1_tryInstruction_235 : decode cX1_tryInstruction 235 = .ok (.aload_n 0, 1) := by decide +kernel
theorem dX1_tryInstruction_236 : decode cX1_tryInstruction 236 = .ok (.iconst 3, 1) := by decide +kernel
theorem dX1_tryInstruction_237 : decode cX1_tryInstruction 237 = .ok (.putfield 19, 3) := by decide +kernel
theorem dX1_tryInstruction_240 : decode cX1_tryInstruction 240 = .ok (.return_, 1) := by decide +kernel
theorem dX1_fieldA_0 : decode cX1_fieldA 0 = .ok (.iload_n 0, 1) := by decide +kernel
theorem dX1_fieldA_1 : decode cX1_fieldA 1 = .ok (.iconst 4, 1) := by decide +kernel
theorem dX1_fieldA_2 : decode cX1_fieldA 2 = .ok (.ishr, 1) := by decide +kernel
theorem dX1_fieldA_3 : decode cX1_fieldA 3 = .ok (.iconst 3, 1) := by decide +kernel
theorem dX1_fieldA_4 : decode cX1_fieldA 4 = .ok (.iand, 1) := by decide +kernel
theorem dX1_fieldA_5 : decode cX1_fieldA 5 = .ok (.ireturn, 1) := by decide +kernel
theorem dX1_fieldB_0 : decode cX1_fieldB 0 = .ok (.iload_n 0, 1) := by decide +kernel
theorem dX1_fieldB_1 : decode cX1_fieldB 1 = .ok (.bipush 6, 2) := by decide +kernel
theorem dX1_fieldB_3 : decode cX1_fieldB 3 = .ok (.ishr, 1) := by decide +kernel
theorem dX1_fieldB_4 : decode cX1_fieldB 4 = .ok (.iconst 3, 1) := by decide +kernel
theorem dX1_fieldB_5 : decode cX1_fieldB 5 = .ok (.iand, 1) := by decide +kernel
theorem dX1_fieldB_6 : decode cX1_fieldB 6 = .ok (.ireturn, 1) := by decide +kernel
theorem dX1_fieldC_0 : decode cX1_fieldC 0 = .ok (.iload_n 0, 1) := by decide +kernel
theorem dX1_fieldC_1 : decode cX1_fieldC 1 = .ok (.bipush 8, 2) := by decide +kernel
theorem dX1_fieldC_3 : decode cX1_fieldC 3 = .ok (.ishr, 1) := by decide +kernel
theorem dX1_fieldC_4 : decode cX1_fieldC 4 = .ok (.iconst 3, 1) := by decide +kernel
theorem dX1_fieldC_5 : decode cX1_fieldC 5 = .ok (.iand, 1) := by decide +kernel
theorem dX1_fieldC_6 : decode cX1_fieldC 6 = .ok (.ireturn, 1) := by decide +kernel
theorem dX1_fieldN_0 : decode cX1_fieldN 0 = .ok (.iload_n 0, 1) := by decide +kernel
theorem dX1_fieldN_1 : decode cX1_fieldN 1 = .ok (.bipush 10, 2) := by decide +kernel
theorem dX1_fieldN_3 : decode cX1_fieldN 3 = .ok (.ishr, 1) := by decide +kernel
theorem dX1_fieldN_4 : decode cX1_fieldN 4 = .ok (.ireturn, 1) := by decide +kernel
theorem dX1_operation_0 : decode cX1_operation 0 = .ok (.iload_n 0, 1) := by decide +kernel
theorem dX1_operation_1 : decode cX1_operation 1 = .ok (.bipush 15, 2) := by decide +kernel
theorem dX1_operation_3 : decode cX1_operation 3 = .ok (.iand, 1) := by decide +kernel
theorem dX1_operation_4 : decode cX1_operation 4 = .ok (.ireturn, 1) := by decide +kernel
theorem dX1_finish_0 : decode cX1_finish 0 = .ok (.aload_n 0, 1) := by decide +kernel
theorem dX1_finish_1 : decode cX1_finish 1 = .ok (.iload_n 1, 1) := by decide +kernel
theorem dX1_finish_2 : decode cX1_finish 2 = .ok (.putfield 15, 3) := by decide +kernel
theorem dX1_finish_5 : decode cX1_finish 5 = .ok (.aload_n 0, 1) := by decide +kernel
theorem dX1_finish_6 : decode cX1_finish 6 = .ok (.dup, 1) := by decide +kernel
theorem dX1_finish_7 : decode cX1_finish 7 = .ok (.getfield 22, 3) := by decide +kernel
theorem dX1_finish_10 : decode cX1_finish 10 = .ok (.iconst 1, 1) := by decide +kernel
theorem dX1_finish_11 : decode cX1_finish 11 = .ok (.iadd, 1) := by decide +kernel
theorem dX1_finish_12 : decode cX1_finish 12 = .ok (.putfield 22, 3) := by decide +kernel
theorem dX1_finish_15 : decode cX1_finish 15 = .ok (.return_, 1) := by decide +kernel
theorem dX1_answer_0 : decode cX1_answer 0 = .ok (.aload_n 0, 1) := by decide +kernel
theorem dX1_answer_1 : decode cX1_answer 1 = .ok (.getfield 9, 3) := by decide +kernel
theorem dX1_answer_4 : decode cX1_answer 4 = .ok (.iload_n 1, 1) := by decide +kernel
theorem dX1_answer_5 : decode cX1_answer 5 = .ok (.invokestatic 66, 3) := by decide +kernel
theorem dX1_answer_8 : decode cX1_answer 8 = .ok (.iload_n 2, 1) := by decide +kernel
theorem dX1_answer_9 : decode cX1_answer 9 = .ok (.iastore, 1) := by decide +kernel
theorem dX1_answer_10 : decode cX1_answer 10 = .ok (.aload_n 0, 1) := by decide +kernel
theorem dX1_answer_11 : decode cX1_answer 11 = .ok (.aload_n 0, 1) := by decide +kernel
theorem dX1_answer_12 : decode cX1_answer 12 = .ok (.getfield 15, 3) := by decide +kernel
theorem dX1_answer_15 : decode cX1_answer 15 = .ok (.iconst 1, 1) := by decide +kernel
theorem dX1_answer_16 : decode cX1_answer 16 = .ok (.iadd, 1) := by decide +kernel
theorem dX1_answer_17 : decode cX1_answer 17 = .ok (.invokevirtual 81, 3) := by decide +kernel
theorem dX1_answer_20 : decode cX1_answer 20 = .ok (.return_, 1) := by decide +kernel
theorem dX1_tryAccess_0 : decode cX1_tryAccess 0 = .ok (.aload_n 0, 1) := by decide +kernel
theorem dX1_tryAccess_1 : decode cX1_tryAccess 1 = .ok (.getfield 34, 3) := by decide +kernel
theorem dX1_tryAccess_4 : decode cX1_tryAccess 4 = .ok (.iload_n 2, 1) := by decide +kernel
theorem dX1_tryAccess_5 : decode cX1_tryAccess 5 = .ok (.invokevirtual 91, 3) := by decide +kernel
theorem dX1_tryAccess_8 : decode cX1_tryAccess 8 = .ok (.ifCond .ne 9, 3) := by decide +kernel
theorem dX1_tryAccess_11 : decode cX1_tryAccess 11 = .ok (.aload_n 0, 1) := by decide +kernel
theorem dX1_tryAccess_12 : decode cX1_tryAccess 12 = .ok (.iconst 3, 1) := by decide +kernel
theorem dX1_tryAccess_13 : decode cX1_tryAccess 13 = .ok (.putfield 19, 3) := by decide +kernel
theorem dX1_tryAccess_16 : decode cX1_tryAccess 16 = .ok (.return_, 1) := by decide +kernel
theorem dX1_tryAccess_17 : decode cX1_tryAccess 17 = .ok (.aload_n 0, 1) := by decide +kernel
theorem dX1_tryAccess_18 : decode cX1_tryAccess 18 = .ok (.getfield 34, 3) := by decide +kernel
theorem dX1_tryAccess_21 : decode cX1_tryAccess 21 = .ok (.iload_n 2, 1) := by decide +kernel
theorem dX1_tryAccess_22 : decode cX1_tryAccess 22 = .ok (.invokevirtual 95, 3) := by decide +kernel
theorem dX1_tryAccess_25 : decode cX1_tryAccess 25 = .ok (.istore_n 3, 1) := by decide +kernel
theorem dX1_tryAccess_26 : decode cX1_tryAccess 26 = .ok (.aload_n 0, 1) := by decide +kernel
theorem dX1_tryAccess_27 : decode cX1_tryAccess 27 = .ok (.iload_n 3, 1) := by decide +kernel
theorem dX1_tryAccess_28 : decode cX1_tryAccess 28 = .ok (.invokevirtual 98, 3) := by decide +kernel
theorem dX1_tryAccess_31 : decode cX1_tryAccess 31 = .ok (.astore 4, 2) := by decide +kernel
theorem dX1_tryAccess_33 : decode cX1_tryAccess 33 = .ok (.iload_n 1, 1) := by decide +kernel
theorem dX1_tryAccess_34 : decode cX1_tryAccess 34 = .ok (.invokestatic 78, 3) := by decide +kernel
theorem dX1_tryAccess_37 : decode cX1_tryAccess 37 = .ok (.bipush 9, 2) := by decide +kernel
theorem dX1_tryAccess_39 : decode cX1_tryAccess 39 = .ok (.if_icmp .ne 7, 3) := by decide +kernel
theorem dX1_tryAccess_42 : decode cX1_tryAccess 42 = .ok (.iconst 1, 1) := by decide +kernel
theorem dX1_tryAccess_43 : decode cX1_tryAccess 43 = .ok (.goto 4, 3) := by decide +kernel
theorem dX1_tryAccess_46 : decode cX1_tryAccess 46 = .ok (.iconst 0, 1) := by decide +kernel
theorem dX1_tryAccess_47 : decode cX1_tryAccess 47 = .ok (.istore 5, 2) := by decide +kernel
theorem dX1_tryAccess_49 : decode cX1_tryAccess 49 = .ok (.aload 4, 2) := by decide +kernel
theorem dX1_tryAccess_51 : decode cX1_tryAccess 51 = .ok (.iload_n 3, 1) := by decide +kernel
theorem dX1_tryAccess_52 : decode cX1_tryAccess 52 = .ok (.invokevirtual 102, 3) := by decide +kernel
theorem dX1_tryAccess_55 : decode cX1_tryAccess 55 = .ok (.ifCond .eq 34, 3) := by decide +kernel
theorem dX1_tryAccess_58 : decode cX1_tryAccess 58 = .ok (.iload 5, 2) := by decide +kernel
theorem dX1_tryAccess_60 : decode cX1_tryAccess 60 = .ok (.ifCond .ne 11, 3) := by decide +kernel
theorem dX1_tryAccess_63 : decode cX1_tryAccess 63 = .ok (.aload 4, 2) := by decide +kernel
theorem dX1_tryAccess_65 : decode cX1_tryAccess 65 = .ok (.invokevirtual 105, 3) := by decide +kernel
theorem dX1_tryAccess_68 : decode cX1_tryAccess 68 = .ok (.ifCond .eq 21, 3) := by decide +kernel
theorem dX1_tryAccess_71 : decode cX1_tryAccess 71 = .ok (.aload_n 0, 1) := by decide +kernel
theorem dX1_tryAccess_72 : decode cX1_tryAccess 72 = .ok (.iload_n 1, 1) := by decide +kernel
theorem dX1_tryAccess_73 : decode cX1_tryAccess 73 = .ok (.aload 4, 2) := by decide +kernel
theorem dX1_tryAccess_75 : decode cX1_tryAccess 75 = .ok (.aload_n 0, 1) := by decide +kernel
theorem dX1_tryAccess_76 : decode cX1_tryAccess 76 = .ok (.getfield 34, 3) := by decide +kernel
theorem dX1_tryAccess_79 : decode cX1_tryAccess 79 = .ok (.iload_n 2, 1) := by decide +kernel
theorem dX1_tryAccess_80 : decode cX1_tryAccess 80 = .ok (.invokevirtual 109, 3) := by decide +kernel
theorem dX1_tryAccess_83 : decode cX1_tryAccess 83 = .ok (.invokevirtual 112, 3) := by decide +kernel
theorem dX1_tryAccess_86 : decode cX1_tryAccess 86 = .ok (.goto 18, 3) := by decide +kernel
theorem dX1_tryAccess_89 : decode cX1_tryAccess 89 = .ok (.aload_n 0, 1) := by decide +kernel
theorem dX1_tryAccess_90 : decode cX1_tryAccess 90 = .ok (.iload 5, 2) := by decide +kernel
theorem dX1_tryAccess_92 : decode cX1_tryAccess 92 = .ok (.ifCond .eq 7, 3) := by decide +kernel
theorem dX1_tryAccess_95 : decode cX1_tryAccess 95 = .ok (.iconst 1, 1) := by decide +kernel
theorem dX1_tryAccess_96 : decode cX1_tryAccess 96 = .ok (.goto 4, 3) := by decide +kernel
theorem dX1_tryAccess_99 : decode cX1_tryAccess 99 = .ok (.iconst 2, 1) := by decide +kernel
theorem dX1_tryAccess_100 : decode cX1_tryAccess 100 = .ok (.iload_n 3, 1) := by decide +kernel
theorem dX1_tryAccess_101 : decode cX1_tryAccess 101 = .ok (.invokevirtual 116, 3) := by decide +kernel
theorem dX1_tryAccess_104 : decode cX1_tryAccess 104 = .ok (.return_, 1) := by decide +kernel
theorem dX2_lineOf_0 : decode cX2_lineOf 0 = .ok (.iload_n 1, 1) := by decide +kernel
theorem dX2_lineOf_1 : decode cX2_lineOf 1 = .ok (.aload_n 0, 1) := by decide +kernel
theorem dX2_lineOf_2 : decode cX2_lineOf 2 = .ok (.getfield 9, 3) := by decide +kernel
theorem dX2_lineOf_5 : decode cX2_lineOf 5 = .ok (.idiv, 1) := by decide +kernel
theorem dX2_lineOf_6 : decode cX2_lineOf 6 = .ok (.ireturn, 1) := by decide +kernel
theorem dX1_slotFor_0 : decode cX1_slotFor 0 = .ok (.aload_n 0, 1) := by decide +kernel
theorem dX1_slotFor_1 : decode cX1_slotFor 1 = .ok (.getfield 43, 3) := by decide +kernel
theorem dX1_slotFor_4 : decode cX1_slotFor 4 = .ok (.aload_n 0, 1) := by decide +kernel
theorem dX1_slotFor_5 : decode cX1_slotFor 5 = .ok (.iload_n 1, 1) := by decide +kernel
theorem dX1_slotFor_6 : decode cX1_slotFor 6 = .ok (.invokevirtual 55, 3) := by decide +kernel
theorem dX1_slotFor_9 : decode cX1_slotFor 9 = .ok (.aaload, 1) := by decide +kernel
theorem dX1_slotFor_10 : decode cX1_slotFor 10 = .ok (.areturn, 1) := by decide +kernel
theorem dX1_indexFor_0 : decode cX1_indexFor 0 = .ok (.iload_n 1, 1) := by decide +kernel
theorem dX1_indexFor_1 : decode cX1_indexFor 1 = .ok (.aload_n 0, 1) := by decide +kernel
theorem dX1_indexFor_2 : decode cX1_indexFor 2 = .ok (.getfield 43, 3) := by decide +kernel
theorem dX1_indexFor_5 : decode cX1_indexFor 5 = .ok (.arraylength, 1) := by decide +kernel
theorem dX1_indexFor_6 : decode cX1_indexFor 6 = .ok (.irem, 1) := by decide +kernel
theorem dX1_indexFor_7 : decode cX1_indexFor 7 = .ok (.ireturn, 1) := by decide +kernel
theorem dX3_holds_0 : decode cX3_holds 0 = .ok (.aload_n 0, 1) := by decide +kernel
theorem dX3_holds_1 : decode cX3_holds 1 = .ok (.getfield 9, 3) := by decide +kernel
theorem dX3_holds_4 : decode cX3_holds 4 = .ok (.ifCond .eq 15, 3) := by decide +kernel
theorem dX3_holds_7 : decode cX3_holds 7 = .ok (.aload_n 0, 1) := by decide +kernel
theorem dX3_holds_8 : decode cX3_holds 8 = .ok (.getfield 15, 3) := by decide +kernel
theorem dX3_holds_11 : decode cX3_holds 11 = .ok (.iload_n 1, 1) := by decide +kernel
theorem dX3_holds_12 : decode cX3_holds 12 = .ok (.if_icmp .ne 7, 3) := by decide +kernel
theorem dX3_holds_15 : decode cX3_holds 15 = .ok (.iconst 1, 1) := by decide +kernel
theorem dX3_holds_16 : decode cX3_holds 16 = .ok (.goto 4, 3) := by decide +kernel
theorem dX3_holds_19 : decode cX3_holds 19 = .ok (.iconst 0, 1) := by decide +kernel
theorem dX3_holds_20 : decode cX3_holds 20 = .ok (.ireturn, 1) := by decide +kernel
theorem dX3_maySetWords_0 : decode cX3_maySetWords 0 = .ok (.aload_n 0, 1) := by decide +kernel
theorem dX3_maySetWords_1 : decode cX3_maySetWords 1 = .ok (.getfield 9, 3) := by decide +kernel
theorem dX3_maySetWords_4 : decode cX3_maySetWords 4 = .ok (.iconst 2, 1) := by decide +kernel
theorem dX3_maySetWords_5 : decode cX3_maySetWords 5 = .ok (.if_icmp .eq 11, 3) := by decide +kernel
theorem dX3_maySetWords_8 : decode cX3_maySetWords 8 = .ok (.aload_n 0, 1) := by decide +kernel
theorem dX3_maySetWords_9 : decode cX3_maySetWords 9 = .ok (.getfield 9, 3) := by decide +kernel
theorem dX3_maySetWords_12 : decode cX3_maySetWords 12 = .ok (.iconst 4, 1) := by decide +kernel
theorem dX3_maySetWords_13 : decode cX3_maySetWords 13 = .ok (.if_icmp .ne 7, 3) := by decide +kernel
theorem dX3_maySetWords_16 : decode cX3_maySetWords 16 = .ok (.iconst 1, 1) := by decide +kernel
theorem dX3_maySetWords_17 : decode cX3_maySetWords 17 = .ok (.goto 4, 3) := by decide +kernel
theorem dX3_maySetWords_20 : decode cX3_maySetWords 20 = .ok (.iconst 0, 1) := by decide +kernel
theorem dX3_maySetWords_21 : decode cX3_maySetWords 21 = .ok (.ireturn, 1) := by decide +kernel
theorem dX2_offsetOf_0 : decode cX2_offsetOf 0 = .ok (.iload_n 1, 1) := by decide +kernel
theorem dX2_offsetOf_1 : decode cX2_offsetOf 1 = .ok (.aload_n 0, 1) := by decide +kernel
theorem dX2_offsetOf_2 : decode cX2_offsetOf 2 = .ok (.getfield 9, 3) := by decide +kernel
theorem dX2_offsetOf_5 : decode cX2_offsetOf 5 = .ok (.irem, 1) := by decide +kernel
theorem dX2_offsetOf_6 : decode cX2_offsetOf 6 = .ok (.ireturn, 1) := by decide +kernel
theorem dX1_access_0 : decode cX1_access 0 = .ok (.aload_n 0, 1) := by decide +kernel
theorem dX1_access_1 : decode cX1_access 1 = .ok (.getfield 9, 3) := by decide +kernel
theorem dX1_access_4 : decode cX1_access 4 = .ok (.iload_n 1, 1) := by decide +kernel
theorem dX1_access_5 : decode cX1_access 5 = .ok (.invokestatic 66, 3) := by decide +kernel
theorem dX1_access_8 : decode cX1_access 8 = .ok (.iaload, 1) := by decide +kernel
theorem dX1_access_9 : decode cX1_access 9 = .ok (.istore 4, 2) := by decide +kernel
theorem dX1_access_11 : decode cX1_access 11 = .ok (.aload_n 2, 1) := by decide +kernel
theorem dX1_access_12 : decode cX1_access 12 = .ok (.getfield 119, 3) := by decide +kernel
theorem dX1_access_15 : decode cX1_access 15 = .ok (.iload_n 3, 1) := by decide +kernel
theorem dX1_access_16 : decode cX1_access 16 = .ok (.iaload, 1) := by decide +kernel
theorem dX1_access_17 : decode cX1_access 17 = .ok (.istore 5, 2) := by decide +kernel
theorem dX1_access_19 : decode cX1_access 19 = .ok (.iload_n 1, 1) := by decide +kernel
theorem dX1_access_20 : decode cX1_access 20 = .ok (.invokestatic 78, 3) := by decide +kernel
theorem dX1_access_23 : decode cX1_access 23 = .ok (.lookupswitch 55 #[(9, 25), (10, 35)], 25) := by decide +kernel
theorem dX1_access_48 : decode cX1_access 48 = .ok (.aload_n 0, 1) := by decide +kernel
theorem dX1_access_49 : decode cX1_access 49 = .ok (.iload_n 1, 1) := by decide +kernel
theorem dX1_access_50 : decode cX1_access 50 = .ok (.iload 5, 2) := by decide +kernel
theorem dX1_access_52 : decode cX1_access 52 = .ok (.invokevirtual 84, 3) := by decide +kernel
theorem dX1_access_55 : decode cX1_access 55 = .ok (.goto 76, 3) := by decide +kernel
theorem dX1_access_58 : decode cX1_access 58 = .ok (.aload_n 2, 1) := by decide +kernel
theorem dX1_access_59 : decode cX1_access 59 = .ok (.iload_n 3, 1) := by decide +kernel
theorem dX1_access_60 : decode cX1_access 60 = .ok (.iload 4, 2) := by decide +kernel
theorem dX1_access_62 : decode cX1_access 62 = .ok (.invokevirtual 122, 3) := by decide +kernel
theorem dX1_access_65 : decode cX1_access 65 = .ok (.aload_n 0, 1) := by decide +kernel
theorem dX1_access_66 : decode cX1_access 66 = .ok (.aload_n 0, 1) := by decide +kernel
theorem dX1_access_67 : decode cX1_access 67 = .ok (.getfield 15, 3) := by decide +kernel
theorem dX1_access_70 : decode cX1_access 70 = .ok (.iconst 1, 1) := by decide +kernel
theorem dX1_access_71 : decode cX1_access 71 = .ok (.iadd, 1) := by decide +kernel
theorem dX1_access_72 : decode cX1_access 72 = .ok (.invokevirtual 81, 3) := by decide +kernel
theorem dX1_access_75 : decode cX1_access 75 = .ok (.goto 56, 3) := by decide +kernel
theorem dX1_access_78 : decode cX1_access 78 = .ok (.iload 5, 2) := by decide +kernel
theorem dX1_access_80 : decode cX1_access 80 = .ok (.aload_n 0, 1) := by decide +kernel
theorem dX1_access_81 : decode cX1_access 81 = .ok (.getfield 9, 3) := by decide +kernel
theorem dX1_access_84 : decode cX1_access 84 = .ok (.iload_n 1, 1) := by decide +kernel
theorem dX1_access_85 : decode cX1_access 85 = .ok (.invokestatic 72, 3) := by decide +kernel
theorem dX1_access_88 : decode cX1_access 88 = .ok (.iaload, 1) := by decide +kernel
theorem dX1_access_89 : decode cX1_access 89 = .ok (.if_icmp .ne 7, 3) := by decide +kernel
theorem dX1_access_92 : decode cX1_access 92 = .ok (.iconst 1, 1) := by decide +kernel
theorem dX1_access_93 : decode cX1_access 93 = .ok (.goto 4, 3) := by decide +kernel
theorem dX1_access_96 : decode cX1_access 96 = .ok (.iconst 0, 1) := by decide +kernel
theorem dX1_access_97 : decode cX1_access 97 = .ok (.istore 6, 2) := by decide +kernel
theorem dX1_access_99 : decode cX1_access 99 = .ok (.aload_n 2, 1) := by decide +kernel
theorem dX1_access_100 : decode cX1_access 100 = .ok (.iload_n 3, 1) := by decide +kernel
theorem dX1_access_101 : decode cX1_access 101 = .ok (.iload 6, 2) := by decide +kernel
theorem dX1_access_103 : decode cX1_access 103 = .ok (.ifCond .eq 8, 3) := by decide +kernel
theorem dX1_access_106 : decode cX1_access 106 = .ok (.iload 4, 2) := by decide +kernel
theorem dX1_access_108 : decode cX1_access 108 = .ok (.goto 5, 3) := by decide +kernel
theorem dX1_access_111 : decode cX1_access 111 = .ok (.iload 5, 2) := by decide +kernel
theorem dX1_access_113 : decode cX1_access 113 = .ok (.invokevirtual 122, 3) := by decide +kernel
theorem dX1_access_116 : decode cX1_access 116 = .ok (.aload_n 0, 1) := by decide +kernel
theorem dX1_access_117 : decode cX1_access 117 = .ok (.iload_n 1, 1) := by decide +kernel
theorem dX1_access_118 : decode cX1_access 118 = .ok (.iload 6, 2) := by decide +kernel
theorem dX1_access_120 : decode cX1_access 120 = .ok (.ifCond .eq 7, 3) := by decide +kernel
theorem dX1_access_123 : decode cX1_access 123 = .ok (.iconst 1, 1) := by decide +kernel
theorem dX1_access_124 : decode cX1_access 124 = .ok (.goto 4, 3) := by decide +kernel
theorem dX1_access_127 : decode cX1_access 127 = .ok (.iconst 0, 1) := by decide +kernel
theorem dX1_access_128 : decode cX1_access 128 = .ok (.invokevirtual 84, 3) := by decide +kernel
theorem dX1_access_131 : decode cX1_access 131 = .ok (.return_, 1) := by decide +kernel
theorem dX3_setWord_0 : decode cX3_setWord 0 = .ok (.aload_n 0, 1) := by decide +kernel
theorem dX3_setWord_1 : decode cX3_setWord 1 = .ok (.getfield 18, 3) := by decide +kernel
theorem dX3_setWord_4 : decode cX3_setWord 4 = .ok (.iload_n 1, 1) := by decide +kernel
theorem dX3_setWord_5 : decode cX3_setWord 5 = .ok (.iload_n 2, 1) := by decide +kernel
theorem dX3_setWord_6 : decode cX3_setWord 6 = .ok (.iastore, 1) := by decide +kernel
theorem dX3_setWord_7 : decode cX3_setWord 7 = .ok (.aload_n 0, 1) := by decide +kernel
theorem dX3_setWord_8 : decode cX3_setWord 8 = .ok (.iconst 4, 1) := by decide +kernel
theorem dX3_setWord_9 : decode cX3_setWord 9 = .ok (.putfield 9, 3) := by decide +kernel
theorem dX3_setWord_12 : decode cX3_setWord 12 = .ok (.return_, 1) := by decide +kernel
theorem dX1_ask_0 : decode cX1_ask 0 = .ok (.aload_n 0, 1) := by decide +kernel
theorem dX1_ask_1 : decode cX1_ask 1 = .ok (.iconst 1, 1) := by decide +kernel
theorem dX1_ask_2 : decode cX1_ask 2 = .ok (.putfield 19, 3) := by decide +kernel
theorem dX1_ask_5 : decode cX1_ask 5 = .ok (.aload_n 0, 1) := by decide +kernel
theorem dX1_ask_6 : decode cX1_ask 6 = .ok (.iload_n 1, 1) := by decide +kernel
theorem dX1_ask_7 : decode cX1_ask 7 = .ok (.putfield 25, 3) := by decide +kernel
theorem dX1_ask_10 : decode cX1_ask 10 = .ok (.aload_n 0, 1) := by decide +kernel
theorem dX1_ask_11 : decode cX1_ask 11 = .ok (.iload_n 2, 1) := by decide +kernel
theorem dX1_ask_12 : decode cX1_ask 12 = .ok (.putfield 28, 3) := by decide +kernel
theorem dX1_ask_15 : decode cX1_ask 15 = .ok (.return_, 1) := by decide +kernel
theorem dX0_doNextPhase_0 : decode cX0_doNextPhase 0 = .ok (.aload_n 0, 1) := by decide +kernel
theorem dX0_doNextPhase_1 : decode cX0_doNextPhase 1 = .ok (.getfield 19, 3) := by decide +kernel
theorem dX0_doNextPhase_4 : decode cX0_doNextPhase 4 = .ok (.ifCond .ne 10, 3) := by decide +kernel
theorem dX0_doNextPhase_7 : decode cX0_doNextPhase 7 = .ok (.aload_n 0, 1) := by decide +kernel
theorem dX0_doNextPhase_8 : decode cX0_doNextPhase 8 = .ok (.invokevirtual 64, 3) := by decide +kernel
theorem dX0_doNextPhase_11 : decode cX0_doNextPhase 11 = .ok (.goto 7, 3) := by decide +kernel
theorem dX0_doNextPhase_14 : decode cX0_doNextPhase 14 = .ok (.aload_n 0, 1) := by decide +kernel
theorem dX0_doNextPhase_15 : decode cX0_doNextPhase 15 = .ok (.getfield 23, 3) := by decide +kernel
theorem dX0_doNextPhase_18 : decode cX0_doNextPhase 18 = .ok (.istore_n 1, 1) := by decide +kernel
theorem dX0_doNextPhase_19 : decode cX0_doNextPhase 19 = .ok (.iload_n 1, 1) := by decide +kernel
theorem dX0_doNextPhase_20 : decode cX0_doNextPhase 20 = .ok (.aload_n 0, 1) := by decide +kernel
theorem dX0_doNextPhase_21 : decode cX0_doNextPhase 21 = .ok (.getfield 32, 3) := by decide +kernel
theorem dX0_doNextPhase_24 : decode cX0_doNextPhase 24 = .ok (.arraylength, 1) := by decide +kernel
theorem dX0_doNextPhase_25 : decode cX0_doNextPhase 25 = .ok (.invokestatic 68, 3) := by decide +kernel
theorem dX0_doNextPhase_28 : decode cX0_doNextPhase 28 = .ok (.ifCond .ne 5, 3) := by decide +kernel
theorem dX0_doNextPhase_31 : decode cX0_doNextPhase 31 = .ok (.iconst 0, 1) := by decide +kernel
theorem dX0_doNextPhase_32 : decode cX0_doNextPhase 32 = .ok (.ireturn, 1) := by decide +kernel
theorem dX0_doNextPhase_33 : decode cX0_doNextPhase 33 = .ok (.aload_n 0, 1) := by decide +kernel
theorem dX0_doNextPhase_34 : decode cX0_doNextPhase 34 = .ok (.getfield 32, 3) := by decide +kernel
theorem dX0_doNextPhase_37 : decode cX0_doNextPhase 37 = .ok (.iload_n 1, 1) := by decide +kernel
theorem dX0_doNextPhase_38 : decode cX0_doNextPhase 38 = .ok (.aaload, 1) := by decide +kernel
theorem dX0_doNextPhase_39 : decode cX0_doNextPhase 39 = .ok (.astore_n 2, 1) := by decide +kernel
theorem dX0_doNextPhase_40 : decode cX0_doNextPhase 40 = .ok (.aload_n 0, 1) := by decide +kernel
theorem dX0_doNextPhase_41 : decode cX0_doNextPhase 41 = .ok (.aload_n 0, 1) := by decide +kernel
theorem dX0_doNextPhase_42 : decode cX0_doNextPhase 42 = .ok (.getfield 19, 3) := by decide +kernel
theorem dX0_doNextPhase_45 : decode cX0_doNextPhase 45 = .ok (.aload_n 2, 1) := by decide +kernel
theorem dX0_doNextPhase_46 : decode cX0_doNextPhase 46 = .ok (.invokevirtual 72, 3) := by decide +kernel
theorem dX0_doNextPhase_49 : decode cX0_doNextPhase 49 = .ok (.istore_n 3, 1) := by decide +kernel
theorem dX0_doNextPhase_50 : decode cX0_doNextPhase 50 = .ok (.aload_n 0, 1) := by decide +kernel
theorem dX0_doNextPhase_51 : decode cX0_doNextPhase 51 = .ok (.iload_n 3, 1) := by decide +kernel
theorem dX0_doNextPhase_52 : decode cX0_doNextPhase 52 = .ok (.putfield 19, 3) := by decide +kernel
theorem dX0_doNextPhase_55 : decode cX0_doNextPhase 55 = .ok (.aload_n 0, 1) := by decide +kernel
theorem dX0_doNextPhase_56 : decode cX0_doNextPhase 56 = .ok (.getfield 9, 3) := by decide +kernel
theorem dX0_doNextPhase_59 : decode cX0_doNextPhase 59 = .ok (.iload_n 3, 1) := by decide +kernel
theorem dX0_doNextPhase_60 : decode cX0_doNextPhase 60 = .ok (.iconst 1, 1) := by decide +kernel
theorem dX0_doNextPhase_61 : decode cX0_doNextPhase 61 = .ok (.isub, 1) := by decide +kernel
theorem dX0_doNextPhase_62 : decode cX0_doNextPhase 62 = .ok (.dup2, 1) := by decide +kernel
theorem dX0_doNextPhase_63 : decode cX0_doNextPhase 63 = .ok (.iaload, 1) := by decide +kernel
theorem dX0_doNextPhase_64 : decode cX0_doNextPhase 64 = .ok (.iconst 1, 1) := by decide +kernel
theorem dX0_doNextPhase_65 : decode cX0_doNextPhase 65 = .ok (.iadd, 1) := by decide +kernel
theorem dX0_doNextPhase_66 : decode cX0_doNextPhase 66 = .ok (.iastore, 1) := by decide +kernel
theorem dX0_doNextPhase_67 : decode cX0_doNextPhase 67 = .ok (.iload_n 3, 1) := by decide +kernel
theorem dX0_doNextPhase_68 : decode cX0_doNextPhase 68 = .ok (.tableswitch 61 1 3 #[28, 36, 54], 28) := by decide +kernel
theorem dX0_doNextPhase_96 : decode cX0_doNextPhase 96 = .ok (.aload_n 0, 1) := by decide +kernel
theorem dX0_doNextPhase_97 : decode cX0_doNextPhase 97 = .ok (.aload_n 2, 1) := by decide +kernel
theorem dX0_doNextPhase_98 : decode cX0_doNextPhase 98 = .ok (.invokevirtual 76, 3) := by decide +kernel
theorem dX0_doNextPhase_101 : decode cX0_doNextPhase 101 = .ok (.goto 37, 3) := by decide +kernel
theorem dX0_doNextPhase_104 : decode cX0_doNextPhase 104 = .ok (.aload_n 0, 1) := by decide +kernel
theorem dX0_doNextPhase_105 : decode cX0_doNextPhase 105 = .ok (.getfield 36, 3) := by decide +kernel
theorem dX0_doNextPhase_108 : decode cX0_doNextPhase 108 = .ok (.aload_n 2, 1) := by decide +kernel
theorem dX0_doNextPhase_109 : decode cX0_doNextPhase 109 = .ok (.aload_n 0, 1) := by decide +kernel
theorem dX0_doNextPhase_110 : decode cX0_doNextPhase 110 = .ok (.getfield 29, 3) := by decide +kernel
theorem dX0_doNextPhase_113 : decode cX0_doNextPhase 113 = .ok (.invokevirtual 80, 3) := by decide +kernel
theorem dX0_doNextPhase_116 : decode cX0_doNextPhase 116 = .ok (.invokevirtual 84, 3) := by decide +kernel
theorem dX0_doNextPhase_119 : decode cX0_doNextPhase 119 = .ok (.goto 19, 3) := by decide +kernel
theorem dX0_doNextPhase_122 : decode cX0_doNextPhase 122 = .ok (.aload_n 0, 1) := by decide +kernel
theorem dX0_doNextPhase_123 : decode cX0_doNextPhase 123 = .ok (.invokevirtual 88, 3) := by decide +kernel
theorem dX0_doNextPhase_126 : decode cX0_doNextPhase 126 = .ok (.goto 12, 3) := by decide +kernel
theorem dX0_doNextPhase_129 : decode cX0_doNextPhase 129 = .ok (.aload_n 0, 1) := by decide +kernel
theorem dX0_doNextPhase_130 : decode cX0_doNextPhase 130 = .ok (.aload_n 2, 1) := by decide +kernel
theorem dX0_doNextPhase_131 : decode cX0_doNextPhase 131 = .ok (.invokevirtual 91, 3) := by decide +kernel
theorem dX0_doNextPhase_134 : decode cX0_doNextPhase 134 = .ok (.aload_n 0, 1) := by decide +kernel
theorem dX0_doNextPhase_135 : decode cX0_doNextPhase 135 = .ok (.invokevirtual 94, 3) := by decide +kernel
theorem dX0_doNextPhase_138 : decode cX0_doNextPhase 138 = .ok (.iload_n 3, 1) := by decide +kernel
theorem dX0_doNextPhase_139 : decode cX0_doNextPhase 139 = .ok (.ireturn, 1) := by decide +kernel
theorem dX0_lowestWithRequest_0 : decode cX0_lowestWithRequest 0 = .ok (.iconst 0, 1) := by decide +kernel
theorem dX0_lowestWithRequest_1 : decode cX0_lowestWithRequest 1 = .ok (.istore_n 1, 1) := by decide +kernel
theorem dX0_lowestWithRequest_2 : decode cX0_lowestWithRequest 2 = .ok (.iload_n 1, 1) := by decide +kernel
theorem dX0_lowestWithRequest_3 : decode cX0_lowestWithRequest 3 = .ok (.aload_n 0, 1) := by decide +kernel
theorem dX0_lowestWithRequest_4 : decode cX0_lowestWithRequest 4 = .ok (.getfield 32, 3) := by decide +kernel
theorem dX0_lowestWithRequest_7 : decode cX0_lowestWithRequest 7 = .ok (.arraylength, 1) := by decide +kernel
theorem dX0_lowestWithRequest_8 : decode cX0_lowestWithRequest 8 = .ok (.if_icmp .ge 23, 3) := by decide +kernel
theorem dX0_lowestWithRequest_11 : decode cX0_lowestWithRequest 11 = .ok (.aload_n 0, 1) := by decide +kernel
theorem dX0_lowestWithRequest_12 : decode cX0_lowestWithRequest 12 = .ok (.getfield 32, 3) := by decide +kernel
theorem dX0_lowestWithRequest_15 : decode cX0_lowestWithRequest 15 = .ok (.iload_n 1, 1) := by decide +kernel
theorem dX0_lowestWithRequest_16 : decode cX0_lowestWithRequest 16 = .ok (.aaload, 1) := by decide +kernel
theorem dX0_lowestWithRequest_17 : decode cX0_lowestWithRequest 17 = .ok (.getfield 97, 3) := by decide +kernel
theorem dX0_lowestWithRequest_20 : decode cX0_lowestWithRequest 20 = .ok (.ifCond .eq 5, 3) := by decide +kernel
theorem dX0_lowestWithRequest_23 : decode cX0_lowestWithRequest 23 = .ok (.iload_n 1, 1) := by decide +kernel
theorem dX0_lowestWithRequest_24 : decode cX0_lowestWithRequest 24 = .ok (.ireturn, 1) := by decide +kernel
theorem dX0_lowestWithRequest_25 : decode cX0_lowestWithRequest 25 = .ok (.iinc 1 1, 3) := by decide +kernel
theorem dX0_lowestWithRequest_28 : decode cX0_lowestWithRequest 28 = .ok (.goto (-26), 3) := by decide +kernel
theorem dX0_lowestWithRequest_31 : decode cX0_lowestWithRequest 31 = .ok (.iconst (-1), 1) := by decide +kernel
theorem dX0_lowestWithRequest_32 : decode cX0_lowestWithRequest 32 = .ok (.ireturn, 1) := by decide +kernel
theorem dX0_phaseAfter_0 : decode cX0_phaseAfter 0 = .ok (.iload_n 1, 1) := by decide +kernel
theorem dX0_phaseAfter_1 : decode cX0_phaseAfter 1 = .ok (.tableswitch 52 0 2 #[27, 29, 50], 27) := by decide +kernel
theorem dX0_phaseAfter_28 : decode cX0_phaseAfter 28 = .ok (.iconst 1, 1) := by decide +kernel
theorem dX0_phaseAfter_29 : decode cX0_phaseAfter 29 = .ok (.ireturn, 1) := by decide +kernel
theorem dX0_phaseAfter_30 : decode cX0_phaseAfter 30 = .ok (.aload_n 0, 1) := by decide +kernel
theorem dX0_phaseAfter_31 : decode cX0_phaseAfter 31 = .ok (.aload_n 2, 1) := by decide +kernel
theorem dX0_phaseAfter_32 : decode cX0_phaseAfter 32 = .ok (.aload_n 0, 1) := by decide +kernel
theorem dX0_phaseAfter_33 : decode cX0_phaseAfter 33 = .ok (.getfield 29, 3) := by decide +kernel
theorem dX0_phaseAfter_36 : decode cX0_phaseAfter 36 = .ok (.invokevirtual 80, 3) := by decide +kernel
theorem dX0_phaseAfter_39 : decode cX0_phaseAfter 39 = .ok (.invokevirtual 98, 3) := by decide +kernel
theorem dX0_phaseAfter_42 : decode cX0_phaseAfter 42 = .ok (.ifCond .eq 7, 3) := by decide +kernel
theorem dX0_phaseAfter_45 : decode cX0_phaseAfter 45 = .ok (.iconst 2, 1) := by decide +kernel
theorem dX0_phaseAfter_46 : decode cX0_phaseAfter 46 = .ok (.goto 4, 3) := by decide +kernel
theorem dX0_phaseAfter_49 : decode cX0_phaseAfter 49 = .ok (.iconst 3, 1) := by decide +kernel
theorem dX0_phaseAfter_50 : decode cX0_phaseAfter 50 = .ok (.ireturn, 1) := by decide +kernel
theorem dX0_phaseAfter_51 : decode cX0_phaseAfter 51 = .ok (.iconst 3, 1) := by decide +kernel
theorem dX0_phaseAfter_52 : decode cX0_phaseAfter 52 = .ok (.ireturn, 1) := by decide +kernel
theorem dX0_phaseAfter_53 : decode cX0_phaseAfter 53 = .ok (.iconst 4, 1) := by decide +kernel
theorem dX0_phaseAfter_54 : decode cX0_phaseAfter 54 = .ok (.ireturn, 1) := by decide +kernel
theorem dX0_mustWriteBack_0 : decode cX0_mustWriteBack 0 = .ok (.aload_n 1, 1) := by decide +kernel
theorem dX0_mustWriteBack_1 : decode cX0_mustWriteBack 1 = .ok (.invokevirtual 102, 3) := by decide +kernel
theorem dX0_mustWriteBack_4 : decode cX0_mustWriteBack 4 = .ok (.ifCond .eq 18, 3) := by decide +kernel
theorem dX0_mustWriteBack_7 : decode cX0_mustWriteBack 7 = .ok (.aload_n 1, 1) := by decide +kernel
theorem dX0_mustWriteBack_8 : decode cX0_mustWriteBack 8 = .ok (.getfield 106, 3) := by decide +kernel
theorem dX0_mustWriteBack_11 : decode cX0_mustWriteBack 11 = .ok (.aload_n 0, 1) := by decide +kernel
theorem dX0_mustWriteBack_12 : decode cX0_mustWriteBack 12 = .ok (.getfield 29, 3) := by decide +kernel
theorem dX0_mustWriteBack_15 : decode cX0_mustWriteBack 15 = .ok (.if_icmp .eq 7, 3) := by decide +kernel
theorem dX0_mustWriteBack_18 : decode cX0_mustWriteBack 18 = .ok (.iconst 1, 1) := by decide +kernel
theorem dX0_mustWriteBack_19 : decode cX0_mustWriteBack 19 = .ok (.goto 4, 3) := by decide +kernel
theorem dX0_mustWriteBack_22 : decode cX0_mustWriteBack 22 = .ok (.iconst 0, 1) := by decide +kernel
theorem dX0_mustWriteBack_23 : decode cX0_mustWriteBack 23 = .ok (.ireturn, 1) := by decide +kernel
theorem dX3_isNewerThanMemory_0 : decode cX3_isNewerThanMemory 0 = .ok (.aload_n 0, 1) := by decide +kernel
theorem dX3_isNewerThanMemory_1 : decode cX3_isNewerThanMemory 1 = .ok (.getfield 9, 3) := by decide +kernel
theorem dX3_isNewerThanMemory_4 : decode cX3_isNewerThanMemory 4 = .ok (.iconst 3, 1) := by decide +kernel
theorem dX3_isNewerThanMemory_5 : decode cX3_isNewerThanMemory 5 = .ok (.if_icmp .eq 11, 3) := by decide +kernel
theorem dX3_isNewerThanMemory_8 : decode cX3_isNewerThanMemory 8 = .ok (.aload_n 0, 1) := by decide +kernel
theorem dX3_isNewerThanMemory_9 : decode cX3_isNewerThanMemory 9 = .ok (.getfield 9, 3) := by decide +kernel
theorem dX3_isNewerThanMemory_12 : decode cX3_isNewerThanMemory 12 = .ok (.iconst 4, 1) := by decide +kernel
theorem dX3_isNewerThanMemory_13 : decode cX3_isNewerThanMemory 13 = .ok (.if_icmp .ne 7, 3) := by decide +kernel
theorem dX3_isNewerThanMemory_16 : decode cX3_isNewerThanMemory 16 = .ok (.iconst 1, 1) := by decide +kernel
theorem dX3_isNewerThanMemory_17 : decode cX3_isNewerThanMemory 17 = .ok (.goto 4, 3) := by decide +kernel
theorem dX3_isNewerThanMemory_20 : decode cX3_isNewerThanMemory 20 = .ok (.iconst 0, 1) := by decide +kernel
theorem dX3_isNewerThanMemory_21 : decode cX3_isNewerThanMemory 21 = .ok (.ireturn, 1) := by decide +kernel
theorem dX0_begin_0 : decode cX0_begin 0 = .ok (.aload_n 0, 1) := by decide +kernel
theorem dX0_begin_1 : decode cX0_begin 1 = .ok (.aload_n 1, 1) := by decide +kernel
theorem dX0_begin_2 : decode cX0_begin 2 = .ok (.getfield 107, 3) := by decide +kernel
theorem dX0_begin_5 : decode cX0_begin 5 = .ok (.putfield 23, 3) := by decide +kernel
theorem dX0_begin_8 : decode cX0_begin 8 = .ok (.aload_n 0, 1) := by decide +kernel
theorem dX0_begin_9 : decode cX0_begin 9 = .ok (.aload_n 1, 1) := by decide +kernel
theorem dX0_begin_10 : decode cX0_begin 10 = .ok (.getfield 97, 3) := by decide +kernel
theorem dX0_begin_13 : decode cX0_begin 13 = .ok (.putfield 26, 3) := by decide +kernel
theorem dX0_begin_16 : decode cX0_begin 16 = .ok (.aload_n 0, 1) := by decide +kernel
theorem dX0_begin_17 : decode cX0_begin 17 = .ok (.aload_n 1, 1) := by decide +kernel
theorem dX0_begin_18 : decode cX0_begin 18 = .ok (.getfield 110, 3) := by decide +kernel
theorem dX0_begin_21 : decode cX0_begin 21 = .ok (.putfield 29, 3) := by decide +kernel
theorem dX0_begin_24 : decode cX0_begin 24 = .ok (.aload_n 1, 1) := by decide +kernel
theorem dX0_begin_25 : decode cX0_begin 25 = .ok (.invokevirtual 113, 3) := by decide +kernel
theorem dX0_begin_28 : decode cX0_begin 28 = .ok (.return_, 1) := by decide +kernel
theorem dX1_forgetRequest_0 : decode cX1_forgetRequest 0 = .ok (.aload_n 0, 1) := by decide +kernel
theorem dX1_forgetRequest_1 : decode cX1_forgetRequest 1 = .ok (.iconst 0, 1) := by decide +kernel
theorem dX1_forgetRequest_2 : decode cX1_forgetRequest 2 = .ok (.putfield 25, 3) := by decide +kernel
theorem dX1_forgetRequest_5 : decode cX1_forgetRequest 5 = .ok (.aload_n 0, 1) := by decide +kernel
theorem dX1_forgetRequest_6 : decode cX1_forgetRequest 6 = .ok (.iconst (-1), 1) := by decide +kernel
theorem dX1_forgetRequest_7 : decode cX1_forgetRequest 7 = .ok (.putfield 28, 3) := by decide +kernel
theorem dX1_forgetRequest_10 : decode cX1_forgetRequest 10 = .ok (.return_, 1) := by decide +kernel
theorem dX2_giveUp_0 : decode cX2_giveUp 0 = .ok (.aload_n 1, 1) := by decide +kernel
theorem dX2_giveUp_1 : decode cX2_giveUp 1 = .ok (.invokevirtual 29, 3) := by decide +kernel
theorem dX2_giveUp_4 : decode cX2_giveUp 4 = .ok (.ifCond .eq 28, 3) := by decide +kernel
theorem dX2_giveUp_7 : decode cX2_giveUp 7 = .ok (.aload_n 1, 1) := by decide +kernel
theorem dX2_giveUp_8 : decode cX2_giveUp 8 = .ok (.getfield 35, 3) := by decide +kernel
theorem dX2_giveUp_11 : decode cX2_giveUp 11 = .ok (.iconst 0, 1) := by decide +kernel
theorem dX2_giveUp_12 : decode cX2_giveUp 12 = .ok (.aload_n 0, 1) := by decide +kernel
theorem dX2_giveUp_13 : decode cX2_giveUp 13 = .ok (.getfield 15, 3) := by decide +kernel
theorem dX2_giveUp_16 : decode cX2_giveUp 16 = .ok (.aload_n 1, 1) := by decide +kernel
theorem dX2_giveUp_17 : decode cX2_giveUp 17 = .ok (.getfield 36, 3) := by decide +kernel
theorem dX2_giveUp_20 : decode cX2_giveUp 20 = .ok (.aload_n 0, 1) := by decide +kernel
theorem dX2_giveUp_21 : decode cX2_giveUp 21 = .ok (.getfield 9, 3) := by decide +kernel
theorem dX2_giveUp_24 : decode cX2_giveUp 24 = .ok (.imul, 1) := by decide +kernel
theorem dX2_giveUp_25 : decode cX2_giveUp 25 = .ok (.aload_n 0, 1) := by decide +kernel
theorem dX2_giveUp_26 : decode cX2_giveUp 26 = .ok (.getfield 9, 3) := by decide +kernel
theorem dX2_giveUp_29 : decode cX2_giveUp 29 = .ok (.invokestatic 23, 3) := by decide +kernel
theorem dX2_giveUp_32 : decode cX2_giveUp 32 = .ok (.aload_n 1, 1) := by decide +kernel
theorem dX2_giveUp_33 : decode cX2_giveUp 33 = .ok (.iconst 0, 1) := by decide +kernel
theorem dX2_giveUp_34 : decode cX2_giveUp 34 = .ok (.putfield 39, 3) := by decide +kernel
theorem dX2_giveUp_37 : decode cX2_giveUp 37 = .ok (.aload_n 1, 1) := by decide +kernel
theorem dX2_giveUp_38 : decode cX2_giveUp 38 = .ok (.iconst (-1), 1) := by decide +kernel
theorem dX2_giveUp_39 : decode cX2_giveUp 39 = .ok (.putfield 36, 3) := by decide +kernel
theorem dX2_giveUp_42 : decode cX2_giveUp 42 = .ok (.return_, 1) := by decide +kernel
theorem dX0_snoop_0 : decode cX0_snoop 0 = .ok (.aload_n 0, 1) := by decide +kernel
theorem dX0_snoop_1 : decode cX0_snoop 1 = .ok (.getfield 36, 3) := by decide +kernel
theorem dX0_snoop_4 : decode cX0_snoop 4 = .ok (.aload_n 0, 1) := by decide +kernel
theorem dX0_snoop_5 : decode cX0_snoop 5 = .ok (.getfield 29, 3) := by decide +kernel
theorem dX0_snoop_8 : decode cX0_snoop 8 = .ok (.aload_n 0, 1) := by decide +kernel
theorem dX0_snoop_9 : decode cX0_snoop 9 = .ok (.getfield 45, 3) := by decide +kernel
theorem dX0_snoop_12 : decode cX0_snoop 12 = .ok (.invokevirtual 116, 3) := by decide +kernel
theorem dX0_snoop_15 : decode cX0_snoop 15 = .ok (.aload_n 0, 1) := by decide +kernel
theorem dX0_snoop_16 : decode cX0_snoop 16 = .ok (.iconst 0, 1) := by decide +kernel
theorem dX0_snoop_17 : decode cX0_snoop 17 = .ok (.putfield 15, 3) := by decide +kernel
theorem dX0_snoop_20 : decode cX0_snoop 20 = .ok (.iconst 0, 1) := by decide +kernel
theorem dX0_snoop_21 : decode cX0_snoop 21 = .ok (.istore_n 1, 1) := by decide +kernel
theorem dX0_snoop_22 : decode cX0_snoop 22 = .ok (.iload_n 1, 1) := by decide +kernel
theorem dX0_snoop_23 : decode cX0_snoop 23 = .ok (.aload_n 0, 1) := by decide +kernel
theorem dX0_snoop_24 : decode cX0_snoop 24 = .ok (.getfield 32, 3) := by decide +kernel
theorem dX0_snoop_27 : decode cX0_snoop 27 = .ok (.arraylength, 1) := by decide +kernel
theorem dX0_snoop_28 : decode cX0_snoop 28 = .ok (.if_icmp .ge 47, 3) := by decide +kernel
theorem dX0_snoop_31 : decode cX0_snoop 31 = .ok (.aload_n 0, 1) := by decide +kernel
theorem dX0_snoop_32 : decode cX0_snoop 32 = .ok (.getfield 32, 3) := by decide +kernel
theorem dX0_snoop_35 : decode cX0_snoop 35 = .ok (.iload_n 1, 1) := by decide +kernel
theorem dX0_snoop_36 : decode cX0_snoop 36 = .ok (.aaload, 1) := by decide +kernel
theorem dX0_snoop_37 : decode cX0_snoop 37 = .ok (.aload_n 0, 1) := by decide +kernel
theorem dX0_snoop_38 : decode cX0_snoop 38 = .ok (.getfield 29, 3) := by decide +kernel
theorem dX0_snoop_41 : decode cX0_snoop 41 = .ok (.invokevirtual 80, 3) := by decide +kernel
theorem dX0_snoop_44 : decode cX0_snoop 44 = .ok (.astore_n 2, 1) := by decide +kernel
theorem dX0_snoop_45 : decode cX0_snoop 45 = .ok (.iload_n 1, 1) := by decide +kernel
theorem dX0_snoop_46 : decode cX0_snoop 46 = .ok (.aload_n 0, 1) := by decide +kernel
theorem dX0_snoop_47 : decode cX0_snoop 47 = .ok (.getfield 23, 3) := by decide +kernel
theorem dX0_snoop_50 : decode cX0_snoop 50 = .ok (.if_icmp .eq 19, 3) := by decide +kernel
theorem dX0_snoop_53 : decode cX0_snoop 53 = .ok (.aload_n 2, 1) := by decide +kernel
theorem dX0_snoop_54 : decode cX0_snoop 54 = .ok (.aload_n 0, 1) := by decide +kernel
theorem dX0_snoop_55 : decode cX0_snoop 55 = .ok (.getfield 29, 3) := by decide +kernel
theorem dX0_snoop_58 : decode cX0_snoop 58 = .ok (.invokevirtual 54, 3) := by decide +kernel
theorem dX0_snoop_61 : decode cX0_snoop 61 = .ok (.ifCond .eq 8, 3) := by decide +kernel
theorem dX0_snoop_64 : decode cX0_snoop 64 = .ok (.aload_n 0, 1) := by decide +kernel
theorem dX0_snoop_65 : decode cX0_snoop 65 = .ok (.aload_n 2, 1) := by decide +kernel
theorem dX0_snoop_66 : decode cX0_snoop 66 = .ok (.invokevirtual 120, 3) := by decide +kernel
theorem dX0_snoop_69 : decode cX0_snoop 69 = .ok (.iinc 1 1, 3) := by decide +kernel
theorem dX0_snoop_72 : decode cX0_snoop 72 = .ok (.goto (-50), 3) := by decide +kernel
theorem dX0_snoop_75 : decode cX0_snoop 75 = .ok (.return_, 1) := by decide +kernel
theorem dX2_readLine_0 : decode cX2_readLine 0 = .ok (.aload_n 0, 1) := by decide +kernel
theorem dX2_readLine_1 : decode cX2_readLine 1 = .ok (.getfield 15, 3) := by decide +kernel
theorem dX2_readLine_4 : decode cX2_readLine 4 = .ok (.iload_n 1, 1) := by decide +kernel
theorem dX2_readLine_5 : decode cX2_readLine 5 = .ok (.aload_n 0, 1) := by decide +kernel
theorem dX2_readLine_6 : decode cX2_readLine 6 = .ok (.getfield 9, 3) := by decide +kernel
theorem dX2_readLine_9 : decode cX2_readLine 9 = .ok (.imul, 1) := by decide +kernel
theorem dX2_readLine_10 : decode cX2_readLine 10 = .ok (.aload_n 2, 1) := by decide +kernel
theorem dX2_readLine_11 : decode cX2_readLine 11 = .ok (.iconst 0, 1) := by decide +kernel
theorem dX2_readLine_12 : decode cX2_readLine 12 = .ok (.aload_n 0, 1) := by decide +kernel
theorem dX2_readLine_13 : decode cX2_readLine 13 = .ok (.getfield 9, 3) := by decide +kernel
theorem dX2_readLine_16 : decode cX2_readLine 16 = .ok (.invokestatic 23, 3) := by decide +kernel
theorem dX2_readLine_19 : decode cX2_readLine 19 = .ok (.return_, 1) := by decide +kernel
theorem dX0_lookOn_0 : decode cX0_lookOn 0 = .ok (.aload_n 0, 1) := by decide +kernel
theorem dX0_lookOn_1 : decode cX0_lookOn 1 = .ok (.iconst 1, 1) := by decide +kernel
theorem dX0_lookOn_2 : decode cX0_lookOn 2 = .ok (.putfield 15, 3) := by decide +kernel
theorem dX0_lookOn_5 : decode cX0_lookOn 5 = .ok (.aload_n 1, 1) := by decide +kernel
theorem dX0_lookOn_6 : decode cX0_lookOn 6 = .ok (.invokevirtual 102, 3) := by decide +kernel
theorem dX0_lookOn_9 : decode cX0_lookOn 9 = .ok (.ifCond .eq 21, 3) := by decide +kernel
theorem dX0_lookOn_12 : decode cX0_lookOn 12 = .ok (.aload_n 1, 1) := by decide +kernel
theorem dX0_lookOn_13 : decode cX0_lookOn 13 = .ok (.getfield 123, 3) := by decide +kernel
theorem dX0_lookOn_16 : decode cX0_lookOn 16 = .ok (.iconst 0, 1) := by decide +kernel
theorem dX0_lookOn_17 : decode cX0_lookOn 17 = .ok (.aload_n 0, 1) := by decide +kernel
theorem dX0_lookOn_18 : decode cX0_lookOn 18 = .ok (.getfield 45, 3) := by decide +kernel
theorem dX0_lookOn_21 : decode cX0_lookOn 21 = .ok (.iconst 0, 1) := by decide +kernel
theorem dX0_lookOn_22 : decode cX0_lookOn 22 = .ok (.aload_n 0, 1) := by decide +kernel
theorem dX0_lookOn_23 : decode cX0_lookOn 23 = .ok (.getfield 45, 3) := by decide +kernel
theorem dX0_lookOn_26 : decode cX0_lookOn 26 = .ok (.arraylength, 1) := by decide +kernel
theorem dX0_lookOn_27 : decode cX0_lookOn 27 = .ok (.invokestatic 126, 3) := by decide +kernel
theorem dX0_lookOn_30 : decode cX0_lookOn 30 = .ok (.aload_n 0, 1) := by decide +kernel
theorem dX0_lookOn_31 : decode cX0_lookOn 31 = .ok (.getfield 26, 3) := by decide +kernel
theorem dX0_lookOn_34 : decode cX0_lookOn 34 = .ok (.iconst 1, 1) := by decide +kernel
theorem dX0_lookOn_35 : decode cX0_lookOn 35 = .ok (.if_icmp .ne 10, 3) := by decide +kernel
theorem dX0_lookOn_38 : decode cX0_lookOn 38 = .ok (.aload_n 1, 1) := by decide +kernel
theorem dX0_lookOn_39 : decode cX0_lookOn 39 = .ok (.invokevirtual 132, 3) := by decide +kernel
theorem dX0_lookOn_42 : decode cX0_lookOn 42 = .ok (.goto 11, 3) := by decide +kernel
theorem dX0_lookOn_45 : decode cX0_lookOn 45 = .ok (.aload_n 0, 1) := by decide +kernel
theorem dX0_lookOn_46 : decode cX0_lookOn 46 = .ok (.getfield 36, 3) := by decide +kernel
theorem dX0_lookOn_49 : decode cX0_lookOn 49 = .ok (.aload_n 1, 1) := by decide +kernel
theorem dX0_lookOn_50 : decode cX0_lookOn 50 = .ok (.invokevirtual 84, 3) := by decide +kernel
theorem dX0_lookOn_53 : decode cX0_lookOn 53 = .ok (.return_, 1) := by decide +kernel
theorem dX3_letOthersRead_0 : decode cX3_letOthersRead 0 = .ok (.aload_n 0, 1) := by decide +kernel
theorem dX3_letOthersRead_1 : decode cX3_letOthersRead 1 = .ok (.getfield 9, 3) := by decide +kernel
theorem dX3_letOthersRead_4 : decode cX3_letOthersRead 4 = .ok (.iconst 4, 1) := by decide +kernel
theorem dX3_letOthersRead_5 : decode cX3_letOthersRead 5 = .ok (.if_icmp .ne 11, 3) := by decide +kernel
theorem dX3_letOthersRead_8 : decode cX3_letOthersRead 8 = .ok (.aload_n 0, 1) := by decide +kernel
theorem dX3_letOthersRead_9 : decode cX3_letOthersRead 9 = .ok (.iconst 3, 1) := by decide +kernel
theorem dX3_letOthersRead_10 : decode cX3_letOthersRead 10 = .ok (.putfield 9, 3) := by decide +kernel
theorem dX3_letOthersRead_13 : decode cX3_letOthersRead 13 = .ok (.goto 16, 3) := by decide +kernel
theorem dX3_letOthersRead_16 : decode cX3_letOthersRead 16 = .ok (.aload_n 0, 1) := by decide +kernel
theorem dX3_letOthersRead_17 : decode cX3_letOthersRead 17 = .ok (.getfield 9, 3) := by decide +kernel
theorem dX3_letOthersRead_20 : decode cX3_letOthersRead 20 = .ok (.iconst 2, 1) := by decide +kernel
theorem dX3_letOthersRead_21 : decode cX3_letOthersRead 21 = .ok (.if_icmp .ne 8, 3) := by decide +kernel
theorem dX3_letOthersRead_24 : decode cX3_letOthersRead 24 = .ok (.aload_n 0, 1) := by decide +kernel
theorem dX3_letOthersRead_25 : decode cX3_letOthersRead 25 = .ok (.iconst 1, 1) := by decide +kernel
theorem dX3_letOthersRead_26 : decode cX3_letOthersRead 26 = .ok (.putfield 9, 3) := by decide +kernel
theorem dX3_letOthersRead_29 : decode cX3_letOthersRead 29 = .ok (.return_, 1) := by decide +kernel
theorem dX0_supply_0 : decode cX0_supply 0 = .ok (.aload_n 1, 1) := by decide +kernel
theorem dX0_supply_1 : decode cX0_supply 1 = .ok (.aload_n 0, 1) := by decide +kernel
theorem dX0_supply_2 : decode cX0_supply 2 = .ok (.getfield 29, 3) := by decide +kernel
theorem dX0_supply_5 : decode cX0_supply 5 = .ok (.invokevirtual 80, 3) := by decide +kernel
theorem dX0_supply_8 : decode cX0_supply 8 = .ok (.astore_n 2, 1) := by decide +kernel
theorem dX0_supply_9 : decode cX0_supply 9 = .ok (.aload_n 2, 1) := by decide +kernel
theorem dX0_supply_10 : decode cX0_supply 10 = .ok (.aload_n 0, 1) := by decide +kernel
theorem dX0_supply_11 : decode cX0_supply 11 = .ok (.getfield 29, 3) := by decide +kernel
theorem dX0_supply_14 : decode cX0_supply 14 = .ok (.invokevirtual 54, 3) := by decide +kernel
theorem dX0_supply_17 : decode cX0_supply 17 = .ok (.ifCond .ne 15, 3) := by decide +kernel
theorem dX0_supply_20 : decode cX0_supply 20 = .ok (.aload_n 2, 1) := by decide +kernel
theorem dX0_supply_21 : decode cX0_supply 21 = .ok (.aload_n 0, 1) := by decide +kernel
theorem dX0_supply_22 : decode cX0_supply 22 = .ok (.getfield 29, 3) := by decide +kernel
theorem dX0_supply_25 : decode cX0_supply 25 = .ok (.aload_n 0, 1) := by decide +kernel
theorem dX0_supply_26 : decode cX0_supply 26 = .ok (.getfield 45, 3) := by decide +kernel
theorem dX0_supply_29 : decode cX0_supply 29 = .ok (.invokevirtual 135, 3) := by decide +kernel
theorem dX0_supply_32 : decode cX0_supply 32 = .ok (.aload_n 0, 1) := by decide +kernel
theorem dX0_supply_33 : decode cX0_supply 33 = .ok (.getfield 26, 3) := by decide +kernel
theorem dX0_supply_36 : decode cX0_supply 36 = .ok (.iconst 2, 1) := by decide +kernel
theorem dX0_supply_37 : decode cX0_supply 37 = .ok (.if_icmp .ne 11, 3) := by decide +kernel
theorem dX0_supply_40 : decode cX0_supply 40 = .ok (.aload_n 2, 1) := by decide +kernel
theorem dX0_supply_41 : decode cX0_supply 41 = .ok (.iconst 4, 1) := by decide +kernel
theorem dX0_supply_42 : decode cX0_supply 42 = .ok (.putfield 138, 3) := by decide +kernel
theorem dX0_supply_45 : decode cX0_supply 45 = .ok (.goto 19, 3) := by decide +kernel
theorem dX0_supply_48 : decode cX0_supply 48 = .ok (.aload_n 2, 1) := by decide +kernel
theorem dX0_supply_49 : decode cX0_supply 49 = .ok (.aload_n 0, 1) := by decide +kernel
theorem dX0_supply_50 : decode cX0_supply 50 = .ok (.getfield 15, 3) := by decide +kernel
theorem dX0_supply_53 : decode cX0_supply 53 = .ok (.ifCond .eq 7, 3) := by decide +kernel
theorem dX0_supply_56 : decode cX0_supply 56 = .ok (.iconst 1, 1) := by decide +kernel
theorem dX0_supply_57 : decode cX0_supply 57 = .ok (.goto 4, 3) := by decide +kernel
theorem dX0_supply_60 : decode cX0_supply 60 = .ok (.iconst 2, 1) := by decide +kernel
theorem dX0_supply_61 : decode cX0_supply 61 = .ok (.putfield 138, 3) := by decide +kernel
theorem dX0_supply_64 : decode cX0_supply 64 = .ok (.aload_n 1, 1) := by decide +kernel
theorem dX0_supply_65 : decode cX0_supply 65 = .ok (.iconst 0, 1) := by decide +kernel
theorem dX0_supply_66 : decode cX0_supply 66 = .ok (.putfield 141, 3) := by decide +kernel
theorem dX0_supply_69 : decode cX0_supply 69 = .ok (.return_, 1) := by decide +kernel
theorem dX3_take_0 : decode cX3_take 0 = .ok (.aload_n 0, 1) := by decide +kernel
theorem dX3_take_1 : decode cX3_take 1 = .ok (.iload_n 1, 1) := by decide +kernel
theorem dX3_take_2 : decode cX3_take 2 = .ok (.putfield 15, 3) := by decide +kernel
theorem dX3_take_5 : decode cX3_take 5 = .ok (.aload_n 2, 1) := by decide +kernel
theorem dX3_take_6 : decode cX3_take 6 = .ok (.iconst 0, 1) := by decide +kernel
theorem dX3_take_7 : decode cX3_take 7 = .ok (.aload_n 0, 1) := by decide +kernel
theorem dX3_take_8 : decode cX3_take 8 = .ok (.getfield 18, 3) := by decide +kernel
theorem dX3_take_11 : decode cX3_take 11 = .ok (.iconst 0, 1) := by decide +kernel
theorem dX3_take_12 : decode cX3_take 12 = .ok (.aload_n 0, 1) := by decide +kernel
theorem dX3_take_13 : decode cX3_take 13 = .ok (.getfield 18, 3) := by decide +kernel
theorem dX3_take_16 : decode cX3_take 16 = .ok (.arraylength, 1) := by decide +kernel
theorem dX3_take_17 : decode cX3_take 17 = .ok (.invokestatic 22, 3) := by decide +kernel
theorem dX3_take_20 : decode cX3_take 20 = .ok (.return_, 1) := by decide +kernel
theorem dX0_end_0 : decode cX0_end 0 = .ok (.aload_n 0, 1) := by decide +kernel
theorem dX0_end_1 : decode cX0_end 1 = .ok (.iconst 0, 1) := by decide +kernel
theorem dX0_end_2 : decode cX0_end 2 = .ok (.putfield 19, 3) := by decide +kernel
theorem dX0_end_5 : decode cX0_end 5 = .ok (.aload_n 0, 1) := by decide +kernel
theorem dX0_end_6 : decode cX0_end 6 = .ok (.iconst (-1), 1) := by decide +kernel
theorem dX0_end_7 : decode cX0_end 7 = .ok (.putfield 23, 3) := by decide +kernel
theorem dX0_end_10 : decode cX0_end 10 = .ok (.aload_n 0, 1) := by decide +kernel
theorem dX0_end_11 : decode cX0_end 11 = .ok (.iconst 0, 1) := by decide +kernel
theorem dX0_end_12 : decode cX0_end 12 = .ok (.putfield 26, 3) := by decide +kernel
theorem dX0_end_15 : decode cX0_end 15 = .ok (.aload_n 0, 1) := by decide +kernel
theorem dX0_end_16 : decode cX0_end 16 = .ok (.iconst (-1), 1) := by decide +kernel
theorem dX0_end_17 : decode cX0_end 17 = .ok (.putfield 29, 3) := by decide +kernel
theorem dX0_end_20 : decode cX0_end 20 = .ok (.return_, 1) := by decide +kernel
theorem dX0_needs_0 : decode cX0_needs 0 = .ok (.aload_n 0, 1) := by decide +kernel
theorem dX0_needs_1 : decode cX0_needs 1 = .ok (.getfield 19, 3) := by decide +kernel
theorem dX0_needs_4 : decode cX0_needs 4 = .ok (.ifCond .ne 5, 3) := by decide +kernel
theorem dX0_needs_7 : decode cX0_needs 7 = .ok (.iconst 0, 1) := by decide +kernel
theorem dX0_needs_8 : decode cX0_needs 8 = .ok (.ireturn, 1) := by decide +kernel
theorem dX0_needs_9 : decode cX0_needs 9 = .ok (.aload_n 0, 1) := by decide +kernel
theorem dX0_needs_10 : decode cX0_needs 10 = .ok (.getfield 32, 3) := by decide +kernel
theorem dX0_needs_13 : decode cX0_needs 13 = .ok (.iload_n 1, 1) := by decide +kernel
theorem dX0_needs_14 : decode cX0_needs 14 = .ok (.aaload, 1) := by decide +kernel
theorem dX0_needs_15 : decode cX0_needs 15 = .ok (.astore_n 3, 1) := by decide +kernel
theorem dX0_needs_16 : decode cX0_needs 16 = .ok (.aload_n 3, 1) := by decide +kernel
theorem dX0_needs_17 : decode cX0_needs 17 = .ok (.getfield 48, 3) := by decide +kernel
theorem dX0_needs_20 : decode cX0_needs 20 = .ok (.iload_n 2, 1) := by decide +kernel
theorem dX0_needs_21 : decode cX0_needs 21 = .ok (.aaload, 1) := by decide +kernel
theorem dX0_needs_22 : decode cX0_needs 22 = .ok (.aload_n 0, 1) := by decide +kernel
theorem dX0_needs_23 : decode cX0_needs 23 = .ok (.getfield 29, 3) := by decide +kernel
theorem dX0_needs_26 : decode cX0_needs 26 = .ok (.invokevirtual 54, 3) := by decide +kernel
theorem dX0_needs_29 : decode cX0_needs 29 = .ok (.ifCond .ne 23, 3) := by decide +kernel
theorem dX0_needs_32 : decode cX0_needs 32 = .ok (.iload_n 1, 1) := by decide +kernel
theorem dX0_needs_33 : decode cX0_needs 33 = .ok (.aload_n 0, 1) := by decide +kernel
theorem dX0_needs_34 : decode cX0_needs 34 = .ok (.getfield 23, 3) := by decide +kernel
theorem dX0_needs_37 : decode cX0_needs 37 = .ok (.if_icmp .ne 19, 3) := by decide +kernel
theorem dX0_needs_40 : decode cX0_needs 40 = .ok (.iload_n 2, 1) := by decide +kernel
theorem dX0_needs_41 : decode cX0_needs 41 = .ok (.aload_n 3, 1) := by decide +kernel
theorem dX0_needs_42 : decode cX0_needs 42 = .ok (.aload_n 0, 1) := by decide +kernel
theorem dX0_needs_43 : decode cX0_needs 43 = .ok (.getfield 29, 3) := by decide +kernel
theorem dX0_needs_46 : decode cX0_needs 46 = .ok (.invokevirtual 60, 3) := by decide +kernel
theorem dX0_needs_49 : decode cX0_needs 49 = .ok (.if_icmp .ne 7, 3) := by decide +kernel
theorem dX0_needs_52 : decode cX0_needs 52 = .ok (.iconst 1, 1) := by decide +kernel
theorem dX0_needs_53 : decode cX0_needs 53 = .ok (.goto 4, 3) := by decide +kernel
theorem dX0_needs_56 : decode cX0_needs 56 = .ok (.iconst 0, 1) := by decide +kernel
theorem dX0_needs_57 : decode cX0_needs 57 = .ok (.ireturn, 1) := by decide +kernel
end
section
theorem dX4_init_0 : decode cX4_init 0 = .ok (.aload_n 0, 1) := by decide +kernel
theorem dX4_init_1 : decode cX4_init 1 = .ok (.invokespecial 1, 3) := by decide +kernel
theorem dX4_init_4 : decode cX4_init 4 = .ok (.aload_n 0, 1) := by decide +kernel
theorem dX4_init_5 : decode cX4_init 5 = .ok (.iconst 0, 1) := by decide +kernel
theorem dX4_init_6 : decode cX4_init 6 = .ok (.putfield 7, 3) := by decide +kernel
theorem dX4_init_9 : decode cX4_init 9 = .ok (.iload_n 2, 1) := by decide +kernel
theorem dX4_init_10 : decode cX4_init 10 = .ok (.iconst 1, 1) := by decide +kernel
theorem dX4_init_11 : decode cX4_init 11 = .ok (.bipush 8, 2) := by decide +kernel
theorem dX4_init_13 : decode cX4_init 13 = .ok (.invokestatic 13, 3) := by decide +kernel
theorem dX4_init_16 : decode cX4_init 16 = .ok (.istore 6, 2) := by decide +kernel
theorem dX4_init_18 : decode cX4_init 18 = .ok (.iload_n 3, 1) := by decide +kernel
theorem dX4_init_19 : decode cX4_init 19 = .ok (.iconst 1, 1) := by decide +kernel
theorem dX4_init_20 : decode cX4_init 20 = .ok (.iconst 4, 1) := by decide +kernel
theorem dX4_init_21 : decode cX4_init 21 = .ok (.invokestatic 13, 3) := by decide +kernel
theorem dX4_init_24 : decode cX4_init 24 = .ok (.istore 7, 2) := by decide +kernel
theorem dX4_init_26 : decode cX4_init 26 = .ok (.iload 5, 2) := by decide +kernel
theorem dX4_init_28 : decode cX4_init 28 = .ok (.iconst 1, 1) := by decide +kernel
theorem dX4_init_29 : decode cX4_init 29 = .ok (.bipush 32, 2) := by decide +kernel
theorem dX4_init_31 : decode cX4_init 31 = .ok (.invokestatic 13, 3) := by decide +kernel
theorem dX4_init_34 : decode cX4_init 34 = .ok (.istore 8, 2) := by decide +kernel
theorem dX4_init_36 : decode cX4_init 36 = .ok (.aload_n 0, 1) := by decide +kernel
theorem dX4_init_37 : decode cX4_init 37 = .ok (.new 17, 3) := by decide +kernel
theorem dX4_init_40 : decode cX4_init 40 = .ok (.dup, 1) := by decide +kernel
theorem dX4_init_41 : decode cX4_init 41 = .ok (.iload 7, 2) := by decide +kernel
theorem dX4_init_43 : decode cX4_init 43 = .ok (.iload 4, 2) := by decide +kernel
theorem dX4_init_45 : decode cX4_init 45 = .ok (.iload 7, 2) := by decide +kernel
theorem dX4_init_47 : decode cX4_init 47 = .ok (.bipush 64, 2) := by decide +kernel
theorem dX4_init_49 : decode cX4_init 49 = .ok (.invokestatic 13, 3) := by decide +kernel
theorem dX4_init_52 : decode cX4_init 52 = .ok (.invokespecial 19, 3) := by decide +kernel
theorem dX4_init_55 : decode cX4_init 55 = .ok (.putfield 22, 3) := by decide +kernel
theorem dX4_init_58 : decode cX4_init 58 = .ok (.aload_n 0, 1) := by decide +kernel
theorem dX4_init_59 : decode cX4_init 59 = .ok (.iload_n 1, 1) := by decide +kernel
theorem dX4_init_60 : decode cX4_init 60 = .ok (.iconst 1, 1) := by decide +kernel
theorem dX4_init_61 : decode cX4_init 61 = .ok (.iconst 4, 1) := by decide +kernel
theorem dX4_init_62 : decode cX4_init 62 = .ok (.invokestatic 13, 3) := by decide +kernel
theorem dX4_init_65 : decode cX4_init 65 = .ok (.anewarray 26, 3) := by decide +kernel
theorem dX4_init_68 : decode cX4_init 68 = .ok (.putfield 28, 3) := by decide +kernel
theorem dX4_init_71 : decode cX4_init 71 = .ok (.iconst 0, 1) := by decide +kernel
theorem dX4_init_72 : decode cX4_init 72 = .ok (.istore 9, 2) := by decide +kernel
theorem dX4_init_74 : decode cX4_init 74 = .ok (.iload 9, 2) := by decide +kernel
theorem dX4_init_76 : decode cX4_init 76 = .ok (.aload_n 0, 1) := by decide +kernel
theorem dX4_init_77 : decode cX4_init 77 = .ok (.getfield 28, 3) := by decide +kernel
theorem dX4_init_80 : decode cX4_init 80 = .ok (.arraylength, 1) := by decide +kernel
theorem dX4_init_81 : decode cX4_init 81 = .ok (.if_icmp .ge 33, 3) := by decide +kernel
theorem dX4_init_84 : decode cX4_init 84 = .ok (.aload_n 0, 1) := by decide +kernel
theorem dX4_init_85 : decode cX4_init 85 = .ok (.getfield 28, 3) := by decide +kernel
theorem dX4_init_88 : decode cX4_init 88 = .ok (.iload 9, 2) := by decide +kernel
theorem dX4_init_90 : decode cX4_init 90 = .ok (.new 26, 3) := by decide +kernel
theorem dX4_init_93 : decode cX4_init 93 = .ok (.dup, 1) := by decide +kernel
theorem dX4_init_94 : decode cX4_init 94 = .ok (.iload 9, 2) := by decide +kernel
theorem dX4_init_96 : decode cX4_init 96 = .ok (.iload 6, 2) := by decide +kernel
theorem dX4_init_98 : decode cX4_init 98 = .ok (.iload 8, 2) := by decide +kernel
theorem dX4_init_100 : decode cX4_init 100 = .ok (.aload_n 0, 1) := by decide +kernel
theorem dX4_init_101 : decode cX4_init 101 = .ok (.getfield 22, 3) := by decide +kernel
theorem dX4_init_104 : decode cX4_init 104 = .ok (.invokespecial 32, 3) := by decide +kernel
theorem dX4_init_107 : decode cX4_init 107 = .ok (.aastore, 1) := by decide +kernel
theorem dX4_init_108 : decode cX4_init 108 = .ok (.iinc 9 1, 3) := by decide +kernel
theorem dX4_init_111 : decode cX4_init 111 = .ok (.goto (-37), 3) := by decide +kernel
theorem dX4_init_114 : decode cX4_init 114 = .ok (.aload_n 0, 1) := by decide +kernel
theorem dX4_init_115 : decode cX4_init 115 = .ok (.new 35, 3) := by decide +kernel
theorem dX4_init_118 : decode cX4_init 118 = .ok (.dup, 1) := by decide +kernel
theorem dX4_init_119 : decode cX4_init 119 = .ok (.aload_n 0, 1) := by decide +kernel
theorem dX4_init_120 : decode cX4_init 120 = .ok (.getfield 28, 3) := by decide +kernel
theorem dX4_init_123 : decode cX4_init 123 = .ok (.aload_n 0, 1) := by decide +kernel
theorem dX4_init_124 : decode cX4_init 124 = .ok (.getfield 22, 3) := by decide +kernel
theorem dX4_init_127 : decode cX4_init 127 = .ok (.invokespecial 37, 3) := by decide +kernel
theorem dX4_init_130 : decode cX4_init 130 = .ok (.putfield 40, 3) := by decide +kernel
theorem dX4_init_133 : decode cX4_init 133 = .ok (.return_, 1) := by decide +kernel
theorem dX4_limited_0 : decode cX4_limited 0 = .ok (.iload_n 1, 1) := by decide +kernel
theorem dX4_limited_1 : decode cX4_limited 1 = .ok (.iload_n 2, 1) := by decide +kernel
theorem dX4_limited_2 : decode cX4_limited 2 = .ok (.iload_n 0, 1) := by decide +kernel
theorem dX4_limited_3 : decode cX4_limited 3 = .ok (.invokestatic 143, 3) := by decide +kernel
theorem dX4_limited_6 : decode cX4_limited 6 = .ok (.invokestatic 149, 3) := by decide +kernel
theorem dX4_limited_9 : decode cX4_limited 9 = .ok (.ireturn, 1) := by decide +kernel
theorem dX4_load_0 : decode cX4_load 0 = .ok (.aload_n 0, 1) := by decide +kernel
theorem dX4_load_1 : decode cX4_load 1 = .ok (.getfield 7, 3) := by decide +kernel
theorem dX4_load_4 : decode cX4_load 4 = .ok (.ifCond .ne 28, 3) := by decide +kernel
theorem dX4_load_7 : decode cX4_load 7 = .ok (.aload_n 0, 1) := by decide +kernel
theorem dX4_load_8 : decode cX4_load 8 = .ok (.iload_n 1, 1) := by decide +kernel
theorem dX4_load_9 : decode cX4_load 9 = .ok (.invokevirtual 44, 3) := by decide +kernel
theorem dX4_load_12 : decode cX4_load 12 = .ok (.ifCond .eq 20, 3) := by decide +kernel
theorem dX4_load_15 : decode cX4_load 15 = .ok (.iload_n 2, 1) := by decide +kernel
theorem dX4_load_16 : decode cX4_load 16 = .ok (.aload_n 0, 1) := by decide +kernel
theorem dX4_load_17 : decode cX4_load 17 = .ok (.getfield 28, 3) := by decide +kernel
theorem dX4_load_20 : decode cX4_load 20 = .ok (.iload_n 1, 1) := by decide +kernel
theorem dX4_load_21 : decode cX4_load 21 = .ok (.aaload, 1) := by decide +kernel
theorem dX4_load_22 : decode cX4_load 22 = .ok (.getfield 48, 3) := by decide +kernel
theorem dX4_load_25 : decode cX4_load 25 = .ok (.arraylength, 1) := by decide +kernel
theorem dX4_load_26 : decode cX4_load 26 = .ok (.invokestatic 52, 3) := by decide +kernel
theorem dX4_load_29 : decode cX4_load 29 = .ok (.ifCond .ne 5, 3) := by decide +kernel
theorem dX4_load_32 : decode cX4_load 32 = .ok (.iconst 0, 1) := by decide +kernel
theorem dX4_load_33 : decode cX4_load 33 = .ok (.ireturn, 1) := by decide +kernel
theorem dX4_load_34 : decode cX4_load 34 = .ok (.aload_n 0, 1) := by decide +kernel
theorem dX4_load_35 : decode cX4_load 35 = .ok (.getfield 28, 3) := by decide +kernel
theorem dX4_load_38 : decode cX4_load 38 = .ok (.iload_n 1, 1) := by decide +kernel
theorem dX4_load_39 : decode cX4_load 39 = .ok (.aaload, 1) := by decide +kernel
theorem dX4_load_40 : decode cX4_load 40 = .ok (.getfield 48, 3) := by decide +kernel
theorem dX4_load_43 : decode cX4_load 43 = .ok (.iload_n 2, 1) := by decide +kernel
theorem dX4_load_44 : decode cX4_load 44 = .ok (.iload_n 3, 1) := by decide +kernel
theorem dX4_load_45 : decode cX4_load 45 = .ok (.iastore, 1) := by decide +kernel
theorem dX4_load_46 : decode cX4_load 46 = .ok (.iconst 1, 1) := by decide +kernel
theorem dX4_load_47 : decode cX4_load 47 = .ok (.ireturn, 1) := by decide +kernel
theorem dX4_hasCore_0 : decode cX4_hasCore 0 = .ok (.iload_n 1, 1) := by decide +kernel
theorem dX4_hasCore_1 : decode cX4_hasCore 1 = .ok (.aload_n 0, 1) := by decide +kernel
theorem dX4_hasCore_2 : decode cX4_hasCore 2 = .ok (.getfield 28, 3) := by decide +kernel
theorem dX4_hasCore_5 : decode cX4_hasCore 5 = .ok (.arraylength, 1) := by decide +kernel
theorem dX4_hasCore_6 : decode cX4_hasCore 6 = .ok (.invokestatic 52, 3) := by decide +kernel
theorem dX4_hasCore_9 : decode cX4_hasCore 9 = .ok (.ireturn, 1) := by decide +kernel
theorem dX4_within_0 : decode cX4_within 0 = .ok (.iload_n 0, 1) := by decide +kernel
theorem dX4_within_1 : decode cX4_within 1 = .ok (.ifCond .lt 12, 3) := by decide +kernel
theorem dX4_within_4 : decode cX4_within 4 = .ok (.iload_n 0, 1) := by decide +kernel
theorem dX4_within_5 : decode cX4_within 5 = .ok (.iload_n 1, 1) := by decide +kernel
theorem dX4_within_6 : decode cX4_within 6 = .ok (.if_icmp .ge 7, 3) := by decide +kernel
theorem dX4_within_9 : decode cX4_within 9 = .ok (.iconst 1, 1) := by decide +kernel
theorem dX4_within_10 : decode cX4_within 10 = .ok (.goto 4, 3) := by decide +kernel
theorem dX4_within_13 : decode cX4_within 13 = .ok (.iconst 0, 1) := by decide +kernel
theorem dX4_within_14 : decode cX4_within 14 = .ok (.ireturn, 1) := by decide +kernel
theorem dX4_poke_0 : decode cX4_poke 0 = .ok (.aload_n 0, 1) := by decide +kernel
theorem dX4_poke_1 : decode cX4_poke 1 = .ok (.getfield 7, 3) := by decide +kernel
theorem dX4_poke_4 : decode cX4_poke 4 = .ok (.ifCond .ne 14, 3) := by decide +kernel
theorem dX4_poke_7 : decode cX4_poke 7 = .ok (.aload_n 0, 1) := by decide +kernel
theorem dX4_poke_8 : decode cX4_poke 8 = .ok (.getfield 22, 3) := by decide +kernel
theorem dX4_poke_11 : decode cX4_poke 11 = .ok (.iload_n 1, 1) := by decide +kernel
theorem dX4_poke_12 : decode cX4_poke 12 = .ok (.invokevirtual 56, 3) := by decide +kernel
theorem dX4_poke_15 : decode cX4_poke 15 = .ok (.ifCond .ne 5, 3) := by decide +kernel
theorem dX4_poke_18 : decode cX4_poke 18 = .ok (.iconst 0, 1) := by decide +kernel
theorem dX4_poke_19 : decode cX4_poke 19 = .ok (.ireturn, 1) := by decide +kernel
theorem dX4_poke_20 : decode cX4_poke 20 = .ok (.aload_n 0, 1) := by decide +kernel
theorem dX4_poke_21 : decode cX4_poke 21 = .ok (.getfield 22, 3) := by decide +kernel
theorem dX4_poke_24 : decode cX4_poke 24 = .ok (.getfield 59, 3) := by decide +kernel
theorem dX4_poke_27 : decode cX4_poke 27 = .ok (.iload_n 1, 1) := by decide +kernel
theorem dX4_poke_28 : decode cX4_poke 28 = .ok (.iload_n 2, 1) := by decide +kernel
theorem dX4_poke_29 : decode cX4_poke 29 = .ok (.iastore, 1) := by decide +kernel
theorem dX4_poke_30 : decode cX4_poke 30 = .ok (.iconst 1, 1) := by decide +kernel
theorem dX4_poke_31 : decode cX4_poke 31 = .ok (.ireturn, 1) := by decide +kernel
theorem dX4_step_0 : decode cX4_step 0 = .ok (.aload_n 0, 1) := by decide +kernel
theorem dX4_step_1 : decode cX4_step 1 = .ok (.iload_n 1, 1) := by decide +kernel
theorem dX4_step_2 : decode cX4_step 2 = .ok (.invokevirtual 44, 3) := by decide +kernel
theorem dX4_step_5 : decode cX4_step 5 = .ok (.ifCond .ne 5, 3) := by decide +kernel
theorem dX4_step_8 : decode cX4_step 8 = .ok (.iconst (-1), 1) := by decide +kernel
theorem dX4_step_9 : decode cX4_step 9 = .ok (.ireturn, 1) := by decide +kernel
theorem dX4_step_10 : decode cX4_step 10 = .ok (.aload_n 0, 1) := by decide +kernel
theorem dX4_step_11 : decode cX4_step 11 = .ok (.iconst 1, 1) := by decide +kernel
theorem dX4_step_12 : decode cX4_step 12 = .ok (.putfield 7, 3) := by decide +kernel
theorem dX4_step_15 : decode cX4_step 15 = .ok (.aload_n 0, 1) := by decide +kernel
theorem dX4_step_16 : decode cX4_step 16 = .ok (.getfield 28, 3) := by decide +kernel
theorem dX4_step_19 : decode cX4_step 19 = .ok (.iload_n 1, 1) := by decide +kernel
theorem dX4_step_20 : decode cX4_step 20 = .ok (.aaload, 1) := by decide +kernel
theorem dX4_step_21 : decode cX4_step 21 = .ok (.astore_n 2, 1) := by decide +kernel
theorem dX4_step_22 : decode cX4_step 22 = .ok (.aload_n 2, 1) := by decide +kernel
theorem dX4_step_23 : decode cX4_step 23 = .ok (.invokevirtual 62, 3) := by decide +kernel
theorem dX4_step_26 : decode cX4_step 26 = .ok (.aload_n 2, 1) := by decide +kernel
theorem dX4_step_27 : decode cX4_step 27 = .ok (.getfield 65, 3) := by decide +kernel
theorem dX4_step_30 : decode cX4_step 30 = .ok (.tableswitch 32 1 3 #[26, 28, 30], 26) := by decide +kernel
theorem dX4_step_56 : decode cX4_step 56 = .ok (.iconst 2, 1) := by decide +kernel
theorem dX4_step_57 : decode cX4_step 57 = .ok (.ireturn, 1) := by decide +kernel
theorem dX4_step_58 : decode cX4_step 58 = .ok (.iconst 3, 1) := by decide +kernel
theorem dX4_step_59 : decode cX4_step 59 = .ok (.ireturn, 1) := by decide +kernel
theorem dX4_step_60 : decode cX4_step 60 = .ok (.iconst 4, 1) := by decide +kernel
theorem dX4_step_61 : decode cX4_step 61 = .ok (.ireturn, 1) := by decide +kernel
theorem dX4_step_62 : decode cX4_step 62 = .ok (.iconst 1, 1) := by decide +kernel
theorem dX4_step_63 : decode cX4_step 63 = .ok (.ireturn, 1) := by decide +kernel
theorem dX4_bus_0 : decode cX4_bus 0 = .ok (.aload_n 0, 1) := by decide +kernel
theorem dX4_bus_1 : decode cX4_bus 1 = .ok (.getfield 40, 3) := by decide +kernel
theorem dX4_bus_4 : decode cX4_bus 4 = .ok (.invokevirtual 69, 3) := by decide +kernel
theorem dX4_bus_7 : decode cX4_bus 7 = .ok (.ireturn, 1) := by decide +kernel
theorem dX4_evict_0 : decode cX4_evict 0 = .ok (.aload_n 0, 1) := by decide +kernel
theorem dX4_evict_1 : decode cX4_evict 1 = .ok (.iload_n 1, 1) := by decide +kernel
theorem dX4_evict_2 : decode cX4_evict 2 = .ok (.iload_n 2, 1) := by decide +kernel
theorem dX4_evict_3 : decode cX4_evict 3 = .ok (.invokevirtual 73, 3) := by decide +kernel
theorem dX4_evict_6 : decode cX4_evict 6 = .ok (.ifCond .ne 5, 3) := by decide +kernel
theorem dX4_evict_9 : decode cX4_evict 9 = .ok (.iconst (-1), 1) := by decide +kernel
theorem dX4_evict_10 : decode cX4_evict 10 = .ok (.ireturn, 1) := by decide +kernel
theorem dX4_evict_11 : decode cX4_evict 11 = .ok (.aload_n 0, 1) := by decide +kernel
theorem dX4_evict_12 : decode cX4_evict 12 = .ok (.getfield 28, 3) := by decide +kernel
theorem dX4_evict_15 : decode cX4_evict 15 = .ok (.iload_n 1, 1) := by decide +kernel
theorem dX4_evict_16 : decode cX4_evict 16 = .ok (.aaload, 1) := by decide +kernel
theorem dX4_evict_17 : decode cX4_evict 17 = .ok (.getfield 76, 3) := by decide +kernel
theorem dX4_evict_20 : decode cX4_evict 20 = .ok (.iload_n 2, 1) := by decide +kernel
theorem dX4_evict_21 : decode cX4_evict 21 = .ok (.aaload, 1) := by decide +kernel
theorem dX4_evict_22 : decode cX4_evict 22 = .ok (.astore_n 3, 1) := by decide +kernel
theorem dX4_evict_23 : decode cX4_evict 23 = .ok (.aload_n 0, 1) := by decide +kernel
theorem dX4_evict_24 : decode cX4_evict 24 = .ok (.getfield 40, 3) := by decide +kernel
theorem dX4_evict_27 : decode cX4_evict 27 = .ok (.iload_n 1, 1) := by decide +kernel
theorem dX4_evict_28 : decode cX4_evict 28 = .ok (.iload_n 2, 1) := by decide +kernel
theorem dX4_evict_29 : decode cX4_evict 29 = .ok (.invokevirtual 80, 3) := by decide +kernel
theorem dX4_evict_32 : decode cX4_evict 32 = .ok (.ifCond .eq 5, 3) := by decide +kernel
theorem dX4_evict_35 : decode cX4_evict 35 = .ok (.iconst 2, 1) := by decide +kernel
theorem dX4_evict_36 : decode cX4_evict 36 = .ok (.ireturn, 1) := by decide +kernel
theorem dX4_evict_37 : decode cX4_evict 37 = .ok (.aload_n 3, 1) := by decide +kernel
theorem dX4_evict_38 : decode cX4_evict 38 = .ok (.getfield 83, 3) := by decide +kernel
theorem dX4_evict_41 : decode cX4_evict 41 = .ok (.ifCond .ne 5, 3) := by decide +kernel
theorem dX4_evict_44 : decode cX4_evict 44 = .ok (.iconst 0, 1) := by decide +kernel
theorem dX4_evict_45 : decode cX4_evict 45 = .ok (.ireturn, 1) := by decide +kernel
theorem dX4_evict_46 : decode cX4_evict 46 = .ok (.aload_n 0, 1) := by decide +kernel
theorem dX4_evict_47 : decode cX4_evict 47 = .ok (.getfield 22, 3) := by decide +kernel
theorem dX4_evict_50 : decode cX4_evict 50 = .ok (.aload_n 3, 1) := by decide +kernel
theorem dX4_evict_51 : decode cX4_evict 51 = .ok (.invokevirtual 88, 3) := by decide +kernel
theorem dX4_evict_54 : decode cX4_evict 54 = .ok (.iconst 1, 1) := by decide +kernel
theorem dX4_evict_55 : decode cX4_evict 55 = .ok (.ireturn, 1) := by decide +kernel
theorem dX4_hasSlot_0 : decode cX4_hasSlot 0 = .ok (.aload_n 0, 1) := by decide +kernel
theorem dX4_hasSlot_1 : decode cX4_hasSlot 1 = .ok (.iload_n 1, 1) := by decide +kernel
theorem dX4_hasSlot_2 : decode cX4_hasSlot 2 = .ok (.invokevirtual 44, 3) := by decide +kernel
theorem dX4_hasSlot_5 : decode cX4_hasSlot 5 = .ok (.ifCond .eq 24, 3) := by decide +kernel
theorem dX4_hasSlot_8 : decode cX4_hasSlot 8 = .ok (.iload_n 2, 1) := by decide +kernel
theorem dX4_hasSlot_9 : decode cX4_hasSlot 9 = .ok (.aload_n 0, 1) := by decide +kernel
theorem dX4_hasSlot_10 : decode cX4_hasSlot 10 = .ok (.getfield 28, 3) := by decide +kernel
theorem dX4_hasSlot_13 : decode cX4_hasSlot 13 = .ok (.iload_n 1, 1) := by decide +kernel
theorem dX4_hasSlot_14 : decode cX4_hasSlot 14 = .ok (.aaload, 1) := by decide +kernel
theorem dX4_hasSlot_15 : decode cX4_hasSlot 15 = .ok (.getfield 76, 3) := by decide +kernel
theorem dX4_hasSlot_18 : decode cX4_hasSlot 18 = .ok (.arraylength, 1) := by decide +kernel
theorem dX4_hasSlot_19 : decode cX4_hasSlot 19 = .ok (.invokestatic 52, 3) := by decide +kernel
theorem dX4_hasSlot_22 : decode cX4_hasSlot 22 = .ok (.ifCond .eq 7, 3) := by decide +kernel
theorem dX4_hasSlot_25 : decode cX4_hasSlot 25 = .ok (.iconst 1, 1) := by decide +kernel
theorem dX4_hasSlot_26 : decode cX4_hasSlot 26 = .ok (.goto 4, 3) := by decide +kernel
theorem dX4_hasSlot_29 : decode cX4_hasSlot 29 = .ok (.iconst 0, 1) := by decide +kernel
theorem dX4_hasSlot_30 : decode cX4_hasSlot 30 = .ok (.ireturn, 1) := by decide +kernel
theorem dX4_register_0 : decode cX4_register 0 = .ok (.aload_n 0, 1) := by decide +kernel
theorem dX4_register_1 : decode cX4_register 1 = .ok (.iload_n 1, 1) := by decide +kernel
theorem dX4_register_2 : decode cX4_register 2 = .ok (.invokevirtual 44, 3) := by decide +kernel
theorem dX4_register_5 : decode cX4_register 5 = .ok (.ifCond .eq 11, 3) := by decide +kernel
theorem dX4_register_8 : decode cX4_register 8 = .ok (.iload_n 2, 1) := by decide +kernel
theorem dX4_register_9 : decode cX4_register 9 = .ok (.iconst 4, 1) := by decide +kernel
theorem dX4_register_10 : decode cX4_register 10 = .ok (.invokestatic 52, 3) := by decide +kernel
theorem dX4_register_13 : decode cX4_register 13 = .ok (.ifCond .ne 5, 3) := by decide +kernel
theorem dX4_register_16 : decode cX4_register 16 = .ok (.iconst 0, 1) := by decide +kernel
theorem dX4_register_17 : decode cX4_register 17 = .ok (.ireturn, 1) := by decide +kernel
theorem dX4_register_18 : decode cX4_register 18 = .ok (.aload_n 0, 1) := by decide +kernel
theorem dX4_register_19 : decode cX4_register 19 = .ok (.getfield 28, 3) := by decide +kernel
theorem dX4_register_22 : decode cX4_register 22 = .ok (.iload_n 1, 1) := by decide +kernel
theorem dX4_register_23 : decode cX4_register 23 = .ok (.aaload, 1) := by decide +kernel
theorem dX4_register_24 : decode cX4_register 24 = .ok (.getfield 92, 3) := by decide +kernel
theorem dX4_register_27 : decode cX4_register 27 = .ok (.iload_n 2, 1) := by decide +kernel
theorem dX4_register_28 : decode cX4_register 28 = .ok (.iaload, 1) := by decide +kernel
theorem dX4_register_29 : decode cX4_register 29 = .ok (.ireturn, 1) := by decide +kernel
theorem dX4_cpu_0 : decode cX4_cpu 0 = .ok (.aload_n 0, 1) := by decide +kernel
theorem dX4_cpu_1 : decode cX4_cpu 1 = .ok (.iload_n 1, 1) := by decide +kernel
theorem dX4_cpu_2 : decode cX4_cpu 2 = .ok (.invokevirtual 44, 3) := by decide +kernel
theorem dX4_cpu_5 : decode cX4_cpu 5 = .ok (.ifCond .ne 5, 3) := by decide +kernel
theorem dX4_cpu_8 : decode cX4_cpu 8 = .ok (.iconst (-1), 1) := by decide +kernel
theorem dX4_cpu_9 : decode cX4_cpu 9 = .ok (.ireturn, 1) := by decide +kernel
theorem dX4_cpu_10 : decode cX4_cpu 10 = .ok (.aload_n 0, 1) := by decide +kernel
theorem dX4_cpu_11 : decode cX4_cpu 11 = .ok (.getfield 28, 3) := by decide +kernel
theorem dX4_cpu_14 : decode cX4_cpu 14 = .ok (.iload_n 1, 1) := by decide +kernel
theorem dX4_cpu_15 : decode cX4_cpu 15 = .ok (.aaload, 1) := by decide +kernel
theorem dX4_cpu_16 : decode cX4_cpu 16 = .ok (.astore_n 3, 1) := by decide +kernel
theorem dX4_cpu_17 : decode cX4_cpu 17 = .ok (.iload_n 2, 1) := by decide +kernel
theorem dX4_cpu_18 : decode cX4_cpu 18 = .ok (.tableswitch 59 0 4 #[34, 39, 44, 49, 54], 34) := by decide +kernel
theorem dX4_cpu_52 : decode cX4_cpu 52 = .ok (.aload_n 3, 1) := by decide +kernel
theorem dX4_cpu_53 : decode cX4_cpu 53 = .ok (.getfield 95, 3) := by decide +kernel
theorem dX4_cpu_56 : decode cX4_cpu 56 = .ok (.ireturn, 1) := by decide +kernel
theorem dX4_cpu_57 : decode cX4_cpu 57 = .ok (.aload_n 3, 1) := by decide +kernel
theorem dX4_cpu_58 : decode cX4_cpu 58 = .ok (.getfield 65, 3) := by decide +kernel
theorem dX4_cpu_61 : decode cX4_cpu 61 = .ok (.ireturn, 1) := by decide +kernel
theorem dX4_cpu_62 : decode cX4_cpu 62 = .ok (.aload_n 3, 1) := by decide +kernel
theorem dX4_cpu_63 : decode cX4_cpu 63 = .ok (.getfield 98, 3) := by decide +kernel
theorem dX4_cpu_66 : decode cX4_cpu 66 = .ok (.ireturn, 1) := by decide +kernel
theorem dX4_cpu_67 : decode cX4_cpu 67 = .ok (.aload_n 3, 1) := by decide +kernel
theorem dX4_cpu_68 : decode cX4_cpu 68 = .ok (.getfield 101, 3) := by decide +kernel
theorem dX4_cpu_71 : decode cX4_cpu 71 = .ok (.ireturn, 1) := by decide +kernel
theorem dX4_cpu_72 : decode cX4_cpu 72 = .ok (.aload_n 3, 1) := by decide +kernel
theorem dX4_cpu_73 : decode cX4_cpu 73 = .ok (.getfield 104, 3) := by decide +kernel
theorem dX4_cpu_76 : decode cX4_cpu 76 = .ok (.ireturn, 1) := by decide +kernel
theorem dX4_cpu_77 : decode cX4_cpu 77 = .ok (.iconst (-1), 1) := by decide +kernel
theorem dX4_cpu_78 : decode cX4_cpu 78 = .ok (.ireturn, 1) := by decide +kernel
theorem dX4_slot_0 : decode cX4_slot 0 = .ok (.aload_n 0, 1) := by decide +kernel
theorem dX4_slot_1 : decode cX4_slot 1 = .ok (.iload_n 1, 1) := by decide +kernel
theorem dX4_slot_2 : decode cX4_slot 2 = .ok (.iload_n 2, 1) := by decide +kernel
theorem dX4_slot_3 : decode cX4_slot 3 = .ok (.invokevirtual 73, 3) := by decide +kernel
theorem dX4_slot_6 : decode cX4_slot 6 = .ok (.ifCond .eq 19, 3) := by decide +kernel
theorem dX4_slot_9 : decode cX4_slot 9 = .ok (.iload_n 3, 1) := by decide +kernel
theorem dX4_slot_10 : decode cX4_slot 10 = .ok (.iconst 2, 1) := by decide +kernel
theorem dX4_slot_11 : decode cX4_slot 11 = .ok (.aload_n 0, 1) := by decide +kernel
theorem dX4_slot_12 : decode cX4_slot 12 = .ok (.getfield 22, 3) := by decide +kernel
theorem dX4_slot_15 : decode cX4_slot 15 = .ok (.getfield 107, 3) := by decide +kernel
theorem dX4_slot_18 : decode cX4_slot 18 = .ok (.iadd, 1) := by decide +kernel
theorem dX4_slot_19 : decode cX4_slot 19 = .ok (.invokestatic 52, 3) := by decide +kernel
theorem dX4_slot_22 : decode cX4_slot 22 = .ok (.ifCond .ne 5, 3) := by decide +kernel
theorem dX4_slot_25 : decode cX4_slot 25 = .ok (.iconst (-1), 1) := by decide +kernel
theorem dX4_slot_26 : decode cX4_slot 26 = .ok (.ireturn, 1) := by decide +kernel
theorem dX4_slot_27 : decode cX4_slot 27 = .ok (.aload_n 0, 1) := by decide +kernel
theorem dX4_slot_28 : decode cX4_slot 28 = .ok (.getfield 28, 3) := by decide +kernel
theorem dX4_slot_31 : decode cX4_slot 31 = .ok (.iload_n 1, 1) := by decide +kernel
theorem dX4_slot_32 : decode cX4_slot 32 = .ok (.aaload, 1) := by decide +kernel
theorem dX4_slot_33 : decode cX4_slot 33 = .ok (.getfield 76, 3) := by decide +kernel
theorem dX4_slot_36 : decode cX4_slot 36 = .ok (.iload_n 2, 1) := by decide +kernel
theorem dX4_slot_37 : decode cX4_slot 37 = .ok (.aaload, 1) := by decide +kernel
theorem dX4_slot_38 : decode cX4_slot 38 = .ok (.astore 4, 2) := by decide +kernel
theorem dX4_slot_40 : decode cX4_slot 40 = .ok (.iload_n 3, 1) := by decide +kernel
theorem dX4_slot_41 : decode cX4_slot 41 = .ok (.lookupswitch 39 #[(0, 27), (1, 33)], 27) := by decide +kernel
theorem dX4_slot_68 : decode cX4_slot 68 = .ok (.aload 4, 2) := by decide +kernel
theorem dX4_slot_70 : decode cX4_slot 70 = .ok (.getfield 83, 3) := by decide +kernel
theorem dX4_slot_73 : decode cX4_slot 73 = .ok (.ireturn, 1) := by decide +kernel
theorem dX4_slot_74 : decode cX4_slot 74 = .ok (.aload 4, 2) := by decide +kernel
theorem dX4_slot_76 : decode cX4_slot 76 = .ok (.getfield 110, 3) := by decide +kernel
theorem dX4_slot_79 : decode cX4_slot 79 = .ok (.ireturn, 1) := by decide +kernel
theorem dX4_slot_80 : decode cX4_slot 80 = .ok (.aload 4, 2) := by decide +kernel
theorem dX4_slot_82 : decode cX4_slot 82 = .ok (.getfield 83, 3) := by decide +kernel
theorem dX4_slot_85 : decode cX4_slot 85 = .ok (.ifCond .ne 7, 3) := by decide +kernel
theorem dX4_slot_88 : decode cX4_slot 88 = .ok (.iconst 0, 1) := by decide +kernel
theorem dX4_slot_89 : decode cX4_slot 89 = .ok (.goto 12, 3) := by decide +kernel
theorem dX4_slot_92 : decode cX4_slot 92 = .ok (.aload 4, 2) := by decide +kernel
theorem dX4_slot_94 : decode cX4_slot 94 = .ok (.getfield 113, 3) := by decide +kernel
theorem dX4_slot_97 : decode cX4_slot 97 = .ok (.iload_n 3, 1) := by decide +kernel
theorem dX4_slot_98 : decode cX4_slot 98 = .ok (.iconst 2, 1) := by decide +kernel
theorem dX4_slot_99 : decode cX4_slot 99 = .ok (.isub, 1) := by decide +kernel
theorem dX4_slot_100 : decode cX4_slot 100 = .ok (.iaload, 1) := by decide +kernel
theorem dX4_slot_101 : decode cX4_slot 101 = .ok (.ireturn, 1) := by decide +kernel
theorem dX4_peek_0 : decode cX4_peek 0 = .ok (.aload_n 0, 1) := by decide +kernel
theorem dX4_peek_1 : decode cX4_peek 1 = .ok (.getfield 22, 3) := by decide +kernel
theorem dX4_peek_4 : decode cX4_peek 4 = .ok (.iload_n 1, 1) := by decide +kernel
theorem dX4_peek_5 : decode cX4_peek 5 = .ok (.invokevirtual 56, 3) := by decide +kernel
theorem dX4_peek_8 : decode cX4_peek 8 = .ok (.ifCond .ne 5, 3) := by decide +kernel
theorem dX4_peek_11 : decode cX4_peek 11 = .ok (.iconst 0, 1) := by decide +kernel
theorem dX4_peek_12 : decode cX4_peek 12 = .ok (.ireturn, 1) := by decide +kernel
theorem dX4_peek_13 : decode cX4_peek 13 = .ok (.aload_n 0, 1) := by decide +kernel
theorem dX4_peek_14 : decode cX4_peek 14 = .ok (.getfield 22, 3) := by decide +kernel
theorem dX4_peek_17 : decode cX4_peek 17 = .ok (.iload_n 1, 1) := by decide +kernel
theorem dX4_peek_18 : decode cX4_peek 18 = .ok (.invokevirtual 114, 3) := by decide +kernel
theorem dX4_peek_21 : decode cX4_peek 21 = .ok (.istore_n 2, 1) := by decide +kernel
theorem dX4_peek_22 : decode cX4_peek 22 = .ok (.iconst 0, 1) := by decide +kernel
theorem dX4_peek_23 : decode cX4_peek 23 = .ok (.istore_n 3, 1) := by decide +kernel
theorem dX4_peek_24 : decode cX4_peek 24 = .ok (.iload_n 3, 1) := by decide +kernel
theorem dX4_peek_25 : decode cX4_peek 25 = .ok (.aload_n 0, 1) := by decide +kernel
theorem dX4_peek_26 : decode cX4_peek 26 = .ok (.getfield 28, 3) := by decide +kernel
theorem dX4_peek_29 : decode cX4_peek 29 = .ok (.arraylength, 1) := by decide +kernel
theorem dX4_peek_30 : decode cX4_peek 30 = .ok (.if_icmp .ge 53, 3) := by decide +kernel
theorem dX4_peek_33 : decode cX4_peek 33 = .ok (.aload_n 0, 1) := by decide +kernel
theorem dX4_peek_34 : decode cX4_peek 34 = .ok (.getfield 28, 3) := by decide +kernel
theorem dX4_peek_37 : decode cX4_peek 37 = .ok (.iload_n 3, 1) := by decide +kernel
theorem dX4_peek_38 : decode cX4_peek 38 = .ok (.aaload, 1) := by decide +kernel
theorem dX4_peek_39 : decode cX4_peek 39 = .ok (.iload_n 2, 1) := by decide +kernel
theorem dX4_peek_40 : decode cX4_peek 40 = .ok (.invokevirtual 118, 3) := by decide +kernel
theorem dX4_peek_43 : decode cX4_peek 43 = .ok (.astore 4, 2) := by decide +kernel
theorem dX4_peek_45 : decode cX4_peek 45 = .ok (.aload 4, 2) := by decide +kernel
theorem dX4_peek_47 : decode cX4_peek 47 = .ok (.iload_n 2, 1) := by decide +kernel
theorem dX4_peek_48 : decode cX4_peek 48 = .ok (.invokevirtual 122, 3) := by decide +kernel
theorem dX4_peek_51 : decode cX4_peek 51 = .ok (.ifCond .eq 26, 3) := by decide +kernel
theorem dX4_peek_54 : decode cX4_peek 54 = .ok (.aload 4, 2) := by decide +kernel
theorem dX4_peek_56 : decode cX4_peek 56 = .ok (.invokevirtual 125, 3) := by decide +kernel
theorem dX4_peek_59 : decode cX4_peek 59 = .ok (.ifCond .eq 18, 3) := by decide +kernel
theorem dX4_peek_62 : decode cX4_peek 62 = .ok (.aload 4, 2) := by decide +kernel
theorem dX4_peek_64 : decode cX4_peek 64 = .ok (.getfield 113, 3) := by decide +kernel
theorem dX4_peek_67 : decode cX4_peek 67 = .ok (.aload_n 0, 1) := by decide +kernel
theorem dX4_peek_68 : decode cX4_peek 68 = .ok (.getfield 22, 3) := by decide +kernel
theorem dX4_peek_71 : decode cX4_peek 71 = .ok (.iload_n 1, 1) := by decide +kernel
theorem dX4_peek_72 : decode cX4_peek 72 = .ok (.invokevirtual 129, 3) := by decide +kernel
theorem dX4_peek_75 : decode cX4_peek 75 = .ok (.iaload, 1) := by decide +kernel
theorem dX4_peek_76 : decode cX4_peek 76 = .ok (.ireturn, 1) := by decide +kernel
theorem dX4_peek_77 : decode cX4_peek 77 = .ok (.iinc 3 1, 3) := by decide +kernel
theorem dX4_peek_80 : decode cX4_peek 80 = .ok (.goto (-56), 3) := by decide +kernel
theorem dX4_peek_83 : decode cX4_peek 83 = .ok (.aload_n 0, 1) := by decide +kernel
theorem dX4_peek_84 : decode cX4_peek 84 = .ok (.getfield 22, 3) := by decide +kernel
theorem dX4_peek_87 : decode cX4_peek 87 = .ok (.getfield 59, 3) := by decide +kernel
theorem dX4_peek_90 : decode cX4_peek 90 = .ok (.iload_n 1, 1) := by decide +kernel
theorem dX4_peek_91 : decode cX4_peek 91 = .ok (.iaload, 1) := by decide +kernel
theorem dX4_peek_92 : decode cX4_peek 92 = .ok (.ireturn, 1) := by decide +kernel
theorem dX4_memory_0 : decode cX4_memory 0 = .ok (.aload_n 0, 1) := by decide +kernel
theorem dX4_memory_1 : decode cX4_memory 1 = .ok (.getfield 22, 3) := by decide +kernel
theorem dX4_memory_4 : decode cX4_memory 4 = .ok (.iload_n 1, 1) := by decide +kernel
theorem dX4_memory_5 : decode cX4_memory 5 = .ok (.invokevirtual 56, 3) := by decide +kernel
theorem dX4_memory_8 : decode cX4_memory 8 = .ok (.ifCond .eq 15, 3) := by decide +kernel
theorem dX4_memory_11 : decode cX4_memory 11 = .ok (.aload_n 0, 1) := by decide +kernel
theorem dX4_memory_12 : decode cX4_memory 12 = .ok (.getfield 22, 3) := by decide +kernel
theorem dX4_memory_15 : decode cX4_memory 15 = .ok (.getfield 59, 3) := by decide +kernel
theorem dX4_memory_18 : decode cX4_memory 18 = .ok (.iload_n 1, 1) := by decide +kernel
theorem dX4_memory_19 : decode cX4_memory 19 = .ok (.iaload, 1) := by decide +kernel
theorem dX4_memory_20 : decode cX4_memory 20 = .ok (.goto 4, 3) := by decide +kernel
theorem dX4_memory_23 : decode cX4_memory 23 = .ok (.iconst 0, 1) := by decide +kernel
theorem dX4_memory_24 : decode cX4_memory 24 = .ok (.ireturn, 1) := by decide +kernel
theorem dX4_state_0 : decode cX4_state 0 = .ok (.iload_n 1, 1) := by decide +kernel
theorem dX4_state_1 : decode cX4_state 1 = .ok (.tableswitch 63 0 3 #[31, 39, 47, 55], 31) := by decide +kernel
theorem dX4_state_32 : decode cX4_state 32 = .ok (.aload_n 0, 1) := by decide +kernel
theorem dX4_state_33 : decode cX4_state 33 = .ok (.getfield 40, 3) := by decide +kernel
theorem dX4_state_36 : decode cX4_state 36 = .ok (.getfield 132, 3) := by decide +kernel
theorem dX4_state_39 : decode cX4_state 39 = .ok (.ireturn, 1) := by decide +kernel
theorem dX4_state_40 : decode cX4_state 40 = .ok (.aload_n 0, 1) := by decide +kernel
theorem dX4_state_41 : decode cX4_state 41 = .ok (.getfield 40, 3) := by decide +kernel
theorem dX4_state_44 : decode cX4_state 44 = .ok (.getfield 135, 3) := by decide +kernel
theorem dX4_state_47 : decode cX4_state 47 = .ok (.ireturn, 1) := by decide +kernel
theorem dX4_state_48 : decode cX4_state 48 = .ok (.aload_n 0, 1) := by decide +kernel
theorem dX4_state_49 : decode cX4_state 49 = .ok (.getfield 40, 3) := by decide +kernel
theorem dX4_state_52 : decode cX4_state 52 = .ok (.getfield 138, 3) := by decide +kernel
theorem dX4_state_55 : decode cX4_state 55 = .ok (.ireturn, 1) := by decide +kernel
theorem dX4_state_56 : decode cX4_state 56 = .ok (.aload_n 0, 1) := by decide +kernel
theorem dX4_state_57 : decode cX4_state 57 = .ok (.getfield 40, 3) := by decide +kernel
theorem dX4_state_60 : decode cX4_state 60 = .ok (.getfield 139, 3) := by decide +kernel
theorem dX4_state_63 : decode cX4_state 63 = .ok (.ireturn, 1) := by decide +kernel
theorem dX4_state_64 : decode cX4_state 64 = .ok (.iload_n 1, 1) := by decide +kernel
theorem dX4_state_65 : decode cX4_state 65 = .ok (.iconst 4, 1) := by decide +kernel
theorem dX4_state_66 : decode cX4_state 66 = .ok (.isub, 1) := by decide +kernel
theorem dX4_state_67 : decode cX4_state 67 = .ok (.iconst 4, 1) := by decide +kernel
theorem dX4_state_68 : decode cX4_state 68 = .ok (.invokestatic 52, 3) := by decide +kernel
theorem dX4_state_71 : decode cX4_state 71 = .ok (.ifCond .eq 17, 3) := by decide +kernel
theorem dX4_state_74 : decode cX4_state 74 = .ok (.aload_n 0, 1) := by decide +kernel
theorem dX4_state_75 : decode cX4_state 75 = .ok (.getfield 40, 3) := by decide +kernel
theorem dX4_state_78 : decode cX4_state 78 = .ok (.getfield 140, 3) := by decide +kernel
theorem dX4_state_81 : decode cX4_state 81 = .ok (.iload_n 1, 1) := by decide +kernel
theorem dX4_state_82 : decode cX4_state 82 = .ok (.iconst 4, 1) := by decide +kernel
theorem dX4_state_83 : decode cX4_state 83 = .ok (.isub, 1) := by decide +kernel
theorem dX4_state_84 : decode cX4_state 84 = .ok (.iaload, 1) := by decide +kernel
theorem dX4_state_85 : decode cX4_state 85 = .ok (.goto 4, 3) := by decide +kernel
theorem dX4_state_88 : decode cX4_state 88 = .ok (.iconst (-1), 1) := by decide +kernel
theorem dX4_state_89 : decode cX4_state 89 = .ok (.ireturn, 1) := by decide +kernel
theorem dL_cell_0 : decode cL_cell 0 = .ok (.iload_n 1, 1) := by decide +kernel
theorem dL_cell_1 : decode cL_cell 1 = .ok (.aload_n 0, 1) := by decide +kernel
theorem dL_cell_2 : decode cL_cell 2 = .ok (.arraylength, 1) := by decide +kernel
theorem dL_cell_3 : decode cL_cell 3 = .ok (.if_icmp .ge 9, 3) := by decide +kernel
theorem dL_cell_6 : decode cL_cell 6 = .ok (.aload_n 0, 1) := by decide +kernel
theorem dL_cell_7 : decode cL_cell 7 = .ok (.iload_n 1, 1) := by decide +kernel
theorem dL_cell_8 : decode cL_cell 8 = .ok (.iaload, 1) := by decide +kernel
theorem dL_cell_9 : decode cL_cell 9 = .ok (.goto 4, 3) := by decide +kernel
theorem dL_cell_12 : decode cL_cell 12 = .ok (.iconst 0, 1) := by decide +kernel
theorem dL_cell_13 : decode cL_cell 13 = .ok (.ireturn, 1) := by decide +kernel
theorem dX5_init_0 : decode cX5_init 0 = .ok (.aload_n 0, 1) := by decide +kernel
theorem dX5_init_1 : decode cX5_init 1 = .ok (.invokespecial 1, 3) := by decide +kernel
theorem dX5_init_4 : decode cX5_init 4 = .ok (.aload_n 0, 1) := by decide +kernel
theorem dX5_init_5 : decode cX5_init 5 = .ok (.bipush 64, 2) := by decide +kernel
theorem dX5_init_7 : decode cX5_init 7 = .ok (.newarray .int, 2) := by decide +kernel
theorem dX5_init_9 : decode cX5_init 9 = .ok (.putfield 7, 3) := by decide +kernel
theorem dX5_init_12 : decode cX5_init 12 = .ok (.aload_n 0, 1) := by decide +kernel
theorem dX5_init_13 : decode cX5_init 13 = .ok (.sipush 128, 3) := by decide +kernel
theorem dX5_init_16 : decode cX5_init 16 = .ok (.newarray .int, 2) := by decide +kernel
theorem dX5_init_18 : decode cX5_init 18 = .ok (.putfield 13, 3) := by decide +kernel
theorem dX5_init_21 : decode cX5_init 21 = .ok (.aload_n 0, 1) := by decide +kernel
theorem dX5_init_22 : decode cX5_init 22 = .ok (.bipush 16, 2) := by decide +kernel
theorem dX5_init_24 : decode cX5_init 24 = .ok (.newarray .int, 2) := by decide +kernel
theorem dX5_init_26 : decode cX5_init 26 = .ok (.putfield 16, 3) := by decide +kernel
theorem dX5_init_29 : decode cX5_init 29 = .ok (.aload_n 0, 1) := by decide +kernel
theorem dX5_init_30 : decode cX5_init 30 = .ok (.iconst 4, 1) := by decide +kernel
theorem dX5_init_31 : decode cX5_init 31 = .ok (.newarray .int, 2) := by decide +kernel
theorem dX5_init_33 : decode cX5_init 33 = .ok (.putfield 19, 3) := by decide +kernel
theorem dX5_init_36 : decode cX5_init 36 = .ok (.aload_n 0, 1) := by decide +kernel
theorem dX5_init_37 : decode cX5_init 37 = .ok (.iconst 4, 1) := by decide +kernel
theorem dX5_init_38 : decode cX5_init 38 = .ok (.newarray .int, 2) := by decide +kernel
theorem dX5_init_40 : decode cX5_init 40 = .ok (.putfield 22, 3) := by decide +kernel
theorem dX5_init_43 : decode cX5_init 43 = .ok (.aload_n 0, 1) := by decide +kernel
theorem dX5_init_44 : decode cX5_init 44 = .ok (.iconst 4, 1) := by decide +kernel
theorem dX5_init_45 : decode cX5_init 45 = .ok (.newarray .int, 2) := by decide +kernel
theorem dX5_init_47 : decode cX5_init 47 = .ok (.putfield 25, 3) := by decide +kernel
theorem dX5_init_50 : decode cX5_init 50 = .ok (.aload_n 0, 1) := by decide +kernel
theorem dX5_init_51 : decode cX5_init 51 = .ok (.iconst 4, 1) := by decide +kernel
theorem dX5_init_52 : decode cX5_init 52 = .ok (.newarray .int, 2) := by decide +kernel
theorem dX5_init_54 : decode cX5_init 54 = .ok (.putfield 28, 3) := by decide +kernel
theorem dX5_init_57 : decode cX5_init 57 = .ok (.aload_n 0, 1) := by decide +kernel
theorem dX5_init_58 : decode cX5_init 58 = .ok (.iconst 4, 1) := by decide +kernel
theorem dX5_init_59 : decode cX5_init 59 = .ok (.newarray .int, 2) := by decide +kernel
theorem dX5_init_61 : decode cX5_init 61 = .ok (.putfield 31, 3) := by decide +kernel
theorem dX5_init_64 : decode cX5_init 64 = .ok (.aload_n 0, 1) := by decide +kernel
theorem dX5_init_65 : decode cX5_init 65 = .ok (.bipush 32, 2) := by decide +kernel
theorem dX5_init_67 : decode cX5_init 67 = .ok (.newarray .int, 2) := by decide +kernel
theorem dX5_init_69 : decode cX5_init 69 = .ok (.putfield 34, 3) := by decide +kernel
theorem dX5_init_72 : decode cX5_init 72 = .ok (.aload_n 0, 1) := by decide +kernel
theorem dX5_init_73 : decode cX5_init 73 = .ok (.bipush 32, 2) := by decide +kernel
theorem dX5_init_75 : decode cX5_init 75 = .ok (.newarray .int, 2) := by decide +kernel
theorem dX5_init_77 : decode cX5_init 77 = .ok (.putfield 37, 3) := by decide +kernel
theorem dX5_init_80 : decode cX5_init 80 = .ok (.aload_n 0, 1) := by decide +kernel
theorem dX5_init_81 : decode cX5_init 81 = .ok (.sipush 128, 3) := by decide +kernel
theorem dX5_init_84 : decode cX5_init 84 = .ok (.newarray .int, 2) := by decide +kernel
theorem dX5_init_86 : decode cX5_init 86 = .ok (.putfield 40, 3) := by decide +kernel
theorem dX5_init_89 : decode cX5_init 89 = .ok (.aload_n 0, 1) := by decide +kernel
theorem dX5_init_90 : decode cX5_init 90 = .ok (.iconst 4, 1) := by decide +kernel
theorem dX5_init_91 : decode cX5_init 91 = .ok (.newarray .int, 2) := by decide +kernel
theorem dX5_init_93 : decode cX5_init 93 = .ok (.putfield 43, 3) := by decide +kernel
theorem dX5_init_96 : decode cX5_init 96 = .ok (.aload_n 0, 1) := by decide +kernel
theorem dX5_init_97 : decode cX5_init 97 = .ok (.iconst 5, 1) := by decide +kernel
theorem dX5_init_98 : decode cX5_init 98 = .ok (.newarray .int, 2) := by decide +kernel
theorem dX5_init_100 : decode cX5_init 100 = .ok (.putfield 46, 3) := by decide +kernel
theorem dX5_init_103 : decode cX5_init 103 = .ok (.aload_n 0, 1) := by decide +kernel
theorem dX5_init_104 : decode cX5_init 104 = .ok (.iload_n 1, 1) := by decide +kernel
theorem dX5_init_105 : decode cX5_init 105 = .ok (.iconst 1, 1) := by decide +kernel
theorem dX5_init_106 : decode cX5_init 106 = .ok (.iconst 4, 1) := by decide +kernel
theorem dX5_init_107 : decode cX5_init 107 = .ok (.invokestatic 49, 3) := by decide +kernel
theorem dX5_init_110 : decode cX5_init 110 = .ok (.putfield 53, 3) := by decide +kernel
theorem dX5_init_113 : decode cX5_init 113 = .ok (.aload_n 0, 1) := by decide +kernel
theorem dX5_init_114 : decode cX5_init 114 = .ok (.iload_n 2, 1) := by decide +kernel
theorem dX5_init_115 : decode cX5_init 115 = .ok (.iconst 1, 1) := by decide +kernel
theorem dX5_init_116 : decode cX5_init 116 = .ok (.bipush 8, 2) := by decide +kernel
theorem dX5_init_118 : decode cX5_init 118 = .ok (.invokestatic 49, 3) := by decide +kernel
theorem dX5_init_121 : decode cX5_init 121 = .ok (.putfield 57, 3) := by decide +kernel
theorem dX5_init_124 : decode cX5_init 124 = .ok (.aload_n 0, 1) := by decide +kernel
theorem dX5_init_125 : decode cX5_init 125 = .ok (.iload_n 3, 1) := by decide +kernel
theorem dX5_init_126 : decode cX5_init 126 = .ok (.iconst 1, 1) := by decide +kernel
theorem dX5_init_127 : decode cX5_init 127 = .ok (.iconst 4, 1) := by decide +kernel
theorem dX5_init_128 : decode cX5_init 128 = .ok (.invokestatic 49, 3) := by decide +kernel
theorem dX5_init_131 : decode cX5_init 131 = .ok (.putfield 60, 3) := by decide +kernel
theorem dX5_init_134 : decode cX5_init 134 = .ok (.aload_n 0, 1) := by decide +kernel
theorem dX5_init_135 : decode cX5_init 135 = .ok (.iload 4, 2) := by decide +kernel
theorem dX5_init_137 : decode cX5_init 137 = .ok (.aload_n 0, 1) := by decide +kernel
theorem dX5_init_138 : decode cX5_init 138 = .ok (.getfield 60, 3) := by decide +kernel
theorem dX5_init_141 : decode cX5_init 141 = .ok (.bipush 64, 2) := by decide +kernel
theorem dX5_init_143 : decode cX5_init 143 = .ok (.invokestatic 49, 3) := by decide +kernel
theorem dX5_init_146 : decode cX5_init 146 = .ok (.aload_n 0, 1) := by decide +kernel
theorem dX5_init_147 : decode cX5_init 147 = .ok (.getfield 60, 3) := by decide +kernel
theorem dX5_init_150 : decode cX5_init 150 = .ok (.idiv, 1) := by decide +kernel
theorem dX5_init_151 : decode cX5_init 151 = .ok (.aload_n 0, 1) := by decide +kernel
theorem dX5_init_152 : decode cX5_init 152 = .ok (.getfield 60, 3) := by decide +kernel
theorem dX5_init_155 : decode cX5_init 155 = .ok (.imul, 1) := by decide +kernel
theorem dX5_init_156 : decode cX5_init 156 = .ok (.putfield 63, 3) := by decide +kernel
theorem dX5_init_159 : decode cX5_init 159 = .ok (.aload_n 0, 1) := by decide +kernel
theorem dX5_init_160 : decode cX5_init 160 = .ok (.iload 5, 2) := by decide +kernel
theorem dX5_init_162 : decode cX5_init 162 = .ok (.iconst 1, 1) := by decide +kernel
theorem dX5_init_163 : decode cX5_init 163 = .ok (.bipush 32, 2) := by decide +kernel
theorem dX5_init_165 : decode cX5_init 165 = .ok (.invokestatic 49, 3) := by decide +kernel
theorem dX5_init_168 : decode cX5_init 168 = .ok (.putfield 66, 3) := by decide +kernel
theorem dX5_init_171 : decode cX5_init 171 = .ok (.iconst 0, 1) := by decide +kernel
theorem dX5_init_172 : decode cX5_init 172 = .ok (.istore 6, 2) := by decide +kernel
theorem dX5_init_174 : decode cX5_init 174 = .ok (.iload 6, 2) := by decide +kernel
theorem dX5_init_176 : decode cX5_init 176 = .ok (.bipush 32, 2) := by decide +kernel
theorem dX5_init_178 : decode cX5_init 178 = .ok (.if_icmp .ge 17, 3) := by decide +kernel
theorem dX5_init_181 : decode cX5_init 181 = .ok (.aload_n 0, 1) := by decide +kernel
theorem dX5_init_182 : decode cX5_init 182 = .ok (.getfield 37, 3) := by decide +kernel
theorem dX5_init_185 : decode cX5_init 185 = .ok (.iload 6, 2) := by decide +kernel
theorem dX5_init_187 : decode cX5_init 187 = .ok (.iconst (-1), 1) := by decide +kernel
theorem dX5_init_188 : decode cX5_init 188 = .ok (.iastore, 1) := by decide +kernel
theorem dX5_init_189 : decode cX5_init 189 = .ok (.iinc 6 1, 3) := by decide +kernel
theorem dX5_init_192 : decode cX5_init 192 = .ok (.goto (-18), 3) := by decide +kernel
theorem dX5_init_195 : decode cX5_init 195 = .ok (.iconst 0, 1) := by decide +kernel
theorem dX5_init_196 : decode cX5_init 196 = .ok (.istore 6, 2) := by decide +kernel
theorem dX5_init_198 : decode cX5_init 198 = .ok (.iload 6, 2) := by decide +kernel
theorem dX5_init_200 : decode cX5_init 200 = .ok (.iconst 4, 1) := by decide +kernel
theorem dX5_init_201 : decode cX5_init 201 = .ok (.if_icmp .ge 17, 3) := by decide +kernel
theorem dX5_init_204 : decode cX5_init 204 = .ok (.aload_n 0, 1) := by decide +kernel
theorem dX5_init_205 : decode cX5_init 205 = .ok (.getfield 31, 3) := by decide +kernel
theorem dX5_init_208 : decode cX5_init 208 = .ok (.iload 6, 2) := by decide +kernel
theorem dX5_init_210 : decode cX5_init 210 = .ok (.iconst (-1), 1) := by decide +kernel
theorem dX5_init_211 : decode cX5_init 211 = .ok (.iastore, 1) := by decide +kernel
theorem dX5_init_212 : decode cX5_init 212 = .ok (.iinc 6 1, 3) := by decide +kernel
theorem dX5_init_215 : decode cX5_init 215 = .ok (.goto (-17), 3) := by decide +kernel
theorem dX5_init_218 : decode cX5_init 218 = .ok (.aload_n 0, 1) := by decide +kernel
theorem dX5_init_219 : decode cX5_init 219 = .ok (.iconst (-1), 1) := by decide +kernel
theorem dX5_init_220 : decode cX5_init 220 = .ok (.putfield 69, 3) := by decide +kernel
theorem dX5_init_223 : decode cX5_init 223 = .ok (.aload_n 0, 1) := by decide +kernel
theorem dX5_init_224 : decode cX5_init 224 = .ok (.iconst (-1), 1) := by decide +kernel
theorem dX5_init_225 : decode cX5_init 225 = .ok (.putfield 72, 3) := by decide +kernel
theorem dX5_init_228 : decode cX5_init 228 = .ok (.return_, 1) := by decide +kernel
theorem dX5_clamp_0 : decode cX5_clamp 0 = .ok (.iload_n 0, 1) := by decide +kernel
theorem dX5_clamp_1 : decode cX5_clamp 1 = .ok (.iload_n 1, 1) := by decide +kernel
theorem dX5_clamp_2 : decode cX5_clamp 2 = .ok (.if_icmp .ge 7, 3) := by decide +kernel
theorem dX5_clamp_5 : decode cX5_clamp 5 = .ok (.iload_n 1, 1) := by decide +kernel
theorem dX5_clamp_6 : decode cX5_clamp 6 = .ok (.goto 13, 3) := by decide +kernel
theorem dX5_clamp_9 : decode cX5_clamp 9 = .ok (.iload_n 0, 1) := by decide +kernel
theorem dX5_clamp_10 : decode cX5_clamp 10 = .ok (.iload_n 2, 1) := by decide +kernel
theorem dX5_clamp_11 : decode cX5_clamp 11 = .ok (.if_icmp .le 7, 3) := by decide +kernel
theorem dX5_clamp_14 : decode cX5_clamp 14 = .ok (.iload_n 2, 1) := by decide +kernel
theorem dX5_clamp_15 : decode cX5_clamp 15 = .ok (.goto 4, 3) := by decide +kernel
theorem dX5_clamp_18 : decode cX5_clamp 18 = .ok (.iload_n 0, 1) := by decide +kernel
theorem dX5_clamp_19 : decode cX5_clamp 19 = .ok (.ireturn, 1) := by decide +kernel
theorem dX5_load_0 : decode cX5_load 0 = .ok (.aload_n 0, 1) := by decide +kernel
theorem dX5_load_1 : decode cX5_load 1 = .ok (.iload_n 1, 1) := by decide +kernel
theorem dX5_load_2 : decode cX5_load 2 = .ok (.invokevirtual 75, 3) := by decide +kernel
theorem dX5_load_5 : decode cX5_load 5 = .ok (.ifCond .eq 22, 3) := by decide +kernel
theorem dX5_load_8 : decode cX5_load 8 = .ok (.iload_n 2, 1) := by decide +kernel
theorem dX5_load_9 : decode cX5_load 9 = .ok (.ifCond .lt 18, 3) := by decide +kernel
theorem dX5_load_12 : decode cX5_load 12 = .ok (.iload_n 2, 1) := by decide +kernel
theorem dX5_load_13 : decode cX5_load 13 = .ok (.aload_n 0, 1) := by decide +kernel
theorem dX5_load_14 : decode cX5_load 14 = .ok (.getfield 66, 3) := by decide +kernel
theorem dX5_load_17 : decode cX5_load 17 = .ok (.if_icmp .ge 10, 3) := by decide +kernel
theorem dX5_load_20 : decode cX5_load 20 = .ok (.aload_n 0, 1) := by decide +kernel
theorem dX5_load_21 : decode cX5_load 21 = .ok (.getfield 79, 3) := by decide +kernel
theorem dX5_load_24 : decode cX5_load 24 = .ok (.ifCond .eq 5, 3) := by decide +kernel
theorem dX5_load_27 : decode cX5_load 27 = .ok (.iconst 0, 1) := by decide +kernel
theorem dX5_load_28 : decode cX5_load 28 = .ok (.ireturn, 1) := by decide +kernel
theorem dX5_load_29 : decode cX5_load 29 = .ok (.aload_n 0, 1) := by decide +kernel
theorem dX5_load_30 : decode cX5_load 30 = .ok (.getfield 13, 3) := by decide +kernel
theorem dX5_load_33 : decode cX5_load 33 = .ok (.bipush 32, 2) := by decide +kernel
theorem dX5_load_35 : decode cX5_load 35 = .ok (.iload_n 1, 1) := by decide +kernel
theorem dX5_load_36 : decode cX5_load 36 = .ok (.imul, 1) := by decide +kernel
theorem dX5_load_37 : decode cX5_load 37 = .ok (.iload_n 2, 1) := by decide +kernel
theorem dX5_load_38 : decode cX5_load 38 = .ok (.iadd, 1) := by decide +kernel
theorem dX5_load_39 : decode cX5_load 39 = .ok (.iload_n 3, 1) := by decide +kernel
theorem dX5_load_40 : decode cX5_load 40 = .ok (.iastore, 1) := by decide +kernel
theorem dX5_load_41 : decode cX5_load 41 = .ok (.iconst 1, 1) := by decide +kernel
theorem dX5_load_42 : decode cX5_load 42 = .ok (.ireturn, 1) := by decide +kernel
theorem dX5_isCpu_0 : decode cX5_isCpu 0 = .ok (.iload_n 1, 1) := by decide +kernel
theorem dX5_isCpu_1 : decode cX5_isCpu 1 = .ok (.ifCond .lt 15, 3) := by decide +kernel
theorem dX5_isCpu_4 : decode cX5_isCpu 4 = .ok (.iload_n 1, 1) := by decide +kernel
theorem dX5_isCpu_5 : decode cX5_isCpu 5 = .ok (.aload_n 0, 1) := by decide +kernel
theorem dX5_isCpu_6 : decode cX5_isCpu 6 = .ok (.getfield 53, 3) := by decide +kernel
theorem dX5_isCpu_9 : decode cX5_isCpu 9 = .ok (.if_icmp .ge 7, 3) := by decide +kernel
theorem dX5_isCpu_12 : decode cX5_isCpu 12 = .ok (.iconst 1, 1) := by decide +kernel
theorem dX5_isCpu_13 : decode cX5_isCpu 13 = .ok (.goto 4, 3) := by decide +kernel
theorem dX5_isCpu_16 : decode cX5_isCpu 16 = .ok (.iconst 0, 1) := by decide +kernel
theorem dX5_isCpu_17 : decode cX5_isCpu 17 = .ok (.ireturn, 1) := by decide +kernel
theorem dX5_poke_0 : decode cX5_poke 0 = .ok (.aload_n 0, 1) := by decide +kernel
theorem dX5_poke_1 : decode cX5_poke 1 = .ok (.iload_n 1, 1) := by decide +kernel
theorem dX5_poke_2 : decode cX5_poke 2 = .ok (.invokevirtual 83, 3) := by decide +kernel
theorem dX5_poke_5 : decode cX5_poke 5 = .ok (.ifCond .eq 10, 3) := by decide +kernel
theorem dX5_poke_8 : decode cX5_poke 8 = .ok (.aload_n 0, 1) := by decide +kernel
theorem dX5_poke_9 : decode cX5_poke 9 = .ok (.getfield 79, 3) := by decide +kernel
theorem dX5_poke_12 : decode cX5_poke 12 = .ok (.ifCond .eq 5, 3) := by decide +kernel
theorem dX5_poke_15 : decode cX5_poke 15 = .ok (.iconst 0, 1) := by decide +kernel
theorem dX5_poke_16 : decode cX5_poke 16 = .ok (.ireturn, 1) := by decide +kernel
theorem dX5_poke_17 : decode cX5_poke 17 = .ok (.aload_n 0, 1) := by decide +kernel
theorem dX5_poke_18 : decode cX5_poke 18 = .ok (.getfield 7, 3) := by decide +kernel
theorem dX5_poke_21 : decode cX5_poke 21 = .ok (.iload_n 1, 1) := by decide +kernel
theorem dX5_poke_22 : decode cX5_poke 22 = .ok (.iload_n 2, 1) := by decide +kernel
theorem dX5_poke_23 : decode cX5_poke 23 = .ok (.iastore, 1) := by decide +kernel
theorem dX5_poke_24 : decode cX5_poke 24 = .ok (.iconst 1, 1) := by decide +kernel
theorem dX5_poke_25 : decode cX5_poke 25 = .ok (.ireturn, 1) := by decide +kernel
theorem dX5_isAddress_0 : decode cX5_isAddress 0 = .ok (.iload_n 1, 1) := by decide +kernel
theorem dX5_isAddress_1 : decode cX5_isAddress 1 = .ok (.ifCond .lt 15, 3) := by decide +kernel
theorem dX5_isAddress_4 : decode cX5_isAddress 4 = .ok (.iload_n 1, 1) := by decide +kernel
theorem dX5_isAddress_5 : decode cX5_isAddress 5 = .ok (.aload_n 0, 1) := by decide +kernel
theorem dX5_isAddress_6 : decode cX5_isAddress 6 = .ok (.getfield 63, 3) := by decide +kernel
theorem dX5_isAddress_9 : decode cX5_isAddress 9 = .ok (.if_icmp .ge 7, 3) := by decide +kernel
theorem dX5_isAddress_12 : decode cX5_isAddress 12 = .ok (.iconst 1, 1) := by decide +kernel
theorem dX5_isAddress_13 : decode cX5_isAddress 13 = .ok (.goto 4, 3) := by decide +kernel
theorem dX5_isAddress_16 : decode cX5_isAddress 16 = .ok (.iconst 0, 1) := by decide +kernel
theorem dX5_isAddress_17 : decode cX5_isAddress 17 = .ok (.ireturn, 1) := by decide +kernel
theorem dX5_step_0 : decode cX5_step 0 = .ok (.aload_n 0, 1) := by decide +kernel
theorem dX5_step_1 : decode cX5_step 1 = .ok (.iload_n 1, 1) := by decide +kernel
theorem dX5_step_2 : decode cX5_step 2 = .ok (.invokevirtual 75, 3) := by decide +kernel
theorem dX5_step_5 : decode cX5_step 5 = .ok (.ifCond .ne 5, 3) := by decide +kernel
theorem dX5_step_8 : decode cX5_step 8 = .ok (.iconst (-1), 1) := by decide +kernel
theorem dX5_step_9 : decode cX5_step 9 = .ok (.ireturn, 1) := by decide +kernel
theorem dX5_step_10 : decode cX5_step 10 = .ok (.aload_n 0, 1) := by decide +kernel
theorem dX5_step_11 : decode cX5_step 11 = .ok (.iconst 1, 1) := by decide +kernel
theorem dX5_step_12 : decode cX5_step 12 = .ok (.putfield 79, 3) := by decide +kernel
theorem dX5_step_15 : decode cX5_step 15 = .ok (.aload_n 0, 1) := by decide +kernel
theorem dX5_step_16 : decode cX5_step 16 = .ok (.getfield 22, 3) := by decide +kernel
theorem dX5_step_19 : decode cX5_step 19 = .ok (.iload_n 1, 1) := by decide +kernel
theorem dX5_step_20 : decode cX5_step 20 = .ok (.iaload, 1) := by decide +kernel
theorem dX5_step_21 : decode cX5_step 21 = .ok (.ifCond .eq 9, 3) := by decide +kernel
theorem dX5_step_24 : decode cX5_step 24 = .ok (.aload_n 0, 1) := by decide +kernel
theorem dX5_step_25 : decode cX5_step 25 = .ok (.iload_n 1, 1) := by decide +kernel
theorem dX5_step_26 : decode cX5_step 26 = .ok (.invokevirtual 100, 3) := by decide +kernel
theorem dX5_step_29 : decode cX5_step 29 = .ok (.ireturn, 1) := by decide +kernel
theorem dX5_step_30 : decode cX5_step 30 = .ok (.aload_n 0, 1) := by decide +kernel
theorem dX5_step_31 : decode cX5_step 31 = .ok (.getfield 19, 3) := by decide +kernel
theorem dX5_step_34 : decode cX5_step 34 = .ok (.iload_n 1, 1) := by decide +kernel
theorem dX5_step_35 : decode cX5_step 35 = .ok (.iaload, 1) := by decide +kernel
theorem dX5_step_36 : decode cX5_step 36 = .ok (.istore_n 2, 1) := by decide +kernel
theorem dX5_step_37 : decode cX5_step 37 = .ok (.iload_n 2, 1) := by decide +kernel
theorem dX5_step_38 : decode cX5_step 38 = .ok (.ifCond .lt 11, 3) := by decide +kernel
theorem dX5_step_41 : decode cX5_step 41 = .ok (.iload_n 2, 1) := by decide +kernel
theorem dX5_step_42 : decode cX5_step 42 = .ok (.aload_n 0, 1) := by decide +kernel
theorem dX5_step_43 : decode cX5_step 43 = .ok (.getfield 66, 3) := by decide +kernel
theorem dX5_step_46 : decode cX5_step 46 = .ok (.if_icmp .lt 9, 3) := by decide +kernel
theorem dX5_step_49 : decode cX5_step 49 = .ok (.aload_n 0, 1) := by decide +kernel
theorem dX5_step_50 : decode cX5_step 50 = .ok (.iload_n 1, 1) := by decide +kernel
theorem dX5_step_51 : decode cX5_step 51 = .ok (.invokevirtual 90, 3) := by decide +kernel
theorem dX5_step_54 : decode cX5_step 54 = .ok (.ireturn, 1) := by decide +kernel
theorem dX5_step_55 : decode cX5_step 55 = .ok (.aload_n 0, 1) := by decide +kernel
theorem dX5_step_56 : decode cX5_step 56 = .ok (.getfield 13, 3) := by decide +kernel
theorem dX5_step_59 : decode cX5_step 59 = .ok (.bipush 32, 2) := by decide +kernel
theorem dX5_step_61 : decode cX5_step 61 = .ok (.iload_n 1, 1) := by decide +kernel
theorem dX5_step_62 : decode cX5_step 62 = .ok (.imul, 1) := by decide +kernel
theorem dX5_step_63 : decode cX5_step 63 = .ok (.iload_n 2, 1) := by decide +kernel
theorem dX5_step_64 : decode cX5_step 64 = .ok (.iadd, 1) := by decide +kernel
theorem dX5_step_65 : decode cX5_step 65 = .ok (.iaload, 1) := by decide +kernel
theorem dX5_step_66 : decode cX5_step 66 = .ok (.istore_n 3, 1) := by decide +kernel
theorem dX5_step_67 : decode cX5_step 67 = .ok (.iload_n 3, 1) := by decide +kernel
theorem dX5_step_68 : decode cX5_step 68 = .ok (.bipush 15, 2) := by decide +kernel
theorem dX5_step_70 : decode cX5_step 70 = .ok (.iand, 1) := by decide +kernel
theorem dX5_step_71 : decode cX5_step 71 = .ok (.istore 4, 2) := by decide +kernel
theorem dX5_step_73 : decode cX5_step 73 = .ok (.iload_n 3, 1) := by decide +kernel
theorem dX5_step_74 : decode cX5_step 74 = .ok (.iconst 4, 1) := by decide +kernel
theorem dX5_step_75 : decode cX5_step 75 = .ok (.ishr, 1) := by decide +kernel
theorem dX5_step_76 : decode cX5_step 76 = .ok (.iconst 3, 1) := by decide +kernel
theorem dX5_step_77 : decode cX5_step 77 = .ok (.iand, 1) := by decide +kernel
theorem dX5_step_78 : decode cX5_step 78 = .ok (.istore 5, 2) := by decide +kernel
theorem dX5_step_80 : decode cX5_step 80 = .ok (.aload_n 0, 1) := by decide +kernel
theorem dX5_step_81 : decode cX5_step 81 = .ok (.getfield 16, 3) := by decide +kernel
theorem dX5_step_84 : decode cX5_step 84 = .ok (.iconst 4, 1) := by decide +kernel
theorem dX5_step_85 : decode cX5_step 85 = .ok (.iload_n 1, 1) := by decide +kernel
theorem dX5_step_86 : decode cX5_step 86 = .ok (.imul, 1) := by decide +kernel
theorem dX5_step_87 : decode cX5_step 87 = .ok (.iload_n 3, 1) := by decide +kernel
theorem dX5_step_88 : decode cX5_step 88 = .ok (.bipush 6, 2) := by decide +kernel
theorem dX5_step_90 : decode cX5_step 90 = .ok (.ishr, 1) := by decide +kernel
theorem dX5_step_91 : decode cX5_step 91 = .ok (.iconst 3, 1) := by decide +kernel
theorem dX5_step_92 : decode cX5_step 92 = .ok (.iand, 1) := by decide +kernel
theorem dX5_step_93 : decode cX5_step 93 = .ok (.iadd, 1) := by decide +kernel
theorem dX5_step_94 : decode cX5_step 94 = .ok (.iaload, 1) := by decide +kernel
theorem dX5_step_95 : decode cX5_step 95 = .ok (.istore 6, 2) := by decide +kernel
theorem dX5_step_97 : decode cX5_step 97 = .ok (.aload_n 0, 1) := by decide +kernel
theorem dX5_step_98 : decode cX5_step 98 = .ok (.getfield 16, 3) := by decide +kernel
theorem dX5_step_101 : decode cX5_step 101 = .ok (.iconst 4, 1) := by decide +kernel
theorem dX5_step_102 : decode cX5_step 102 = .ok (.iload_n 1, 1) := by decide +kernel
theorem dX5_step_103 : decode cX5_step 103 = .ok (.imul, 1) := by decide +kernel
theorem dX5_step_104 : decode cX5_step 104 = .ok (.iload_n 3, 1) := by decide +kernel
theorem dX5_step_105 : decode cX5_step 105 = .ok (.bipush 8, 2) := by decide +kernel
theorem dX5_step_107 : decode cX5_step 107 = .ok (.ishr, 1) := by decide +kernel
theorem dX5_step_108 : decode cX5_step 108 = .ok (.iconst 3, 1) := by decide +kernel
theorem dX5_step_109 : decode cX5_step 109 = .ok (.iand, 1) := by decide +kernel
theorem dX5_step_110 : decode cX5_step 110 = .ok (.iadd, 1) := by decide +kernel
theorem dX5_step_111 : decode cX5_step 111 = .ok (.iaload, 1) := by decide +kernel
theorem dX5_step_112 : decode cX5_step 112 = .ok (.istore 7, 2) := by decide +kernel
theorem dX5_step_114 : decode cX5_step 114 = .ok (.iload_n 3, 1) := by decide +kernel
theorem dX5_step_115 : decode cX5_step 115 = .ok (.bipush 10, 2) := by decide +kernel
theorem dX5_step_117 : decode cX5_step 117 = .ok (.ishr, 1) := by decide +kernel
theorem dX5_step_118 : decode cX5_step 118 = .ok (.istore 8, 2) := by decide +kernel
theorem dX5_step_120 : decode cX5_step 120 = .ok (.iconst 4, 1) := by decide +kernel
theorem dX5_step_121 : decode cX5_step 121 = .ok (.iload_n 1, 1) := by decide +kernel
theorem dX5_step_122 : decode cX5_step 122 = .ok (.imul, 1) := by decide +kernel
theorem dX5_step_123 : decode cX5_step 123 = .ok (.iload 5, 2) := by decide +kernel
theorem dX5_step_125 : decode cX5_step 125 = .ok (.iadd, 1) := by decide +kernel
theorem dX5_step_126 : decode cX5_step 126 = .ok (.istore 9, 2) := by decide +kernel
theorem dX5_step_128 : decode cX5_step 128 = .ok (.iload 4, 2) := by decide +kernel
theorem dX5_step_130 : decode cX5_step 130 = .ok (.tableswitch 212 0 11 #[62, 80, 92, 107, 122, 137, 152, 163, 187, 195, 195, 195], 62) := by decide +kernel
theorem dX5_step_192 : decode cX5_step 192 = .ok (.aload_n 0, 1) := by decide +kernel
theorem dX5_step_193 : decode cX5_step 193 = .ok (.getfield 22, 3) := by decide +kernel
theorem dX5_step_196 : decode cX5_step 196 = .ok (.iload_n 1, 1) := by decide +kernel
theorem dX5_step_197 : decode cX5_step 197 = .ok (.iconst 2, 1) := by decide +kernel
theorem dX5_step_198 : decode cX5_step 198 = .ok (.iastore, 1) := by decide +kernel
theorem dX5_step_199 : decode cX5_step 199 = .ok (.aload_n 0, 1) := by decide +kernel
theorem dX5_step_200 : decode cX5_step 200 = .ok (.iload_n 1, 1) := by decide +kernel
theorem dX5_step_201 : decode cX5_step 201 = .ok (.iload_n 2, 1) := by decide +kernel
theorem dX5_step_202 : decode cX5_step 202 = .ok (.iconst 1, 1) := by decide +kernel
theorem dX5_step_203 : decode cX5_step 203 = .ok (.iadd, 1) := by decide +kernel
theorem dX5_step_204 : decode cX5_step 204 = .ok (.invokevirtual 97, 3) := by decide +kernel
theorem dX5_step_207 : decode cX5_step 207 = .ok (.pop, 1) := by decide +kernel
theorem dX5_step_208 : decode cX5_step 208 = .ok (.iconst 3, 1) := by decide +kernel
theorem dX5_step_209 : decode cX5_step 209 = .ok (.ireturn, 1) := by decide +kernel
theorem dX5_step_210 : decode cX5_step 210 = .ok (.aload_n 0, 1) := by decide +kernel
theorem dX5_step_211 : decode cX5_step 211 = .ok (.getfield 16, 3) := by decide +kernel
theorem dX5_step_214 : decode cX5_step 214 = .ok (.iload 9, 2) := by decide +kernel
theorem dX5_step_216 : decode cX5_step 216 = .ok (.iload 8, 2) := by decide +kernel
theorem dX5_step_218 : decode cX5_step 218 = .ok (.iastore, 1) := by decide +kernel
theorem dX5_step_219 : decode cX5_step 219 = .ok (.goto 129, 3) := by decide +kernel
theorem dX5_step_222 : decode cX5_step 222 = .ok (.aload_n 0, 1) := by decide +kernel
theorem dX5_step_223 : decode cX5_step 223 = .ok (.getfield 16, 3) := by decide +kernel
theorem dX5_step_226 : decode cX5_step 226 = .ok (.iload 9, 2) := by decide +kernel
theorem dX5_step_228 : decode cX5_step 228 = .ok (.iload 6, 2) := by decide +kernel
theorem dX5_step_230 : decode cX5_step 230 = .ok (.iload 7, 2) := by decide +kernel
theorem dX5_step_232 : decode cX5_step 232 = .ok (.iadd, 1) := by decide +kernel
theorem dX5_step_233 : decode cX5_step 233 = .ok (.iastore, 1) := by decide +kernel
theorem dX5_step_234 : decode cX5_step 234 = .ok (.goto 114, 3) := by decide +kernel
theorem dX5_step_237 : decode cX5_step 237 = .ok (.aload_n 0, 1) := by decide +kernel
theorem dX5_step_238 : decode cX5_step 238 = .ok (.getfield 16, 3) := by decide +kernel
theorem dX5_step_241 : decode cX5_step 241 = .ok (.iload 9, 2) := by decide +kernel
theorem dX5_step_243 : decode cX5_step 243 = .ok (.iload 6, 2) := by decide +kernel
theorem dX5_step_245 : decode cX5_step 245 = .ok (.iload 7, 2) := by decide +kernel
theorem dX5_step_247 : decode cX5_step 247 = .ok (.isub, 1) := by decide +kernel
theorem dX5_step_248 : decode cX5_step 248 = .ok (.iastore, 1) := by decide +kernel
theorem dX5_step_249 : decode cX5_step 249 = .ok (.goto 99, 3) := by decide +kernel
theorem dX5_step_252 : decode cX5_step 252 = .ok (.aload_n 0, 1) := by decide +kernel
theorem dX5_step_253 : decode cX5_step 253 = .ok (.getfield 16, 3) := by decide +kernel
theorem dX5_step_256 : decode cX5_step 256 = .ok (.iload 9, 2) := by decide +kernel
theorem dX5_step_258 : decode cX5_step 258 = .ok (.iload 6, 2) := by decide +kernel
theorem dX5_step_260 : decode cX5_step 260 = .ok (.iload 7, 2) := by decide +kernel
theorem dX5_step_262 : decode cX5_step 262 = .ok (.imul, 1) := by decide +kernel
theorem dX5_step_263 : decode cX5_step 263 = .ok (.iastore, 1) := by decide +kernel
theorem dX5_step_264 : decode cX5_step 264 = .ok (.goto 84, 3) := by decide +kernel
theorem dX5_step_267 : decode cX5_step 267 = .ok (.aload_n 0, 1) := by decide +kernel
theorem dX5_step_268 : decode cX5_step 268 = .ok (.getfield 16, 3) := by decide +kernel
theorem dX5_step_271 : decode cX5_step 271 = .ok (.iload 9, 2) := by decide +kernel
theorem dX5_step_273 : decode cX5_step 273 = .ok (.iload 6, 2) := by decide +kernel
theorem dX5_step_275 : decode cX5_step 275 = .ok (.iload 8, 2) := by decide +kernel
theorem dX5_step_277 : decode cX5_step 277 = .ok (.iadd, 1) := by decide +kernel
theorem dX5_step_278 : decode cX5_step 278 = .ok (.iastore, 1) := by decide +kernel
theorem dX5_step_279 : decode cX5_step 279 = .ok (.goto 69, 3) := by decide +kernel
theorem dX5_step_282 : decode cX5_step 282 = .ok (.aload_n 0, 1) := by decide +kernel
theorem dX5_step_283 : decode cX5_step 283 = .ok (.getfield 16, 3) := by decide +kernel
theorem dX5_step_286 : decode cX5_step 286 = .ok (.iload 9, 2) := by decide +kernel
theorem dX5_step_288 : decode cX5_step 288 = .ok (.iload_n 1, 1) := by decide +kernel
theorem dX5_step_289 : decode cX5_step 289 = .ok (.iastore, 1) := by decide +kernel
theorem dX5_step_290 : decode cX5_step 290 = .ok (.goto 58, 3) := by decide +kernel
theorem dX5_step_293 : decode cX5_step 293 = .ok (.aload_n 0, 1) := by decide +kernel
theorem dX5_step_294 : decode cX5_step 294 = .ok (.iload_n 1, 1) := by decide +kernel
theorem dX5_step_295 : decode cX5_step 295 = .ok (.aload_n 0, 1) := by decide +kernel
theorem dX5_step_296 : decode cX5_step 296 = .ok (.getfield 16, 3) := by decide +kernel
theorem dX5_step_299 : decode cX5_step 299 = .ok (.iload 9, 2) := by decide +kernel
theorem dX5_step_301 : decode cX5_step 301 = .ok (.iaload, 1) := by decide +kernel
theorem dX5_step_302 : decode cX5_step 302 = .ok (.ifCond .ne 8, 3) := by decide +kernel
theorem dX5_step_305 : decode cX5_step 305 = .ok (.iload 8, 2) := by decide +kernel
theorem dX5_step_307 : decode cX5_step 307 = .ok (.goto 6, 3) := by decide +kernel
theorem dX5_step_310 : decode cX5_step 310 = .ok (.iload_n 2, 1) := by decide +kernel
theorem dX5_step_311 : decode cX5_step 311 = .ok (.iconst 1, 1) := by decide +kernel
theorem dX5_step_312 : decode cX5_step 312 = .ok (.iadd, 1) := by decide +kernel
theorem dX5_step_313 : decode cX5_step 313 = .ok (.invokevirtual 97, 3) := by decide +kernel
theorem dX5_step_316 : decode cX5_step 316 = .ok (.ireturn, 1) := by decide +kernel
theorem dX5_step_317 : decode cX5_step 317 = .ok (.aload_n 0, 1) := by decide +kernel
theorem dX5_step_318 : decode cX5_step 318 = .ok (.iload_n 1, 1) := by decide +kernel
theorem dX5_step_319 : decode cX5_step 319 = .ok (.iload 8, 2) := by decide +kernel
theorem dX5_step_321 : decode cX5_step 321 = .ok (.invokevirtual 97, 3) := by decide +kernel
theorem dX5_step_324 : decode cX5_step 324 = .ok (.ireturn, 1) := by decide +kernel
theorem dX5_step_325 : decode cX5_step 325 = .ok (.aload_n 0, 1) := by decide +kernel
theorem dX5_step_326 : decode cX5_step 326 = .ok (.iload_n 1, 1) := by decide +kernel
theorem dX5_step_327 : decode cX5_step 327 = .ok (.iload 4, 2) := by decide +kernel
theorem dX5_step_329 : decode cX5_step 329 = .ok (.iload 5, 2) := by decide +kernel
theorem dX5_step_331 : decode cX5_step 331 = .ok (.iload 7, 2) := by decide +kernel
theorem dX5_step_333 : decode cX5_step 333 = .ok (.iload 6, 2) := by decide +kernel
theorem dX5_step_335 : decode cX5_step 335 = .ok (.iload 8, 2) := by decide +kernel
theorem dX5_step_337 : decode cX5_step 337 = .ok (.iadd, 1) := by decide +kernel
theorem dX5_step_338 : decode cX5_step 338 = .ok (.invokevirtual 103, 3) := by decide +kernel
theorem dX5_step_341 : decode cX5_step 341 = .ok (.ireturn, 1) := by decide +kernel
theorem dX5_step_342 : decode cX5_step 342 = .ok (.aload_n 0, 1) := by decide +kernel
theorem dX5_step_343 : decode cX5_step 343 = .ok (.iload_n 1, 1) := by decide +kernel
theorem dX5_step_344 : decode cX5_step 344 = .ok (.invokevirtual 90, 3) := by decide +kernel
theorem dX5_step_347 : decode cX5_step 347 = .ok (.ireturn, 1) := by decide +kernel
theorem dX5_step_348 : decode cX5_step 348 = .ok (.aload_n 0, 1) := by decide +kernel
theorem dX5_step_349 : decode cX5_step 349 = .ok (.iload_n 1, 1) := by decide +kernel
theorem dX5_step_350 : decode cX5_step 350 = .ok (.iload_n 2, 1) := by decide +kernel
theorem dX5_step_351 : decode cX5_step 351 = .ok (.iconst 1, 1) := by decide +kernel
theorem dX5_step_352 : decode cX5_step 352 = .ok (.iadd, 1) := by decide +kernel
theorem dX5_step_353 : decode cX5_step 353 = .ok (.invokevirtual 97, 3) := by decide +kernel
theorem dX5_step_356 : decode cX5_step 356 = .ok (.ireturn, 1) := by decide +kernel
theorem dX5_answer_0 : decode cX5_answer 0 = .ok (.aload_n 0, 1) := by decide +kernel
theorem dX5_answer_1 : decode cX5_answer 1 = .ok (.getfield 22, 3) := by decide +kernel
theorem dX5_answer_4 : decode cX5_answer 4 = .ok (.iload_n 1, 1) := by decide +kernel
theorem dX5_answer_5 : decode cX5_answer 5 = .ok (.iaload, 1) := by decide +kernel
theorem dX5_answer_6 : decode cX5_answer 6 = .ok (.iconst 1, 1) := by decide +kernel
theorem dX5_answer_7 : decode cX5_answer 7 = .ok (.if_icmp .ne 7, 3) := by decide +kernel
theorem dX5_answer_10 : decode cX5_answer 10 = .ok (.iconst 2, 1) := by decide +kernel
theorem dX5_answer_11 : decode cX5_answer 11 = .ok (.goto 18, 3) := by decide +kernel
theorem dX5_answer_14 : decode cX5_answer 14 = .ok (.aload_n 0, 1) := by decide +kernel
theorem dX5_answer_15 : decode cX5_answer 15 = .ok (.getfield 22, 3) := by decide +kernel
theorem dX5_answer_18 : decode cX5_answer 18 = .ok (.iload_n 1, 1) := by decide +kernel
theorem dX5_answer_19 : decode cX5_answer 19 = .ok (.iaload, 1) := by decide +kernel
theorem dX5_answer_20 : decode cX5_answer 20 = .ok (.iconst 2, 1) := by decide +kernel
theorem dX5_answer_21 : decode cX5_answer 21 = .ok (.if_icmp .ne 7, 3) := by decide +kernel
theorem dX5_answer_24 : decode cX5_answer 24 = .ok (.iconst 3, 1) := by decide +kernel
theorem dX5_answer_25 : decode cX5_answer 25 = .ok (.goto 4, 3) := by decide +kernel
theorem dX5_answer_28 : decode cX5_answer 28 = .ok (.iconst 4, 1) := by decide +kernel
theorem dX5_answer_29 : decode cX5_answer 29 = .ok (.ireturn, 1) := by decide +kernel
theorem dX5_trap_0 : decode cX5_trap 0 = .ok (.aload_n 0, 1) := by decide +kernel
theorem dX5_trap_1 : decode cX5_trap 1 = .ok (.getfield 22, 3) := by decide +kernel
theorem dX5_trap_4 : decode cX5_trap 4 = .ok (.iload_n 1, 1) := by decide +kernel
theorem dX5_trap_5 : decode cX5_trap 5 = .ok (.iconst 3, 1) := by decide +kernel
theorem dX5_trap_6 : decode cX5_trap 6 = .ok (.iastore, 1) := by decide +kernel
theorem dX5_trap_7 : decode cX5_trap 7 = .ok (.iconst 4, 1) := by decide +kernel
theorem dX5_trap_8 : decode cX5_trap 8 = .ok (.ireturn, 1) := by decide +kernel
theorem dX5_done_0 : decode cX5_done 0 = .ok (.aload_n 0, 1) := by decide +kernel
theorem dX5_done_1 : decode cX5_done 1 = .ok (.getfield 19, 3) := by decide +kernel
theorem dX5_done_4 : decode cX5_done 4 = .ok (.iload_n 1, 1) := by decide +kernel
theorem dX5_done_5 : decode cX5_done 5 = .ok (.iload_n 2, 1) := by decide +kernel
theorem dX5_done_6 : decode cX5_done 6 = .ok (.iastore, 1) := by decide +kernel
theorem dX5_done_7 : decode cX5_done 7 = .ok (.aload_n 0, 1) := by decide +kernel
theorem dX5_done_8 : decode cX5_done 8 = .ok (.getfield 25, 3) := by decide +kernel
theorem dX5_done_11 : decode cX5_done 11 = .ok (.iload_n 1, 1) := by decide +kernel
theorem dX5_done_12 : decode cX5_done 12 = .ok (.dup2, 1) := by decide +kernel
theorem dX5_done_13 : decode cX5_done 13 = .ok (.iaload, 1) := by decide +kernel
theorem dX5_done_14 : decode cX5_done 14 = .ok (.iconst 1, 1) := by decide +kernel
theorem dX5_done_15 : decode cX5_done 15 = .ok (.iadd, 1) := by decide +kernel
theorem dX5_done_16 : decode cX5_done 16 = .ok (.iastore, 1) := by decide +kernel
theorem dX5_done_17 : decode cX5_done 17 = .ok (.iconst 1, 1) := by decide +kernel
theorem dX5_done_18 : decode cX5_done 18 = .ok (.ireturn, 1) := by decide +kernel
theorem dX5_move_0 : decode cX5_move 0 = .ok (.aload_n 0, 1) := by decide +kernel
theorem dX5_move_1 : decode cX5_move 1 = .ok (.iload 5, 2) := by decide +kernel
theorem dX5_move_3 : decode cX5_move 3 = .ok (.invokevirtual 83, 3) := by decide +kernel
theorem dX5_move_6 : decode cX5_move 6 = .ok (.ifCond .ne 9, 3) := by decide +kernel
theorem dX5_move_9 : decode cX5_move 9 = .ok (.aload_n 0, 1) := by decide +kernel
theorem dX5_move_10 : decode cX5_move 10 = .ok (.iload_n 1, 1) := by decide +kernel
theorem dX5_move_11 : decode cX5_move 11 = .ok (.invokevirtual 90, 3) := by decide +kernel
theorem dX5_move_14 : decode cX5_move 14 = .ok (.ireturn, 1) := by decide +kernel
theorem dX5_move_15 : decode cX5_move 15 = .ok (.iload 5, 2) := by decide +kernel
theorem dX5_move_17 : decode cX5_move 17 = .ok (.aload_n 0, 1) := by decide +kernel
theorem dX5_move_18 : decode cX5_move 18 = .ok (.getfield 60, 3) := by decide +kernel
theorem dX5_move_21 : decode cX5_move 21 = .ok (.idiv, 1) := by decide +kernel
theorem dX5_move_22 : decode cX5_move 22 = .ok (.istore 6, 2) := by decide +kernel
theorem dX5_move_24 : decode cX5_move 24 = .ok (.aload_n 0, 1) := by decide +kernel
theorem dX5_move_25 : decode cX5_move 25 = .ok (.iload_n 1, 1) := by decide +kernel
theorem dX5_move_26 : decode cX5_move 26 = .ok (.iload 6, 2) := by decide +kernel
theorem dX5_move_28 : decode cX5_move 28 = .ok (.invokevirtual 94, 3) := by decide +kernel
theorem dX5_move_31 : decode cX5_move 31 = .ok (.istore 7, 2) := by decide +kernel
theorem dX5_move_33 : decode cX5_move 33 = .ok (.iload_n 2, 1) := by decide +kernel
theorem dX5_move_34 : decode cX5_move 34 = .ok (.bipush 9, 2) := by decide +kernel
theorem dX5_move_36 : decode cX5_move 36 = .ok (.if_icmp .ne 11, 3) := by decide +kernel
theorem dX5_move_39 : decode cX5_move 39 = .ok (.iload 7, 2) := by decide +kernel
theorem dX5_move_41 : decode cX5_move 41 = .ok (.ifCond .ne 52, 3) := by decide +kernel
theorem dX5_move_44 : decode cX5_move 44 = .ok (.goto 15, 3) := by decide +kernel
theorem dX5_move_47 : decode cX5_move 47 = .ok (.iload 7, 2) := by decide +kernel
theorem dX5_move_49 : decode cX5_move 49 = .ok (.iconst 2, 1) := by decide +kernel
theorem dX5_move_50 : decode cX5_move 50 = .ok (.if_icmp .eq 43, 3) := by decide +kernel
theorem dX5_move_53 : decode cX5_move 53 = .ok (.iload 7, 2) := by decide +kernel
theorem dX5_move_55 : decode cX5_move 55 = .ok (.iconst 4, 1) := by decide +kernel
theorem dX5_move_56 : decode cX5_move 56 = .ok (.if_icmp .eq 37, 3) := by decide +kernel
theorem dX5_move_59 : decode cX5_move 59 = .ok (.aload_n 0, 1) := by decide +kernel
theorem dX5_move_60 : decode cX5_move 60 = .ok (.getfield 22, 3) := by decide +kernel
theorem dX5_move_63 : decode cX5_move 63 = .ok (.iload_n 1, 1) := by decide +kernel
theorem dX5_move_64 : decode cX5_move 64 = .ok (.iconst 1, 1) := by decide +kernel
theorem dX5_move_65 : decode cX5_move 65 = .ok (.iastore, 1) := by decide +kernel
theorem dX5_move_66 : decode cX5_move 66 = .ok (.aload_n 0, 1) := by decide +kernel
theorem dX5_move_67 : decode cX5_move 67 = .ok (.getfield 28, 3) := by decide +kernel
theorem dX5_move_70 : decode cX5_move 70 = .ok (.iload_n 1, 1) := by decide +kernel
theorem dX5_move_71 : decode cX5_move 71 = .ok (.iload_n 2, 1) := by decide +kernel
theorem dX5_move_72 : decode cX5_move 72 = .ok (.bipush 9, 2) := by decide +kernel
theorem dX5_move_74 : decode cX5_move 74 = .ok (.if_icmp .ne 7, 3) := by decide +kernel
theorem dX5_move_77 : decode cX5_move 77 = .ok (.iconst 1, 1) := by decide +kernel
theorem dX5_move_78 : decode cX5_move 78 = .ok (.goto 4, 3) := by decide +kernel
theorem dX5_move_81 : decode cX5_move 81 = .ok (.iconst 2, 1) := by decide +kernel
theorem dX5_move_82 : decode cX5_move 82 = .ok (.iastore, 1) := by decide +kernel
theorem dX5_move_83 : decode cX5_move 83 = .ok (.aload_n 0, 1) := by decide +kernel
theorem dX5_move_84 : decode cX5_move 84 = .ok (.getfield 31, 3) := by decide +kernel
theorem dX5_move_87 : decode cX5_move 87 = .ok (.iload_n 1, 1) := by decide +kernel
theorem dX5_move_88 : decode cX5_move 88 = .ok (.iload 6, 2) := by decide +kernel
theorem dX5_move_90 : decode cX5_move 90 = .ok (.iastore, 1) := by decide +kernel
theorem dX5_move_91 : decode cX5_move 91 = .ok (.iconst 2, 1) := by decide +kernel
theorem dX5_move_92 : decode cX5_move 92 = .ok (.ireturn, 1) := by decide +kernel
theorem dX5_move_93 : decode cX5_move 93 = .ok (.aload_n 0, 1) := by decide +kernel
theorem dX5_move_94 : decode cX5_move 94 = .ok (.iload_n 1, 1) := by decide +kernel
theorem dX5_move_95 : decode cX5_move 95 = .ok (.iload 6, 2) := by decide +kernel
theorem dX5_move_97 : decode cX5_move 97 = .ok (.invokevirtual 86, 3) := by decide +kernel
theorem dX5_move_100 : decode cX5_move 100 = .ok (.istore 8, 2) := by decide +kernel
theorem dX5_move_102 : decode cX5_move 102 = .ok (.iconst 4, 1) := by decide +kernel
theorem dX5_move_103 : decode cX5_move 103 = .ok (.iload 8, 2) := by decide +kernel
theorem dX5_move_105 : decode cX5_move 105 = .ok (.imul, 1) := by decide +kernel
theorem dX5_move_106 : decode cX5_move 106 = .ok (.iload 5, 2) := by decide +kernel
theorem dX5_move_108 : decode cX5_move 108 = .ok (.aload_n 0, 1) := by decide +kernel
theorem dX5_move_109 : decode cX5_move 109 = .ok (.getfield 60, 3) := by decide +kernel
theorem dX5_move_112 : decode cX5_move 112 = .ok (.irem, 1) := by decide +kernel
theorem dX5_move_113 : decode cX5_move 113 = .ok (.iadd, 1) := by decide +kernel
theorem dX5_move_114 : decode cX5_move 114 = .ok (.istore 9, 2) := by decide +kernel
theorem dX5_move_116 : decode cX5_move 116 = .ok (.iload_n 2, 1) := by decide +kernel
theorem dX5_move_117 : decode cX5_move 117 = .ok (.bipush 9, 2) := by decide +kernel
theorem dX5_move_119 : decode cX5_move 119 = .ok (.if_icmp .ne 34, 3) := by decide +kernel
theorem dX5_move_122 : decode cX5_move 122 = .ok (.aload_n 0, 1) := by decide +kernel
theorem dX5_move_123 : decode cX5_move 123 = .ok (.getfield 16, 3) := by decide +kernel
theorem dX5_move_126 : decode cX5_move 126 = .ok (.iconst 4, 1) := by decide +kernel
theorem dX5_move_127 : decode cX5_move 127 = .ok (.iload_n 1, 1) := by decide +kernel
theorem dX5_move_128 : decode cX5_move 128 = .ok (.imul, 1) := by decide +kernel
theorem dX5_move_129 : decode cX5_move 129 = .ok (.iload_n 3, 1) := by decide +kernel
theorem dX5_move_130 : decode cX5_move 130 = .ok (.iadd, 1) := by decide +kernel
theorem dX5_move_131 : decode cX5_move 131 = .ok (.aload_n 0, 1) := by decide +kernel
theorem dX5_move_132 : decode cX5_move 132 = .ok (.getfield 40, 3) := by decide +kernel
theorem dX5_move_135 : decode cX5_move 135 = .ok (.iload 9, 2) := by decide +kernel
theorem dX5_move_137 : decode cX5_move 137 = .ok (.iaload, 1) := by decide +kernel
theorem dX5_move_138 : decode cX5_move 138 = .ok (.iastore, 1) := by decide +kernel
theorem dX5_move_139 : decode cX5_move 139 = .ok (.aload_n 0, 1) := by decide +kernel
theorem dX5_move_140 : decode cX5_move 140 = .ok (.iload_n 1, 1) := by decide +kernel
theorem dX5_move_141 : decode cX5_move 141 = .ok (.aload_n 0, 1) := by decide +kernel
theorem dX5_move_142 : decode cX5_move 142 = .ok (.getfield 19, 3) := by decide +kernel
theorem dX5_move_145 : decode cX5_move 145 = .ok (.iload_n 1, 1) := by decide +kernel
theorem dX5_move_146 : decode cX5_move 146 = .ok (.iaload, 1) := by decide +kernel
theorem dX5_move_147 : decode cX5_move 147 = .ok (.iconst 1, 1) := by decide +kernel
theorem dX5_move_148 : decode cX5_move 148 = .ok (.iadd, 1) := by decide +kernel
theorem dX5_move_149 : decode cX5_move 149 = .ok (.invokevirtual 97, 3) := by decide +kernel
theorem dX5_move_152 : decode cX5_move 152 = .ok (.ireturn, 1) := by decide +kernel
theorem dX5_move_153 : decode cX5_move 153 = .ok (.aload_n 0, 1) := by decide +kernel
theorem dX5_move_154 : decode cX5_move 154 = .ok (.getfield 34, 3) := by decide +kernel
theorem dX5_move_157 : decode cX5_move 157 = .ok (.iload 8, 2) := by decide +kernel
theorem dX5_move_159 : decode cX5_move 159 = .ok (.iconst 4, 1) := by decide +kernel
theorem dX5_move_160 : decode cX5_move 160 = .ok (.iastore, 1) := by decide +kernel
theorem dX5_move_161 : decode cX5_move 161 = .ok (.iload_n 2, 1) := by decide +kernel
theorem dX5_move_162 : decode cX5_move 162 = .ok (.bipush 10, 2) := by decide +kernel
theorem dX5_move_164 : decode cX5_move 164 = .ok (.if_icmp .eq 15, 3) := by decide +kernel
theorem dX5_move_167 : decode cX5_move 167 = .ok (.aload_n 0, 1) := by decide +kernel
theorem dX5_move_168 : decode cX5_move 168 = .ok (.getfield 40, 3) := by decide +kernel
theorem dX5_move_171 : decode cX5_move 171 = .ok (.iload 9, 2) := by decide +kernel
theorem dX5_move_173 : decode cX5_move 173 = .ok (.iaload, 1) := by decide +kernel
theorem dX5_move_174 : decode cX5_move 174 = .ok (.iload 4, 2) := by decide +kernel
theorem dX5_move_176 : decode cX5_move 176 = .ok (.if_icmp .ne 7, 3) := by decide +kernel
theorem dX5_move_179 : decode cX5_move 179 = .ok (.iconst 1, 1) := by decide +kernel
theorem dX5_move_180 : decode cX5_move 180 = .ok (.goto 4, 3) := by decide +kernel
theorem dX5_move_183 : decode cX5_move 183 = .ok (.iconst 0, 1) := by decide +kernel
theorem dX5_move_184 : decode cX5_move 184 = .ok (.istore 10, 2) := by decide +kernel
theorem dX5_move_186 : decode cX5_move 186 = .ok (.iload 10, 2) := by decide +kernel
theorem dX5_move_188 : decode cX5_move 188 = .ok (.ifCond .eq 20, 3) := by decide +kernel
theorem dX5_move_191 : decode cX5_move 191 = .ok (.aload_n 0, 1) := by decide +kernel
theorem dX5_move_192 : decode cX5_move 192 = .ok (.getfield 40, 3) := by decide +kernel
theorem dX5_move_195 : decode cX5_move 195 = .ok (.iload 9, 2) := by decide +kernel
theorem dX5_move_197 : decode cX5_move 197 = .ok (.aload_n 0, 1) := by decide +kernel
theorem dX5_move_198 : decode cX5_move 198 = .ok (.getfield 16, 3) := by decide +kernel
theorem dX5_move_201 : decode cX5_move 201 = .ok (.iconst 4, 1) := by decide +kernel
theorem dX5_move_202 : decode cX5_move 202 = .ok (.iload_n 1, 1) := by decide +kernel
theorem dX5_move_203 : decode cX5_move 203 = .ok (.imul, 1) := by decide +kernel
theorem dX5_move_204 : decode cX5_move 204 = .ok (.iload_n 3, 1) := by decide +kernel
theorem dX5_move_205 : decode cX5_move 205 = .ok (.iadd, 1) := by decide +kernel
theorem dX5_move_206 : decode cX5_move 206 = .ok (.iaload, 1) := by decide +kernel
theorem dX5_move_207 : decode cX5_move 207 = .ok (.iastore, 1) := by decide +kernel
theorem dX5_move_208 : decode cX5_move 208 = .ok (.iload_n 2, 1) := by decide +kernel
theorem dX5_move_209 : decode cX5_move 209 = .ok (.bipush 11, 2) := by decide +kernel
theorem dX5_move_211 : decode cX5_move 211 = .ok (.if_icmp .ne 23, 3) := by decide +kernel
theorem dX5_move_214 : decode cX5_move 214 = .ok (.aload_n 0, 1) := by decide +kernel
theorem dX5_move_215 : decode cX5_move 215 = .ok (.getfield 16, 3) := by decide +kernel
theorem dX5_move_218 : decode cX5_move 218 = .ok (.iconst 4, 1) := by decide +kernel
theorem dX5_move_219 : decode cX5_move 219 = .ok (.iload_n 1, 1) := by decide +kernel
theorem dX5_move_220 : decode cX5_move 220 = .ok (.imul, 1) := by decide +kernel
theorem dX5_move_221 : decode cX5_move 221 = .ok (.iload_n 3, 1) := by decide +kernel
theorem dX5_move_222 : decode cX5_move 222 = .ok (.iadd, 1) := by decide +kernel
theorem dX5_move_223 : decode cX5_move 223 = .ok (.iload 10, 2) := by decide +kernel
theorem dX5_move_225 : decode cX5_move 225 = .ok (.ifCond .eq 7, 3) := by decide +kernel
theorem dX5_move_228 : decode cX5_move 228 = .ok (.iconst 1, 1) := by decide +kernel
theorem dX5_move_229 : decode cX5_move 229 = .ok (.goto 4, 3) := by decide +kernel
theorem dX5_move_232 : decode cX5_move 232 = .ok (.iconst 0, 1) := by decide +kernel
theorem dX5_move_233 : decode cX5_move 233 = .ok (.iastore, 1) := by decide +kernel
theorem dX5_move_234 : decode cX5_move 234 = .ok (.aload_n 0, 1) := by decide +kernel
theorem dX5_move_235 : decode cX5_move 235 = .ok (.iload_n 1, 1) := by decide +kernel
theorem dX5_move_236 : decode cX5_move 236 = .ok (.aload_n 0, 1) := by decide +kernel
theorem dX5_move_237 : decode cX5_move 237 = .ok (.getfield 19, 3) := by decide +kernel
theorem dX5_move_240 : decode cX5_move 240 = .ok (.iload_n 1, 1) := by decide +kernel
theorem dX5_move_241 : decode cX5_move 241 = .ok (.iaload, 1) := by decide +kernel
theorem dX5_move_242 : decode cX5_move 242 = .ok (.iconst 1, 1) := by decide +kernel
theorem dX5_move_243 : decode cX5_move 243 = .ok (.iadd, 1) := by decide +kernel
theorem dX5_move_244 : decode cX5_move 244 = .ok (.invokevirtual 97, 3) := by decide +kernel
theorem dX5_move_247 : decode cX5_move 247 = .ok (.ireturn, 1) := by decide +kernel
theorem dX5_stateOf_0 : decode cX5_stateOf 0 = .ok (.aload_n 0, 1) := by decide +kernel
theorem dX5_stateOf_1 : decode cX5_stateOf 1 = .ok (.iload_n 1, 1) := by decide +kernel
theorem dX5_stateOf_2 : decode cX5_stateOf 2 = .ok (.iload_n 2, 1) := by decide +kernel
theorem dX5_stateOf_3 : decode cX5_stateOf 3 = .ok (.invokevirtual 86, 3) := by decide +kernel
theorem dX5_stateOf_6 : decode cX5_stateOf 6 = .ok (.istore_n 3, 1) := by decide +kernel
theorem dX5_stateOf_7 : decode cX5_stateOf 7 = .ok (.aload_n 0, 1) := by decide +kernel
theorem dX5_stateOf_8 : decode cX5_stateOf 8 = .ok (.getfield 37, 3) := by decide +kernel
theorem dX5_stateOf_11 : decode cX5_stateOf 11 = .ok (.iload_n 3, 1) := by decide +kernel
theorem dX5_stateOf_12 : decode cX5_stateOf 12 = .ok (.iaload, 1) := by decide +kernel
theorem dX5_stateOf_13 : decode cX5_stateOf 13 = .ok (.iload_n 2, 1) := by decide +kernel
theorem dX5_stateOf_14 : decode cX5_stateOf 14 = .ok (.if_icmp .ne 12, 3) := by decide +kernel
theorem dX5_stateOf_17 : decode cX5_stateOf 17 = .ok (.aload_n 0, 1) := by decide +kernel
theorem dX5_stateOf_18 : decode cX5_stateOf 18 = .ok (.getfield 34, 3) := by decide +kernel
theorem dX5_stateOf_21 : decode cX5_stateOf 21 = .ok (.iload_n 3, 1) := by decide +kernel
theorem dX5_stateOf_22 : decode cX5_stateOf 22 = .ok (.iaload, 1) := by decide +kernel
theorem dX5_stateOf_23 : decode cX5_stateOf 23 = .ok (.goto 4, 3) := by decide +kernel
theorem dX5_stateOf_26 : decode cX5_stateOf 26 = .ok (.iconst 0, 1) := by decide +kernel
theorem dX5_stateOf_27 : decode cX5_stateOf 27 = .ok (.ireturn, 1) := by decide +kernel
theorem dX5_slotOf_0 : decode cX5_slotOf 0 = .ok (.bipush 8, 2) := by decide +kernel
theorem dX5_slotOf_2 : decode cX5_slotOf 2 = .ok (.iload_n 1, 1) := by decide +kernel
theorem dX5_slotOf_3 : decode cX5_slotOf 3 = .ok (.imul, 1) := by decide +kernel
theorem dX5_slotOf_4 : decode cX5_slotOf 4 = .ok (.iload_n 2, 1) := by decide +kernel
theorem dX5_slotOf_5 : decode cX5_slotOf 5 = .ok (.aload_n 0, 1) := by decide +kernel
theorem dX5_slotOf_6 : decode cX5_slotOf 6 = .ok (.getfield 57, 3) := by decide +kernel
theorem dX5_slotOf_9 : decode cX5_slotOf 9 = .ok (.irem, 1) := by decide +kernel
theorem dX5_slotOf_10 : decode cX5_slotOf 10 = .ok (.iadd, 1) := by decide +kernel
theorem dX5_slotOf_11 : decode cX5_slotOf 11 = .ok (.ireturn, 1) := by decide +kernel
theorem dX5_bus_0 : decode cX5_bus 0 = .ok (.aload_n 0, 1) := by decide +kernel
theorem dX5_bus_1 : decode cX5_bus 1 = .ok (.getfield 107, 3) := by decide +kernel
theorem dX5_bus_4 : decode cX5_bus 4 = .ok (.ifCond .ne 8, 3) := by decide +kernel
theorem dX5_bus_7 : decode cX5_bus 7 = .ok (.aload_n 0, 1) := by decide +kernel
theorem dX5_bus_8 : decode cX5_bus 8 = .ok (.invokevirtual 128, 3) := by decide +kernel
theorem dX5_bus_11 : decode cX5_bus 11 = .ok (.ireturn, 1) := by decide +kernel
theorem dX5_bus_12 : decode cX5_bus 12 = .ok (.aload_n 0, 1) := by decide +kernel
theorem dX5_bus_13 : decode cX5_bus 13 = .ok (.getfield 107, 3) := by decide +kernel
theorem dX5_bus_16 : decode cX5_bus 16 = .ok (.iconst 3, 1) := by decide +kernel
theorem dX5_bus_17 : decode cX5_bus 17 = .ok (.if_icmp .ne 8, 3) := by decide +kernel
theorem dX5_bus_20 : decode cX5_bus 20 = .ok (.aload_n 0, 1) := by decide +kernel
theorem dX5_bus_21 : decode cX5_bus 21 = .ok (.invokevirtual 132, 3) := by decide +kernel
theorem dX5_bus_24 : decode cX5_bus 24 = .ok (.ireturn, 1) := by decide +kernel
theorem dX5_bus_25 : decode cX5_bus 25 = .ok (.aload_n 0, 1) := by decide +kernel
theorem dX5_bus_26 : decode cX5_bus 26 = .ok (.aload_n 0, 1) := by decide +kernel
theorem dX5_bus_27 : decode cX5_bus 27 = .ok (.getfield 69, 3) := by decide +kernel
theorem dX5_bus_30 : decode cX5_bus 30 = .ok (.aload_n 0, 1) := by decide +kernel
theorem dX5_bus_31 : decode cX5_bus 31 = .ok (.getfield 72, 3) := by decide +kernel
theorem dX5_bus_34 : decode cX5_bus 34 = .ok (.invokevirtual 86, 3) := by decide +kernel
theorem dX5_bus_37 : decode cX5_bus 37 = .ok (.istore_n 1, 1) := by decide +kernel
theorem dX5_bus_38 : decode cX5_bus 38 = .ok (.aload_n 0, 1) := by decide +kernel
theorem dX5_bus_39 : decode cX5_bus 39 = .ok (.getfield 107, 3) := by decide +kernel
theorem dX5_bus_42 : decode cX5_bus 42 = .ok (.iconst 1, 1) := by decide +kernel
theorem dX5_bus_43 : decode cX5_bus 43 = .ok (.if_icmp .ne 44, 3) := by decide +kernel
theorem dX5_bus_46 : decode cX5_bus 46 = .ok (.aload_n 0, 1) := by decide +kernel
theorem dX5_bus_47 : decode cX5_bus 47 = .ok (.getfield 37, 3) := by decide +kernel
theorem dX5_bus_50 : decode cX5_bus 50 = .ok (.iload_n 1, 1) := by decide +kernel
theorem dX5_bus_51 : decode cX5_bus 51 = .ok (.iaload, 1) := by decide +kernel
theorem dX5_bus_52 : decode cX5_bus 52 = .ok (.aload_n 0, 1) := by decide +kernel
theorem dX5_bus_53 : decode cX5_bus 53 = .ok (.getfield 72, 3) := by decide +kernel
theorem dX5_bus_56 : decode cX5_bus 56 = .ok (.if_icmp .eq 31, 3) := by decide +kernel
theorem dX5_bus_59 : decode cX5_bus 59 = .ok (.aload_n 0, 1) := by decide +kernel
theorem dX5_bus_60 : decode cX5_bus 60 = .ok (.getfield 34, 3) := by decide +kernel
theorem dX5_bus_63 : decode cX5_bus 63 = .ok (.iload_n 1, 1) := by decide +kernel
theorem dX5_bus_64 : decode cX5_bus 64 = .ok (.iaload, 1) := by decide +kernel
theorem dX5_bus_65 : decode cX5_bus 65 = .ok (.invokestatic 118, 3) := by decide +kernel
theorem dX5_bus_68 : decode cX5_bus 68 = .ok (.ifCond .eq 19, 3) := by decide +kernel
theorem dX5_bus_71 : decode cX5_bus 71 = .ok (.aload_n 0, 1) := by decide +kernel
theorem dX5_bus_72 : decode cX5_bus 72 = .ok (.iload_n 1, 1) := by decide +kernel
theorem dX5_bus_73 : decode cX5_bus 73 = .ok (.invokevirtual 121, 3) := by decide +kernel
theorem dX5_bus_76 : decode cX5_bus 76 = .ok (.aload_n 0, 1) := by decide +kernel
theorem dX5_bus_77 : decode cX5_bus 77 = .ok (.iload_n 1, 1) := by decide +kernel
theorem dX5_bus_78 : decode cX5_bus 78 = .ok (.invokevirtual 125, 3) := by decide +kernel
theorem dX5_bus_81 : decode cX5_bus 81 = .ok (.aload_n 0, 1) := by decide +kernel
theorem dX5_bus_82 : decode cX5_bus 82 = .ok (.iconst 2, 1) := by decide +kernel
theorem dX5_bus_83 : decode cX5_bus 83 = .ok (.invokevirtual 113, 3) := by decide +kernel
theorem dX5_bus_86 : decode cX5_bus 86 = .ok (.ireturn, 1) := by decide +kernel
theorem dX5_bus_87 : decode cX5_bus 87 = .ok (.aload_n 0, 1) := by decide +kernel
theorem dX5_bus_88 : decode cX5_bus 88 = .ok (.invokevirtual 135, 3) := by decide +kernel
theorem dX5_bus_91 : decode cX5_bus 91 = .ok (.ireturn, 1) := by decide +kernel
theorem dX5_take_0 : decode cX5_take 0 = .ok (.iconst 0, 1) := by decide +kernel
theorem dX5_take_1 : decode cX5_take 1 = .ok (.istore_n 1, 1) := by decide +kernel
theorem dX5_take_2 : decode cX5_take 2 = .ok (.iload_n 1, 1) := by decide +kernel
theorem dX5_take_3 : decode cX5_take 3 = .ok (.aload_n 0, 1) := by decide +kernel
theorem dX5_take_4 : decode cX5_take 4 = .ok (.getfield 53, 3) := by decide +kernel
theorem dX5_take_7 : decode cX5_take 7 = .ok (.if_icmp .ge 18, 3) := by decide +kernel
theorem dX5_take_10 : decode cX5_take 10 = .ok (.aload_n 0, 1) := by decide +kernel
theorem dX5_take_11 : decode cX5_take 11 = .ok (.getfield 28, 3) := by decide +kernel
theorem dX5_take_14 : decode cX5_take 14 = .ok (.iload_n 1, 1) := by decide +kernel
theorem dX5_take_15 : decode cX5_take 15 = .ok (.iaload, 1) := by decide +kernel
theorem dX5_take_16 : decode cX5_take 16 = .ok (.ifCond .ne 9, 3) := by decide +kernel
theorem dX5_take_19 : decode cX5_take 19 = .ok (.iinc 1 1, 3) := by decide +kernel
theorem dX5_take_22 : decode cX5_take 22 = .ok (.goto (-20), 3) := by decide +kernel
theorem dX5_take_25 : decode cX5_take 25 = .ok (.iload_n 1, 1) := by decide +kernel
theorem dX5_take_26 : decode cX5_take 26 = .ok (.aload_n 0, 1) := by decide +kernel
theorem dX5_take_27 : decode cX5_take 27 = .ok (.getfield 53, 3) := by decide +kernel
theorem dX5_take_30 : decode cX5_take 30 = .ok (.if_icmp .ne 5, 3) := by decide +kernel
theorem dX5_take_33 : decode cX5_take 33 = .ok (.iconst 0, 1) := by decide +kernel
theorem dX5_take_34 : decode cX5_take 34 = .ok (.ireturn, 1) := by decide +kernel
theorem dX5_take_35 : decode cX5_take 35 = .ok (.aload_n 0, 1) := by decide +kernel
theorem dX5_take_36 : decode cX5_take 36 = .ok (.iload_n 1, 1) := by decide +kernel
theorem dX5_take_37 : decode cX5_take 37 = .ok (.putfield 69, 3) := by decide +kernel
theorem dX5_take_40 : decode cX5_take 40 = .ok (.aload_n 0, 1) := by decide +kernel
theorem dX5_take_41 : decode cX5_take 41 = .ok (.aload_n 0, 1) := by decide +kernel
theorem dX5_take_42 : decode cX5_take 42 = .ok (.getfield 28, 3) := by decide +kernel
theorem dX5_take_45 : decode cX5_take 45 = .ok (.iload_n 1, 1) := by decide +kernel
theorem dX5_take_46 : decode cX5_take 46 = .ok (.iaload, 1) := by decide +kernel
theorem dX5_take_47 : decode cX5_take 47 = .ok (.putfield 110, 3) := by decide +kernel
theorem dX5_take_50 : decode cX5_take 50 = .ok (.aload_n 0, 1) := by decide +kernel
theorem dX5_take_51 : decode cX5_take 51 = .ok (.aload_n 0, 1) := by decide +kernel
theorem dX5_take_52 : decode cX5_take 52 = .ok (.getfield 31, 3) := by decide +kernel
theorem dX5_take_55 : decode cX5_take 55 = .ok (.iload_n 1, 1) := by decide +kernel
theorem dX5_take_56 : decode cX5_take 56 = .ok (.iaload, 1) := by decide +kernel
theorem dX5_take_57 : decode cX5_take 57 = .ok (.putfield 72, 3) := by decide +kernel
theorem dX5_take_60 : decode cX5_take 60 = .ok (.aload_n 0, 1) := by decide +kernel
theorem dX5_take_61 : decode cX5_take 61 = .ok (.getfield 28, 3) := by decide +kernel
theorem dX5_take_64 : decode cX5_take 64 = .ok (.iload_n 1, 1) := by decide +kernel
theorem dX5_take_65 : decode cX5_take 65 = .ok (.iconst 0, 1) := by decide +kernel
theorem dX5_take_66 : decode cX5_take 66 = .ok (.iastore, 1) := by decide +kernel
theorem dX5_take_67 : decode cX5_take 67 = .ok (.aload_n 0, 1) := by decide +kernel
theorem dX5_take_68 : decode cX5_take 68 = .ok (.getfield 31, 3) := by decide +kernel
theorem dX5_take_71 : decode cX5_take 71 = .ok (.iload_n 1, 1) := by decide +kernel
theorem dX5_take_72 : decode cX5_take 72 = .ok (.iconst (-1), 1) := by decide +kernel
theorem dX5_take_73 : decode cX5_take 73 = .ok (.iastore, 1) := by decide +kernel
theorem dX5_take_74 : decode cX5_take 74 = .ok (.aload_n 0, 1) := by decide +kernel
theorem dX5_take_75 : decode cX5_take 75 = .ok (.iconst 1, 1) := by decide +kernel
theorem dX5_take_76 : decode cX5_take 76 = .ok (.invokevirtual 113, 3) := by decide +kernel
theorem dX5_take_79 : decode cX5_take 79 = .ok (.ireturn, 1) := by decide +kernel
theorem dX5_phase_0 : decode cX5_phase 0 = .ok (.aload_n 0, 1) := by decide +kernel
theorem dX5_phase_1 : decode cX5_phase 1 = .ok (.iload_n 1, 1) := by decide +kernel
theorem dX5_phase_2 : decode cX5_phase 2 = .ok (.iconst 4, 1) := by decide +kernel
theorem dX5_phase_3 : decode cX5_phase 3 = .ok (.if_icmp .ne 7, 3) := by decide +kernel
theorem dX5_phase_6 : decode cX5_phase 6 = .ok (.iconst 0, 1) := by decide +kernel
theorem dX5_phase_7 : decode cX5_phase 7 = .ok (.goto 4, 3) := by decide +kernel
theorem dX5_phase_10 : decode cX5_phase 10 = .ok (.iload_n 1, 1) := by decide +kernel
theorem dX5_phase_11 : decode cX5_phase 11 = .ok (.putfield 107, 3) := by decide +kernel
theorem dX5_phase_14 : decode cX5_phase 14 = .ok (.aload_n 0, 1) := by decide +kernel
theorem dX5_phase_15 : decode cX5_phase 15 = .ok (.getfield 46, 3) := by decide +kernel
theorem dX5_phase_18 : decode cX5_phase 18 = .ok (.iload_n 1, 1) := by decide +kernel
theorem dX5_phase_19 : decode cX5_phase 19 = .ok (.dup2, 1) := by decide +kernel
theorem dX5_phase_20 : decode cX5_phase 20 = .ok (.iaload, 1) := by decide +kernel
theorem dX5_phase_21 : decode cX5_phase 21 = .ok (.iconst 1, 1) := by decide +kernel
theorem dX5_phase_22 : decode cX5_phase 22 = .ok (.iadd, 1) := by decide +kernel
theorem dX5_phase_23 : decode cX5_phase 23 = .ok (.iastore, 1) := by decide +kernel
theorem dX5_phase_24 : decode cX5_phase 24 = .ok (.iload_n 1, 1) := by decide +kernel
theorem dX5_phase_25 : decode cX5_phase 25 = .ok (.ireturn, 1) := by decide +kernel
theorem dX5_supply_0 : decode cX5_supply 0 = .ok (.aload_n 0, 1) := by decide +kernel
theorem dX5_supply_1 : decode cX5_supply 1 = .ok (.aload_n 0, 1) := by decide +kernel
theorem dX5_supply_2 : decode cX5_supply 2 = .ok (.getfield 69, 3) := by decide +kernel
theorem dX5_supply_5 : decode cX5_supply 5 = .ok (.aload_n 0, 1) := by decide +kernel
theorem dX5_supply_6 : decode cX5_supply 6 = .ok (.getfield 72, 3) := by decide +kernel
theorem dX5_supply_9 : decode cX5_supply 9 = .ok (.invokevirtual 86, 3) := by decide +kernel
theorem dX5_supply_12 : decode cX5_supply 12 = .ok (.istore_n 1, 1) := by decide +kernel
theorem dX5_supply_13 : decode cX5_supply 13 = .ok (.aload_n 0, 1) := by decide +kernel
theorem dX5_supply_14 : decode cX5_supply 14 = .ok (.getfield 110, 3) := by decide +kernel
theorem dX5_supply_17 : decode cX5_supply 17 = .ok (.iconst 1, 1) := by decide +kernel
theorem dX5_supply_18 : decode cX5_supply 18 = .ok (.if_icmp .eq 18, 3) := by decide +kernel
theorem dX5_supply_21 : decode cX5_supply 21 = .ok (.aload_n 0, 1) := by decide +kernel
theorem dX5_supply_22 : decode cX5_supply 22 = .ok (.aload_n 0, 1) := by decide +kernel
theorem dX5_supply_23 : decode cX5_supply 23 = .ok (.getfield 69, 3) := by decide +kernel
theorem dX5_supply_26 : decode cX5_supply 26 = .ok (.aload_n 0, 1) := by decide +kernel
theorem dX5_supply_27 : decode cX5_supply 27 = .ok (.getfield 72, 3) := by decide +kernel
theorem dX5_supply_30 : decode cX5_supply 30 = .ok (.invokevirtual 94, 3) := by decide +kernel
theorem dX5_supply_33 : decode cX5_supply 33 = .ok (.ifCond .ne 35, 3) := by decide +kernel
theorem dX5_supply_36 : decode cX5_supply 36 = .ok (.iconst 0, 1) := by decide +kernel
theorem dX5_supply_37 : decode cX5_supply 37 = .ok (.istore_n 2, 1) := by decide +kernel
theorem dX5_supply_38 : decode cX5_supply 38 = .ok (.iload_n 2, 1) := by decide +kernel
theorem dX5_supply_39 : decode cX5_supply 39 = .ok (.aload_n 0, 1) := by decide +kernel
theorem dX5_supply_40 : decode cX5_supply 40 = .ok (.getfield 60, 3) := by decide +kernel
theorem dX5_supply_43 : decode cX5_supply 43 = .ok (.if_icmp .ge 25, 3) := by decide +kernel
theorem dX5_supply_46 : decode cX5_supply 46 = .ok (.aload_n 0, 1) := by decide +kernel
theorem dX5_supply_47 : decode cX5_supply 47 = .ok (.getfield 40, 3) := by decide +kernel
theorem dX5_supply_50 : decode cX5_supply 50 = .ok (.iconst 4, 1) := by decide +kernel
theorem dX5_supply_51 : decode cX5_supply 51 = .ok (.iload_n 1, 1) := by decide +kernel
theorem dX5_supply_52 : decode cX5_supply 52 = .ok (.imul, 1) := by decide +kernel
theorem dX5_supply_53 : decode cX5_supply 53 = .ok (.iload_n 2, 1) := by decide +kernel
theorem dX5_supply_54 : decode cX5_supply 54 = .ok (.iadd, 1) := by decide +kernel
theorem dX5_supply_55 : decode cX5_supply 55 = .ok (.aload_n 0, 1) := by decide +kernel
theorem dX5_supply_56 : decode cX5_supply 56 = .ok (.getfield 43, 3) := by decide +kernel
theorem dX5_supply_59 : decode cX5_supply 59 = .ok (.iload_n 2, 1) := by decide +kernel
theorem dX5_supply_60 : decode cX5_supply 60 = .ok (.iaload, 1) := by decide +kernel
theorem dX5_supply_61 : decode cX5_supply 61 = .ok (.iastore, 1) := by decide +kernel
theorem dX5_supply_62 : decode cX5_supply 62 = .ok (.iinc 2 1, 3) := by decide +kernel
theorem dX5_supply_65 : decode cX5_supply 65 = .ok (.goto (-27), 3) := by decide +kernel
theorem dX5_supply_68 : decode cX5_supply 68 = .ok (.aload_n 0, 1) := by decide +kernel
theorem dX5_supply_69 : decode cX5_supply 69 = .ok (.getfield 37, 3) := by decide +kernel
theorem dX5_supply_72 : decode cX5_supply 72 = .ok (.iload_n 1, 1) := by decide +kernel
theorem dX5_supply_73 : decode cX5_supply 73 = .ok (.aload_n 0, 1) := by decide +kernel
theorem dX5_supply_74 : decode cX5_supply 74 = .ok (.getfield 72, 3) := by decide +kernel
theorem dX5_supply_77 : decode cX5_supply 77 = .ok (.iastore, 1) := by decide +kernel
theorem dX5_supply_78 : decode cX5_supply 78 = .ok (.aload_n 0, 1) := by decide +kernel
theorem dX5_supply_79 : decode cX5_supply 79 = .ok (.getfield 34, 3) := by decide +kernel
theorem dX5_supply_82 : decode cX5_supply 82 = .ok (.iload_n 1, 1) := by decide +kernel
theorem dX5_supply_83 : decode cX5_supply 83 = .ok (.aload_n 0, 1) := by decide +kernel
theorem dX5_supply_84 : decode cX5_supply 84 = .ok (.getfield 110, 3) := by decide +kernel
theorem dX5_supply_87 : decode cX5_supply 87 = .ok (.iconst 2, 1) := by decide +kernel
theorem dX5_supply_88 : decode cX5_supply 88 = .ok (.if_icmp .ne 7, 3) := by decide +kernel
theorem dX5_supply_91 : decode cX5_supply 91 = .ok (.iconst 4, 1) := by decide +kernel
theorem dX5_supply_92 : decode cX5_supply 92 = .ok (.goto 15, 3) := by decide +kernel
theorem dX5_supply_95 : decode cX5_supply 95 = .ok (.aload_n 0, 1) := by decide +kernel
theorem dX5_supply_96 : decode cX5_supply 96 = .ok (.getfield 115, 3) := by decide +kernel
theorem dX5_supply_99 : decode cX5_supply 99 = .ok (.ifCond .eq 7, 3) := by decide +kernel
theorem dX5_supply_102 : decode cX5_supply 102 = .ok (.iconst 1, 1) := by decide +kernel
theorem dX5_supply_103 : decode cX5_supply 103 = .ok (.goto 4, 3) := by decide +kernel
theorem dX5_supply_106 : decode cX5_supply 106 = .ok (.iconst 2, 1) := by decide +kernel
theorem dX5_supply_107 : decode cX5_supply 107 = .ok (.iastore, 1) := by decide +kernel
theorem dX5_supply_108 : decode cX5_supply 108 = .ok (.aload_n 0, 1) := by decide +kernel
theorem dX5_supply_109 : decode cX5_supply 109 = .ok (.getfield 22, 3) := by decide +kernel
theorem dX5_supply_112 : decode cX5_supply 112 = .ok (.aload_n 0, 1) := by decide +kernel
theorem dX5_supply_113 : decode cX5_supply 113 = .ok (.getfield 69, 3) := by decide +kernel
theorem dX5_supply_116 : decode cX5_supply 116 = .ok (.iconst 0, 1) := by decide +kernel
theorem dX5_supply_117 : decode cX5_supply 117 = .ok (.iastore, 1) := by decide +kernel
theorem dX5_supply_118 : decode cX5_supply 118 = .ok (.aload_n 0, 1) := by decide +kernel
theorem dX5_supply_119 : decode cX5_supply 119 = .ok (.iconst (-1), 1) := by decide +kernel
theorem dX5_supply_120 : decode cX5_supply 120 = .ok (.putfield 69, 3) := by decide +kernel
theorem dX5_supply_123 : decode cX5_supply 123 = .ok (.aload_n 0, 1) := by decide +kernel
theorem dX5_supply_124 : decode cX5_supply 124 = .ok (.iconst 0, 1) := by decide +kernel
theorem dX5_supply_125 : decode cX5_supply 125 = .ok (.putfield 110, 3) := by decide +kernel
theorem dX5_supply_128 : decode cX5_supply 128 = .ok (.aload_n 0, 1) := by decide +kernel
theorem dX5_supply_129 : decode cX5_supply 129 = .ok (.iconst (-1), 1) := by decide +kernel
theorem dX5_supply_130 : decode cX5_supply 130 = .ok (.putfield 72, 3) := by decide +kernel
theorem dX5_supply_133 : decode cX5_supply 133 = .ok (.aload_n 0, 1) := by decide +kernel
theorem dX5_supply_134 : decode cX5_supply 134 = .ok (.iconst 4, 1) := by decide +kernel
theorem dX5_supply_135 : decode cX5_supply 135 = .ok (.invokevirtual 113, 3) := by decide +kernel
theorem dX5_supply_138 : decode cX5_supply 138 = .ok (.ireturn, 1) := by decide +kernel
theorem dX5_isDirty_0 : decode cX5_isDirty 0 = .ok (.iload_n 0, 1) := by decide +kernel
theorem dX5_isDirty_1 : decode cX5_isDirty 1 = .ok (.iconst 3, 1) := by decide +kernel
theorem dX5_isDirty_2 : decode cX5_isDirty 2 = .ok (.if_icmp .eq 8, 3) := by decide +kernel
theorem dX5_isDirty_5 : decode cX5_isDirty 5 = .ok (.iload_n 0, 1) := by decide +kernel
theorem dX5_isDirty_6 : decode cX5_isDirty 6 = .ok (.iconst 4, 1) := by decide +kernel
theorem dX5_isDirty_7 : decode cX5_isDirty 7 = .ok (.if_icmp .ne 7, 3) := by decide +kernel
theorem dX5_isDirty_10 : decode cX5_isDirty 10 = .ok (.iconst 1, 1) := by decide +kernel
theorem dX5_isDirty_11 : decode cX5_isDirty 11 = .ok (.goto 4, 3) := by decide +kernel
theorem dX5_isDirty_14 : decode cX5_isDirty 14 = .ok (.iconst 0, 1) := by decide +kernel
theorem dX5_isDirty_15 : decode cX5_isDirty 15 = .ok (.ireturn, 1) := by decide +kernel
theorem dX5_writeBack_0 : decode cX5_writeBack 0 = .ok (.iconst 0, 1) := by decide +kernel
theorem dX5_writeBack_1 : decode cX5_writeBack 1 = .ok (.istore_n 2, 1) := by decide +kernel
theorem dX5_writeBack_2 : decode cX5_writeBack 2 = .ok (.iload_n 2, 1) := by decide +kernel
theorem dX5_writeBack_3 : decode cX5_writeBack 3 = .ok (.aload_n 0, 1) := by decide +kernel
theorem dX5_writeBack_4 : decode cX5_writeBack 4 = .ok (.getfield 60, 3) := by decide +kernel
theorem dX5_writeBack_7 : decode cX5_writeBack 7 = .ok (.if_icmp .ge 37, 3) := by decide +kernel
theorem dX5_writeBack_10 : decode cX5_writeBack 10 = .ok (.aload_n 0, 1) := by decide +kernel
theorem dX5_writeBack_11 : decode cX5_writeBack 11 = .ok (.getfield 7, 3) := by decide +kernel
theorem dX5_writeBack_14 : decode cX5_writeBack 14 = .ok (.aload_n 0, 1) := by decide +kernel
theorem dX5_writeBack_15 : decode cX5_writeBack 15 = .ok (.getfield 60, 3) := by decide +kernel
theorem dX5_writeBack_18 : decode cX5_writeBack 18 = .ok (.aload_n 0, 1) := by decide +kernel
theorem dX5_writeBack_19 : decode cX5_writeBack 19 = .ok (.getfield 37, 3) := by decide +kernel
theorem dX5_writeBack_22 : decode cX5_writeBack 22 = .ok (.iload_n 1, 1) := by decide +kernel
theorem dX5_writeBack_23 : decode cX5_writeBack 23 = .ok (.iaload, 1) := by decide +kernel
theorem dX5_writeBack_24 : decode cX5_writeBack 24 = .ok (.imul, 1) := by decide +kernel
theorem dX5_writeBack_25 : decode cX5_writeBack 25 = .ok (.iload_n 2, 1) := by decide +kernel
theorem dX5_writeBack_26 : decode cX5_writeBack 26 = .ok (.iadd, 1) := by decide +kernel
theorem dX5_writeBack_27 : decode cX5_writeBack 27 = .ok (.aload_n 0, 1) := by decide +kernel
theorem dX5_writeBack_28 : decode cX5_writeBack 28 = .ok (.getfield 40, 3) := by decide +kernel
theorem dX5_writeBack_31 : decode cX5_writeBack 31 = .ok (.iconst 4, 1) := by decide +kernel
theorem dX5_writeBack_32 : decode cX5_writeBack 32 = .ok (.iload_n 1, 1) := by decide +kernel
theorem dX5_writeBack_33 : decode cX5_writeBack 33 = .ok (.imul, 1) := by decide +kernel
theorem dX5_writeBack_34 : decode cX5_writeBack 34 = .ok (.iload_n 2, 1) := by decide +kernel
theorem dX5_writeBack_35 : decode cX5_writeBack 35 = .ok (.iadd, 1) := by decide +kernel
theorem dX5_writeBack_36 : decode cX5_writeBack 36 = .ok (.iaload, 1) := by decide +kernel
theorem dX5_writeBack_37 : decode cX5_writeBack 37 = .ok (.iastore, 1) := by decide +kernel
theorem dX5_writeBack_38 : decode cX5_writeBack 38 = .ok (.iinc 2 1, 3) := by decide +kernel
theorem dX5_writeBack_41 : decode cX5_writeBack 41 = .ok (.goto (-39), 3) := by decide +kernel
theorem dX5_writeBack_44 : decode cX5_writeBack 44 = .ok (.return_, 1) := by decide +kernel
theorem dX5_empty_0 : decode cX5_empty 0 = .ok (.aload_n 0, 1) := by decide +kernel
theorem dX5_empty_1 : decode cX5_empty 1 = .ok (.getfield 34, 3) := by decide +kernel
theorem dX5_empty_4 : decode cX5_empty 4 = .ok (.iload_n 1, 1) := by decide +kernel
theorem dX5_empty_5 : decode cX5_empty 5 = .ok (.iconst 0, 1) := by decide +kernel
theorem dX5_empty_6 : decode cX5_empty 6 = .ok (.iastore, 1) := by decide +kernel
theorem dX5_empty_7 : decode cX5_empty 7 = .ok (.aload_n 0, 1) := by decide +kernel
theorem dX5_empty_8 : decode cX5_empty 8 = .ok (.getfield 37, 3) := by decide +kernel
theorem dX5_empty_11 : decode cX5_empty 11 = .ok (.iload_n 1, 1) := by decide +kernel
theorem dX5_empty_12 : decode cX5_empty 12 = .ok (.iconst (-1), 1) := by decide +kernel
theorem dX5_empty_13 : decode cX5_empty 13 = .ok (.iastore, 1) := by decide +kernel
theorem dX5_empty_14 : decode cX5_empty 14 = .ok (.iconst 0, 1) := by decide +kernel
theorem dX5_empty_15 : decode cX5_empty 15 = .ok (.istore_n 2, 1) := by decide +kernel
theorem dX5_empty_16 : decode cX5_empty 16 = .ok (.iload_n 2, 1) := by decide +kernel
theorem dX5_empty_17 : decode cX5_empty 17 = .ok (.iconst 4, 1) := by decide +kernel
theorem dX5_empty_18 : decode cX5_empty 18 = .ok (.if_icmp .ge 20, 3) := by decide +kernel
theorem dX5_empty_21 : decode cX5_empty 21 = .ok (.aload_n 0, 1) := by decide +kernel
theorem dX5_empty_22 : decode cX5_empty 22 = .ok (.getfield 40, 3) := by decide +kernel
theorem dX5_empty_25 : decode cX5_empty 25 = .ok (.iconst 4, 1) := by decide +kernel
theorem dX5_empty_26 : decode cX5_empty 26 = .ok (.iload_n 1, 1) := by decide +kernel
theorem dX5_empty_27 : decode cX5_empty 27 = .ok (.imul, 1) := by decide +kernel
theorem dX5_empty_28 : decode cX5_empty 28 = .ok (.iload_n 2, 1) := by decide +kernel
theorem dX5_empty_29 : decode cX5_empty 29 = .ok (.iadd, 1) := by decide +kernel
theorem dX5_empty_30 : decode cX5_empty 30 = .ok (.iconst 0, 1) := by decide +kernel
theorem dX5_empty_31 : decode cX5_empty 31 = .ok (.iastore, 1) := by decide +kernel
theorem dX5_empty_32 : decode cX5_empty 32 = .ok (.iinc 2 1, 3) := by decide +kernel
theorem dX5_empty_35 : decode cX5_empty 35 = .ok (.goto (-19), 3) := by decide +kernel
theorem dX5_empty_38 : decode cX5_empty 38 = .ok (.return_, 1) := by decide +kernel
theorem dX5_snoop_0 : decode cX5_snoop 0 = .ok (.aload_n 0, 1) := by decide +kernel
theorem dX5_snoop_1 : decode cX5_snoop 1 = .ok (.iconst 0, 1) := by decide +kernel
theorem dX5_snoop_2 : decode cX5_snoop 2 = .ok (.putfield 115, 3) := by decide +kernel
theorem dX5_snoop_5 : decode cX5_snoop 5 = .ok (.iconst 0, 1) := by decide +kernel
theorem dX5_snoop_6 : decode cX5_snoop 6 = .ok (.istore_n 1, 1) := by decide +kernel
theorem dX5_snoop_7 : decode cX5_snoop 7 = .ok (.iload_n 1, 1) := by decide +kernel
theorem dX5_snoop_8 : decode cX5_snoop 8 = .ok (.aload_n 0, 1) := by decide +kernel
theorem dX5_snoop_9 : decode cX5_snoop 9 = .ok (.getfield 60, 3) := by decide +kernel
theorem dX5_snoop_12 : decode cX5_snoop 12 = .ok (.if_icmp .ge 31, 3) := by decide +kernel
theorem dX5_snoop_15 : decode cX5_snoop 15 = .ok (.aload_n 0, 1) := by decide +kernel
theorem dX5_snoop_16 : decode cX5_snoop 16 = .ok (.getfield 43, 3) := by decide +kernel
theorem dX5_snoop_19 : decode cX5_snoop 19 = .ok (.iload_n 1, 1) := by decide +kernel
theorem dX5_snoop_20 : decode cX5_snoop 20 = .ok (.aload_n 0, 1) := by decide +kernel
theorem dX5_snoop_21 : decode cX5_snoop 21 = .ok (.getfield 7, 3) := by decide +kernel
theorem dX5_snoop_24 : decode cX5_snoop 24 = .ok (.aload_n 0, 1) := by decide +kernel
theorem dX5_snoop_25 : decode cX5_snoop 25 = .ok (.getfield 60, 3) := by decide +kernel
theorem dX5_snoop_28 : decode cX5_snoop 28 = .ok (.aload_n 0, 1) := by decide +kernel
theorem dX5_snoop_29 : decode cX5_snoop 29 = .ok (.getfield 72, 3) := by decide +kernel
theorem dX5_snoop_32 : decode cX5_snoop 32 = .ok (.imul, 1) := by decide +kernel
theorem dX5_snoop_33 : decode cX5_snoop 33 = .ok (.iload_n 1, 1) := by decide +kernel
theorem dX5_snoop_34 : decode cX5_snoop 34 = .ok (.iadd, 1) := by decide +kernel
theorem dX5_snoop_35 : decode cX5_snoop 35 = .ok (.iaload, 1) := by decide +kernel
theorem dX5_snoop_36 : decode cX5_snoop 36 = .ok (.iastore, 1) := by decide +kernel
theorem dX5_snoop_37 : decode cX5_snoop 37 = .ok (.iinc 1 1, 3) := by decide +kernel
theorem dX5_snoop_40 : decode cX5_snoop 40 = .ok (.goto (-33), 3) := by decide +kernel
theorem dX5_snoop_43 : decode cX5_snoop 43 = .ok (.iconst 0, 1) := by decide +kernel
theorem dX5_snoop_44 : decode cX5_snoop 44 = .ok (.istore_n 1, 1) := by decide +kernel
theorem dX5_snoop_45 : decode cX5_snoop 45 = .ok (.iload_n 1, 1) := by decide +kernel
theorem dX5_snoop_46 : decode cX5_snoop 46 = .ok (.aload_n 0, 1) := by decide +kernel
theorem dX5_snoop_47 : decode cX5_snoop 47 = .ok (.getfield 53, 3) := by decide +kernel
theorem dX5_snoop_50 : decode cX5_snoop 50 = .ok (.if_icmp .ge 150, 3) := by decide +kernel
theorem dX5_snoop_53 : decode cX5_snoop 53 = .ok (.aload_n 0, 1) := by decide +kernel
theorem dX5_snoop_54 : decode cX5_snoop 54 = .ok (.iload_n 1, 1) := by decide +kernel
theorem dX5_snoop_55 : decode cX5_snoop 55 = .ok (.aload_n 0, 1) := by decide +kernel
theorem dX5_snoop_56 : decode cX5_snoop 56 = .ok (.getfield 72, 3) := by decide +kernel
theorem dX5_snoop_59 : decode cX5_snoop 59 = .ok (.invokevirtual 86, 3) := by decide +kernel
theorem dX5_snoop_62 : decode cX5_snoop 62 = .ok (.istore_n 2, 1) := by decide +kernel
theorem dX5_snoop_63 : decode cX5_snoop 63 = .ok (.aload_n 0, 1) := by decide +kernel
theorem dX5_snoop_64 : decode cX5_snoop 64 = .ok (.iload_n 1, 1) := by decide +kernel
theorem dX5_snoop_65 : decode cX5_snoop 65 = .ok (.aload_n 0, 1) := by decide +kernel
theorem dX5_snoop_66 : decode cX5_snoop 66 = .ok (.getfield 72, 3) := by decide +kernel
theorem dX5_snoop_69 : decode cX5_snoop 69 = .ok (.invokevirtual 94, 3) := by decide +kernel
theorem dX5_snoop_72 : decode cX5_snoop 72 = .ok (.istore_n 3, 1) := by decide +kernel
theorem dX5_snoop_73 : decode cX5_snoop 73 = .ok (.iload_n 1, 1) := by decide +kernel
theorem dX5_snoop_74 : decode cX5_snoop 74 = .ok (.aload_n 0, 1) := by decide +kernel
theorem dX5_snoop_75 : decode cX5_snoop 75 = .ok (.getfield 69, 3) := by decide +kernel
theorem dX5_snoop_78 : decode cX5_snoop 78 = .ok (.if_icmp .eq 116, 3) := by decide +kernel
theorem dX5_snoop_81 : decode cX5_snoop 81 = .ok (.iload_n 3, 1) := by decide +kernel
theorem dX5_snoop_82 : decode cX5_snoop 82 = .ok (.ifCond .eq 112, 3) := by decide +kernel
theorem dX5_snoop_85 : decode cX5_snoop 85 = .ok (.aload_n 0, 1) := by decide +kernel
theorem dX5_snoop_86 : decode cX5_snoop 86 = .ok (.iconst 1, 1) := by decide +kernel
theorem dX5_snoop_87 : decode cX5_snoop 87 = .ok (.putfield 115, 3) := by decide +kernel
theorem dX5_snoop_90 : decode cX5_snoop 90 = .ok (.iconst 0, 1) := by decide +kernel
theorem dX5_snoop_91 : decode cX5_snoop 91 = .ok (.istore 4, 2) := by decide +kernel
theorem dX5_snoop_93 : decode cX5_snoop 93 = .ok (.iload 4, 2) := by decide +kernel
theorem dX5_snoop_95 : decode cX5_snoop 95 = .ok (.aload_n 0, 1) := by decide +kernel
theorem dX5_snoop_96 : decode cX5_snoop 96 = .ok (.getfield 60, 3) := by decide +kernel
theorem dX5_snoop_99 : decode cX5_snoop 99 = .ok (.if_icmp .ge 34, 3) := by decide +kernel
theorem dX5_snoop_102 : decode cX5_snoop 102 = .ok (.iload_n 3, 1) := by decide +kernel
theorem dX5_snoop_103 : decode cX5_snoop 103 = .ok (.invokestatic 118, 3) := by decide +kernel
theorem dX5_snoop_106 : decode cX5_snoop 106 = .ok (.ifCond .eq 27, 3) := by decide +kernel
theorem dX5_snoop_109 : decode cX5_snoop 109 = .ok (.aload_n 0, 1) := by decide +kernel
theorem dX5_snoop_110 : decode cX5_snoop 110 = .ok (.getfield 43, 3) := by decide +kernel
theorem dX5_snoop_113 : decode cX5_snoop 113 = .ok (.iload 4, 2) := by decide +kernel
theorem dX5_snoop_115 : decode cX5_snoop 115 = .ok (.aload_n 0, 1) := by decide +kernel
theorem dX5_snoop_116 : decode cX5_snoop 116 = .ok (.getfield 40, 3) := by decide +kernel
theorem dX5_snoop_119 : decode cX5_snoop 119 = .ok (.iconst 4, 1) := by decide +kernel
theorem dX5_snoop_120 : decode cX5_snoop 120 = .ok (.iload_n 2, 1) := by decide +kernel
theorem dX5_snoop_121 : decode cX5_snoop 121 = .ok (.imul, 1) := by decide +kernel
theorem dX5_snoop_122 : decode cX5_snoop 122 = .ok (.iload 4, 2) := by decide +kernel
theorem dX5_snoop_124 : decode cX5_snoop 124 = .ok (.iadd, 1) := by decide +kernel
theorem dX5_snoop_125 : decode cX5_snoop 125 = .ok (.iaload, 1) := by decide +kernel
theorem dX5_snoop_126 : decode cX5_snoop 126 = .ok (.iastore, 1) := by decide +kernel
theorem dX5_snoop_127 : decode cX5_snoop 127 = .ok (.iinc 4 1, 3) := by decide +kernel
theorem dX5_snoop_130 : decode cX5_snoop 130 = .ok (.goto (-37), 3) := by decide +kernel
theorem dX5_snoop_133 : decode cX5_snoop 133 = .ok (.aload_n 0, 1) := by decide +kernel
theorem dX5_snoop_134 : decode cX5_snoop 134 = .ok (.getfield 110, 3) := by decide +kernel
theorem dX5_snoop_137 : decode cX5_snoop 137 = .ok (.iconst 2, 1) := by decide +kernel
theorem dX5_snoop_138 : decode cX5_snoop 138 = .ok (.if_icmp .ne 15, 3) := by decide +kernel
theorem dX5_snoop_141 : decode cX5_snoop 141 = .ok (.iload_n 3, 1) := by decide +kernel
theorem dX5_snoop_142 : decode cX5_snoop 142 = .ok (.invokestatic 118, 3) := by decide +kernel
theorem dX5_snoop_145 : decode cX5_snoop 145 = .ok (.ifCond .eq 8, 3) := by decide +kernel
theorem dX5_snoop_148 : decode cX5_snoop 148 = .ok (.aload_n 0, 1) := by decide +kernel
theorem dX5_snoop_149 : decode cX5_snoop 149 = .ok (.iload_n 2, 1) := by decide +kernel
theorem dX5_snoop_150 : decode cX5_snoop 150 = .ok (.invokevirtual 121, 3) := by decide +kernel
theorem dX5_snoop_153 : decode cX5_snoop 153 = .ok (.aload_n 0, 1) := by decide +kernel
theorem dX5_snoop_154 : decode cX5_snoop 154 = .ok (.getfield 110, 3) := by decide +kernel
theorem dX5_snoop_157 : decode cX5_snoop 157 = .ok (.iconst 2, 1) := by decide +kernel
theorem dX5_snoop_158 : decode cX5_snoop 158 = .ok (.if_icmp .ne 11, 3) := by decide +kernel
theorem dX5_snoop_161 : decode cX5_snoop 161 = .ok (.aload_n 0, 1) := by decide +kernel
theorem dX5_snoop_162 : decode cX5_snoop 162 = .ok (.iload_n 2, 1) := by decide +kernel
theorem dX5_snoop_163 : decode cX5_snoop 163 = .ok (.invokevirtual 125, 3) := by decide +kernel
theorem dX5_snoop_166 : decode cX5_snoop 166 = .ok (.goto 28, 3) := by decide +kernel
theorem dX5_snoop_169 : decode cX5_snoop 169 = .ok (.aload_n 0, 1) := by decide +kernel
theorem dX5_snoop_170 : decode cX5_snoop 170 = .ok (.getfield 34, 3) := by decide +kernel
theorem dX5_snoop_173 : decode cX5_snoop 173 = .ok (.iload_n 2, 1) := by decide +kernel
theorem dX5_snoop_174 : decode cX5_snoop 174 = .ok (.iload_n 3, 1) := by decide +kernel
theorem dX5_snoop_175 : decode cX5_snoop 175 = .ok (.iconst 4, 1) := by decide +kernel
theorem dX5_snoop_176 : decode cX5_snoop 176 = .ok (.if_icmp .ne 7, 3) := by decide +kernel
theorem dX5_snoop_179 : decode cX5_snoop 179 = .ok (.iconst 3, 1) := by decide +kernel
theorem dX5_snoop_180 : decode cX5_snoop 180 = .ok (.goto 13, 3) := by decide +kernel
theorem dX5_snoop_183 : decode cX5_snoop 183 = .ok (.iload_n 3, 1) := by decide +kernel
theorem dX5_snoop_184 : decode cX5_snoop 184 = .ok (.iconst 2, 1) := by decide +kernel
theorem dX5_snoop_185 : decode cX5_snoop 185 = .ok (.if_icmp .ne 7, 3) := by decide +kernel
theorem dX5_snoop_188 : decode cX5_snoop 188 = .ok (.iconst 1, 1) := by decide +kernel
theorem dX5_snoop_189 : decode cX5_snoop 189 = .ok (.goto 4, 3) := by decide +kernel
theorem dX5_snoop_192 : decode cX5_snoop 192 = .ok (.iload_n 3, 1) := by decide +kernel
theorem dX5_snoop_193 : decode cX5_snoop 193 = .ok (.iastore, 1) := by decide +kernel
theorem dX5_snoop_194 : decode cX5_snoop 194 = .ok (.iinc 1 1, 3) := by decide +kernel
theorem dX5_snoop_197 : decode cX5_snoop 197 = .ok (.goto (-152), 3) := by decide +kernel
theorem dX5_snoop_200 : decode cX5_snoop 200 = .ok (.aload_n 0, 1) := by decide +kernel
theorem dX5_snoop_201 : decode cX5_snoop 201 = .ok (.iconst 3, 1) := by decide +kernel
theorem dX5_snoop_202 : decode cX5_snoop 202 = .ok (.invokevirtual 113, 3) := by decide +kernel
theorem dX5_snoop_205 : decode cX5_snoop 205 = .ok (.ireturn, 1) := by decide +kernel
theorem dX5_evict_0 : decode cX5_evict 0 = .ok (.aload_n 0, 1) := by decide +kernel
theorem dX5_evict_1 : decode cX5_evict 1 = .ok (.iload_n 1, 1) := by decide +kernel
theorem dX5_evict_2 : decode cX5_evict 2 = .ok (.invokevirtual 75, 3) := by decide +kernel
theorem dX5_evict_5 : decode cX5_evict 5 = .ok (.ifCond .eq 15, 3) := by decide +kernel
theorem dX5_evict_8 : decode cX5_evict 8 = .ok (.iload_n 2, 1) := by decide +kernel
theorem dX5_evict_9 : decode cX5_evict 9 = .ok (.ifCond .lt 11, 3) := by decide +kernel
theorem dX5_evict_12 : decode cX5_evict 12 = .ok (.iload_n 2, 1) := by decide +kernel
theorem dX5_evict_13 : decode cX5_evict 13 = .ok (.aload_n 0, 1) := by decide +kernel
theorem dX5_evict_14 : decode cX5_evict 14 = .ok (.getfield 57, 3) := by decide +kernel
theorem dX5_evict_17 : decode cX5_evict 17 = .ok (.if_icmp .lt 5, 3) := by decide +kernel
theorem dX5_evict_20 : decode cX5_evict 20 = .ok (.iconst (-1), 1) := by decide +kernel
theorem dX5_evict_21 : decode cX5_evict 21 = .ok (.ireturn, 1) := by decide +kernel
theorem dX5_evict_22 : decode cX5_evict 22 = .ok (.bipush 8, 2) := by decide +kernel
theorem dX5_evict_24 : decode cX5_evict 24 = .ok (.iload_n 1, 1) := by decide +kernel
theorem dX5_evict_25 : decode cX5_evict 25 = .ok (.imul, 1) := by decide +kernel
theorem dX5_evict_26 : decode cX5_evict 26 = .ok (.iload_n 2, 1) := by decide +kernel
theorem dX5_evict_27 : decode cX5_evict 27 = .ok (.iadd, 1) := by decide +kernel
theorem dX5_evict_28 : decode cX5_evict 28 = .ok (.istore_n 3, 1) := by decide +kernel
theorem dX5_evict_29 : decode cX5_evict 29 = .ok (.aload_n 0, 1) := by decide +kernel
theorem dX5_evict_30 : decode cX5_evict 30 = .ok (.getfield 107, 3) := by decide +kernel
theorem dX5_evict_33 : decode cX5_evict 33 = .ok (.ifCond .le 39, 3) := by decide +kernel
theorem dX5_evict_36 : decode cX5_evict 36 = .ok (.aload_n 0, 1) := by decide +kernel
theorem dX5_evict_37 : decode cX5_evict 37 = .ok (.getfield 69, 3) := by decide +kernel
theorem dX5_evict_40 : decode cX5_evict 40 = .ok (.iload_n 1, 1) := by decide +kernel
theorem dX5_evict_41 : decode cX5_evict 41 = .ok (.if_icmp .ne 16, 3) := by decide +kernel
theorem dX5_evict_44 : decode cX5_evict 44 = .ok (.aload_n 0, 1) := by decide +kernel
theorem dX5_evict_45 : decode cX5_evict 45 = .ok (.getfield 72, 3) := by decide +kernel
theorem dX5_evict_48 : decode cX5_evict 48 = .ok (.aload_n 0, 1) := by decide +kernel
theorem dX5_evict_49 : decode cX5_evict 49 = .ok (.getfield 57, 3) := by decide +kernel
theorem dX5_evict_52 : decode cX5_evict 52 = .ok (.irem, 1) := by decide +kernel
theorem dX5_evict_53 : decode cX5_evict 53 = .ok (.iload_n 2, 1) := by decide +kernel
theorem dX5_evict_54 : decode cX5_evict 54 = .ok (.if_icmp .eq 16, 3) := by decide +kernel
theorem dX5_evict_57 : decode cX5_evict 57 = .ok (.aload_n 0, 1) := by decide +kernel
theorem dX5_evict_58 : decode cX5_evict 58 = .ok (.getfield 72, 3) := by decide +kernel
theorem dX5_evict_61 : decode cX5_evict 61 = .ok (.aload_n 0, 1) := by decide +kernel
theorem dX5_evict_62 : decode cX5_evict 62 = .ok (.getfield 37, 3) := by decide +kernel
theorem dX5_evict_65 : decode cX5_evict 65 = .ok (.iload_n 3, 1) := by decide +kernel
theorem dX5_evict_66 : decode cX5_evict 66 = .ok (.iaload, 1) := by decide +kernel
theorem dX5_evict_67 : decode cX5_evict 67 = .ok (.if_icmp .ne 5, 3) := by decide +kernel
theorem dX5_evict_70 : decode cX5_evict 70 = .ok (.iconst 2, 1) := by decide +kernel
theorem dX5_evict_71 : decode cX5_evict 71 = .ok (.ireturn, 1) := by decide +kernel
theorem dX5_evict_72 : decode cX5_evict 72 = .ok (.aload_n 0, 1) := by decide +kernel
theorem dX5_evict_73 : decode cX5_evict 73 = .ok (.getfield 34, 3) := by decide +kernel
theorem dX5_evict_76 : decode cX5_evict 76 = .ok (.iload_n 3, 1) := by decide +kernel
theorem dX5_evict_77 : decode cX5_evict 77 = .ok (.iaload, 1) := by decide +kernel
theorem dX5_evict_78 : decode cX5_evict 78 = .ok (.ifCond .ne 5, 3) := by decide +kernel
theorem dX5_evict_81 : decode cX5_evict 81 = .ok (.iconst 0, 1) := by decide +kernel
theorem dX5_evict_82 : decode cX5_evict 82 = .ok (.ireturn, 1) := by decide +kernel
theorem dX5_evict_83 : decode cX5_evict 83 = .ok (.aload_n 0, 1) := by decide +kernel
theorem dX5_evict_84 : decode cX5_evict 84 = .ok (.getfield 34, 3) := by decide +kernel
theorem dX5_evict_87 : decode cX5_evict 87 = .ok (.iload_n 3, 1) := by decide +kernel
theorem dX5_evict_88 : decode cX5_evict 88 = .ok (.iaload, 1) := by decide +kernel
theorem dX5_evict_89 : decode cX5_evict 89 = .ok (.invokestatic 118, 3) := by decide +kernel
theorem dX5_evict_92 : decode cX5_evict 92 = .ok (.ifCond .eq 8, 3) := by decide +kernel
theorem dX5_evict_95 : decode cX5_evict 95 = .ok (.aload_n 0, 1) := by decide +kernel
theorem dX5_evict_96 : decode cX5_evict 96 = .ok (.iload_n 3, 1) := by decide +kernel
theorem dX5_evict_97 : decode cX5_evict 97 = .ok (.invokevirtual 121, 3) := by decide +kernel
theorem dX5_evict_100 : decode cX5_evict 100 = .ok (.aload_n 0, 1) := by decide +kernel
theorem dX5_evict_101 : decode cX5_evict 101 = .ok (.iload_n 3, 1) := by decide +kernel
theorem dX5_evict_102 : decode cX5_evict 102 = .ok (.invokevirtual 125, 3) := by decide +kernel
theorem dX5_evict_105 : decode cX5_evict 105 = .ok (.iconst 1, 1) := by decide +kernel
theorem dX5_evict_106 : decode cX5_evict 106 = .ok (.ireturn, 1) := by decide +kernel
theorem dX5_register_0 : decode cX5_register 0 = .ok (.aload_n 0, 1) := by decide +kernel
theorem dX5_register_1 : decode cX5_register 1 = .ok (.iload_n 1, 1) := by decide +kernel
theorem dX5_register_2 : decode cX5_register 2 = .ok (.invokevirtual 75, 3) := by decide +kernel
theorem dX5_register_5 : decode cX5_register 5 = .ok (.ifCond .eq 25, 3) := by decide +kernel
theorem dX5_register_8 : decode cX5_register 8 = .ok (.iload_n 2, 1) := by decide +kernel
theorem dX5_register_9 : decode cX5_register 9 = .ok (.ifCond .lt 21, 3) := by decide +kernel
theorem dX5_register_12 : decode cX5_register 12 = .ok (.iload_n 2, 1) := by decide +kernel
theorem dX5_register_13 : decode cX5_register 13 = .ok (.iconst 4, 1) := by decide +kernel
theorem dX5_register_14 : decode cX5_register 14 = .ok (.if_icmp .ge 16, 3) := by decide +kernel
theorem dX5_register_17 : decode cX5_register 17 = .ok (.aload_n 0, 1) := by decide +kernel
theorem dX5_register_18 : decode cX5_register 18 = .ok (.getfield 16, 3) := by decide +kernel
theorem dX5_register_21 : decode cX5_register 21 = .ok (.iconst 4, 1) := by decide +kernel
theorem dX5_register_22 : decode cX5_register 22 = .ok (.iload_n 1, 1) := by decide +kernel
theorem dX5_register_23 : decode cX5_register 23 = .ok (.imul, 1) := by decide +kernel
theorem dX5_register_24 : decode cX5_register 24 = .ok (.iload_n 2, 1) := by decide +kernel
theorem dX5_register_25 : decode cX5_register 25 = .ok (.iadd, 1) := by decide +kernel
theorem dX5_register_26 : decode cX5_register 26 = .ok (.iaload, 1) := by decide +kernel
theorem dX5_register_27 : decode cX5_register 27 = .ok (.goto 4, 3) := by decide +kernel
theorem dX5_register_30 : decode cX5_register 30 = .ok (.iconst 0, 1) := by decide +kernel
theorem dX5_register_31 : decode cX5_register 31 = .ok (.ireturn, 1) := by decide +kernel
theorem dX5_cpu_0 : decode cX5_cpu 0 = .ok (.aload_n 0, 1) := by decide +kernel
theorem dX5_cpu_1 : decode cX5_cpu 1 = .ok (.iload_n 1, 1) := by decide +kernel
theorem dX5_cpu_2 : decode cX5_cpu 2 = .ok (.invokevirtual 75, 3) := by decide +kernel
theorem dX5_cpu_5 : decode cX5_cpu 5 = .ok (.ifCond .ne 5, 3) := by decide +kernel
theorem dX5_cpu_8 : decode cX5_cpu 8 = .ok (.iconst (-1), 1) := by decide +kernel
theorem dX5_cpu_9 : decode cX5_cpu 9 = .ok (.ireturn, 1) := by decide +kernel
theorem dX5_cpu_10 : decode cX5_cpu 10 = .ok (.iload_n 2, 1) := by decide +kernel
theorem dX5_cpu_11 : decode cX5_cpu 11 = .ok (.ifCond .ne 12, 3) := by decide +kernel
theorem dX5_cpu_14 : decode cX5_cpu 14 = .ok (.aload_n 0, 1) := by decide +kernel
theorem dX5_cpu_15 : decode cX5_cpu 15 = .ok (.getfield 19, 3) := by decide +kernel
theorem dX5_cpu_18 : decode cX5_cpu 18 = .ok (.iload_n 1, 1) := by decide +kernel
theorem dX5_cpu_19 : decode cX5_cpu 19 = .ok (.iaload, 1) := by decide +kernel
theorem dX5_cpu_20 : decode cX5_cpu 20 = .ok (.goto 60, 3) := by decide +kernel
theorem dX5_cpu_23 : decode cX5_cpu 23 = .ok (.iload_n 2, 1) := by decide +kernel
theorem dX5_cpu_24 : decode cX5_cpu 24 = .ok (.iconst 1, 1) := by decide +kernel
theorem dX5_cpu_25 : decode cX5_cpu 25 = .ok (.if_icmp .ne 12, 3) := by decide +kernel
theorem dX5_cpu_28 : decode cX5_cpu 28 = .ok (.aload_n 0, 1) := by decide +kernel
theorem dX5_cpu_29 : decode cX5_cpu 29 = .ok (.getfield 22, 3) := by decide +kernel
theorem dX5_cpu_32 : decode cX5_cpu 32 = .ok (.iload_n 1, 1) := by decide +kernel
theorem dX5_cpu_33 : decode cX5_cpu 33 = .ok (.iaload, 1) := by decide +kernel
theorem dX5_cpu_34 : decode cX5_cpu 34 = .ok (.goto 46, 3) := by decide +kernel
theorem dX5_cpu_37 : decode cX5_cpu 37 = .ok (.iload_n 2, 1) := by decide +kernel
theorem dX5_cpu_38 : decode cX5_cpu 38 = .ok (.iconst 2, 1) := by decide +kernel
theorem dX5_cpu_39 : decode cX5_cpu 39 = .ok (.if_icmp .ne 12, 3) := by decide +kernel
theorem dX5_cpu_42 : decode cX5_cpu 42 = .ok (.aload_n 0, 1) := by decide +kernel
theorem dX5_cpu_43 : decode cX5_cpu 43 = .ok (.getfield 25, 3) := by decide +kernel
theorem dX5_cpu_46 : decode cX5_cpu 46 = .ok (.iload_n 1, 1) := by decide +kernel
theorem dX5_cpu_47 : decode cX5_cpu 47 = .ok (.iaload, 1) := by decide +kernel
theorem dX5_cpu_48 : decode cX5_cpu 48 = .ok (.goto 32, 3) := by decide +kernel
theorem dX5_cpu_51 : decode cX5_cpu 51 = .ok (.iload_n 2, 1) := by decide +kernel
theorem dX5_cpu_52 : decode cX5_cpu 52 = .ok (.iconst 3, 1) := by decide +kernel
theorem dX5_cpu_53 : decode cX5_cpu 53 = .ok (.if_icmp .ne 12, 3) := by decide +kernel
theorem dX5_cpu_56 : decode cX5_cpu 56 = .ok (.aload_n 0, 1) := by decide +kernel
theorem dX5_cpu_57 : decode cX5_cpu 57 = .ok (.getfield 28, 3) := by decide +kernel
theorem dX5_cpu_60 : decode cX5_cpu 60 = .ok (.iload_n 1, 1) := by decide +kernel
theorem dX5_cpu_61 : decode cX5_cpu 61 = .ok (.iaload, 1) := by decide +kernel
theorem dX5_cpu_62 : decode cX5_cpu 62 = .ok (.goto 18, 3) := by decide +kernel
theorem dX5_cpu_65 : decode cX5_cpu 65 = .ok (.iload_n 2, 1) := by decide +kernel
theorem dX5_cpu_66 : decode cX5_cpu 66 = .ok (.iconst 4, 1) := by decide +kernel
theorem dX5_cpu_67 : decode cX5_cpu 67 = .ok (.if_icmp .ne 12, 3) := by decide +kernel
theorem dX5_cpu_70 : decode cX5_cpu 70 = .ok (.aload_n 0, 1) := by decide +kernel
theorem dX5_cpu_71 : decode cX5_cpu 71 = .ok (.getfield 31, 3) := by decide +kernel
theorem dX5_cpu_74 : decode cX5_cpu 74 = .ok (.iload_n 1, 1) := by decide +kernel
theorem dX5_cpu_75 : decode cX5_cpu 75 = .ok (.iaload, 1) := by decide +kernel
theorem dX5_cpu_76 : decode cX5_cpu 76 = .ok (.goto 4, 3) := by decide +kernel
theorem dX5_cpu_79 : decode cX5_cpu 79 = .ok (.iconst (-1), 1) := by decide +kernel
theorem dX5_cpu_80 : decode cX5_cpu 80 = .ok (.ireturn, 1) := by decide +kernel
theorem dX5_slot_0 : decode cX5_slot 0 = .ok (.aload_n 0, 1) := by decide +kernel
theorem dX5_slot_1 : decode cX5_slot 1 = .ok (.iload_n 1, 1) := by decide +kernel
theorem dX5_slot_2 : decode cX5_slot 2 = .ok (.invokevirtual 75, 3) := by decide +kernel
theorem dX5_slot_5 : decode cX5_slot 5 = .ok (.ifCond .eq 29, 3) := by decide +kernel
theorem dX5_slot_8 : decode cX5_slot 8 = .ok (.iload_n 2, 1) := by decide +kernel
theorem dX5_slot_9 : decode cX5_slot 9 = .ok (.ifCond .lt 25, 3) := by decide +kernel
theorem dX5_slot_12 : decode cX5_slot 12 = .ok (.iload_n 2, 1) := by decide +kernel
theorem dX5_slot_13 : decode cX5_slot 13 = .ok (.aload_n 0, 1) := by decide +kernel
theorem dX5_slot_14 : decode cX5_slot 14 = .ok (.getfield 57, 3) := by decide +kernel
theorem dX5_slot_17 : decode cX5_slot 17 = .ok (.if_icmp .ge 17, 3) := by decide +kernel
theorem dX5_slot_20 : decode cX5_slot 20 = .ok (.iload_n 3, 1) := by decide +kernel
theorem dX5_slot_21 : decode cX5_slot 21 = .ok (.ifCond .lt 13, 3) := by decide +kernel
theorem dX5_slot_24 : decode cX5_slot 24 = .ok (.iload_n 3, 1) := by decide +kernel
theorem dX5_slot_25 : decode cX5_slot 25 = .ok (.iconst 2, 1) := by decide +kernel
theorem dX5_slot_26 : decode cX5_slot 26 = .ok (.aload_n 0, 1) := by decide +kernel
theorem dX5_slot_27 : decode cX5_slot 27 = .ok (.getfield 60, 3) := by decide +kernel
theorem dX5_slot_30 : decode cX5_slot 30 = .ok (.iadd, 1) := by decide +kernel
theorem dX5_slot_31 : decode cX5_slot 31 = .ok (.if_icmp .lt 5, 3) := by decide +kernel
theorem dX5_slot_34 : decode cX5_slot 34 = .ok (.iconst (-1), 1) := by decide +kernel
theorem dX5_slot_35 : decode cX5_slot 35 = .ok (.ireturn, 1) := by decide +kernel
theorem dX5_slot_36 : decode cX5_slot 36 = .ok (.bipush 8, 2) := by decide +kernel
theorem dX5_slot_38 : decode cX5_slot 38 = .ok (.iload_n 1, 1) := by decide +kernel
theorem dX5_slot_39 : decode cX5_slot 39 = .ok (.imul, 1) := by decide +kernel
theorem dX5_slot_40 : decode cX5_slot 40 = .ok (.iload_n 2, 1) := by decide +kernel
theorem dX5_slot_41 : decode cX5_slot 41 = .ok (.iadd, 1) := by decide +kernel
theorem dX5_slot_42 : decode cX5_slot 42 = .ok (.istore 4, 2) := by decide +kernel
theorem dX5_slot_44 : decode cX5_slot 44 = .ok (.iload_n 3, 1) := by decide +kernel
theorem dX5_slot_45 : decode cX5_slot 45 = .ok (.ifCond .ne 13, 3) := by decide +kernel
theorem dX5_slot_48 : decode cX5_slot 48 = .ok (.aload_n 0, 1) := by decide +kernel
theorem dX5_slot_49 : decode cX5_slot 49 = .ok (.getfield 34, 3) := by decide +kernel
theorem dX5_slot_52 : decode cX5_slot 52 = .ok (.iload 4, 2) := by decide +kernel
theorem dX5_slot_54 : decode cX5_slot 54 = .ok (.iaload, 1) := by decide +kernel
theorem dX5_slot_55 : decode cX5_slot 55 = .ok (.goto 31, 3) := by decide +kernel
theorem dX5_slot_58 : decode cX5_slot 58 = .ok (.iload_n 3, 1) := by decide +kernel
theorem dX5_slot_59 : decode cX5_slot 59 = .ok (.iconst 1, 1) := by decide +kernel
theorem dX5_slot_60 : decode cX5_slot 60 = .ok (.if_icmp .ne 13, 3) := by decide +kernel
theorem dX5_slot_63 : decode cX5_slot 63 = .ok (.aload_n 0, 1) := by decide +kernel
theorem dX5_slot_64 : decode cX5_slot 64 = .ok (.getfield 37, 3) := by decide +kernel
theorem dX5_slot_67 : decode cX5_slot 67 = .ok (.iload 4, 2) := by decide +kernel
theorem dX5_slot_69 : decode cX5_slot 69 = .ok (.iaload, 1) := by decide +kernel
theorem dX5_slot_70 : decode cX5_slot 70 = .ok (.goto 16, 3) := by decide +kernel
theorem dX5_slot_73 : decode cX5_slot 73 = .ok (.aload_n 0, 1) := by decide +kernel
theorem dX5_slot_74 : decode cX5_slot 74 = .ok (.getfield 40, 3) := by decide +kernel
theorem dX5_slot_77 : decode cX5_slot 77 = .ok (.iconst 4, 1) := by decide +kernel
theorem dX5_slot_78 : decode cX5_slot 78 = .ok (.iload 4, 2) := by decide +kernel
theorem dX5_slot_80 : decode cX5_slot 80 = .ok (.imul, 1) := by decide +kernel
theorem dX5_slot_81 : decode cX5_slot 81 = .ok (.iload_n 3, 1) := by decide +kernel
theorem dX5_slot_82 : decode cX5_slot 82 = .ok (.iadd, 1) := by decide +kernel
theorem dX5_slot_83 : decode cX5_slot 83 = .ok (.iconst 2, 1) := by decide +kernel
theorem dX5_slot_84 : decode cX5_slot 84 = .ok (.isub, 1) := by decide +kernel
theorem dX5_slot_85 : decode cX5_slot 85 = .ok (.iaload, 1) := by decide +kernel
theorem dX5_slot_86 : decode cX5_slot 86 = .ok (.ireturn, 1) := by decide +kernel
theorem dX5_peek_0 : decode cX5_peek 0 = .ok (.aload_n 0, 1) := by decide +kernel
theorem dX5_peek_1 : decode cX5_peek 1 = .ok (.iload_n 1, 1) := by decide +kernel
theorem dX5_peek_2 : decode cX5_peek 2 = .ok (.invokevirtual 83, 3) := by decide +kernel
theorem dX5_peek_5 : decode cX5_peek 5 = .ok (.ifCond .ne 5, 3) := by decide +kernel
theorem dX5_peek_8 : decode cX5_peek 8 = .ok (.iconst 0, 1) := by decide +kernel
theorem dX5_peek_9 : decode cX5_peek 9 = .ok (.ireturn, 1) := by decide +kernel
theorem dX5_peek_10 : decode cX5_peek 10 = .ok (.aload_n 0, 1) := by decide +kernel
theorem dX5_peek_11 : decode cX5_peek 11 = .ok (.getfield 7, 3) := by decide +kernel
theorem dX5_peek_14 : decode cX5_peek 14 = .ok (.iload_n 1, 1) := by decide +kernel
theorem dX5_peek_15 : decode cX5_peek 15 = .ok (.iaload, 1) := by decide +kernel
theorem dX5_peek_16 : decode cX5_peek 16 = .ok (.istore_n 2, 1) := by decide +kernel
theorem dX5_peek_17 : decode cX5_peek 17 = .ok (.iconst 0, 1) := by decide +kernel
theorem dX5_peek_18 : decode cX5_peek 18 = .ok (.istore_n 3, 1) := by decide +kernel
theorem dX5_peek_19 : decode cX5_peek 19 = .ok (.iload_n 3, 1) := by decide +kernel
theorem dX5_peek_20 : decode cX5_peek 20 = .ok (.aload_n 0, 1) := by decide +kernel
theorem dX5_peek_21 : decode cX5_peek 21 = .ok (.getfield 53, 3) := by decide +kernel
theorem dX5_peek_24 : decode cX5_peek 24 = .ok (.if_icmp .ge 60, 3) := by decide +kernel
theorem dX5_peek_27 : decode cX5_peek 27 = .ok (.aload_n 0, 1) := by decide +kernel
theorem dX5_peek_28 : decode cX5_peek 28 = .ok (.iload_n 3, 1) := by decide +kernel
theorem dX5_peek_29 : decode cX5_peek 29 = .ok (.iload_n 1, 1) := by decide +kernel
theorem dX5_peek_30 : decode cX5_peek 30 = .ok (.aload_n 0, 1) := by decide +kernel
theorem dX5_peek_31 : decode cX5_peek 31 = .ok (.getfield 60, 3) := by decide +kernel
theorem dX5_peek_34 : decode cX5_peek 34 = .ok (.idiv, 1) := by decide +kernel
theorem dX5_peek_35 : decode cX5_peek 35 = .ok (.invokevirtual 86, 3) := by decide +kernel
theorem dX5_peek_38 : decode cX5_peek 38 = .ok (.istore 4, 2) := by decide +kernel
theorem dX5_peek_40 : decode cX5_peek 40 = .ok (.aload_n 0, 1) := by decide +kernel
theorem dX5_peek_41 : decode cX5_peek 41 = .ok (.iload_n 3, 1) := by decide +kernel
theorem dX5_peek_42 : decode cX5_peek 42 = .ok (.iload_n 1, 1) := by decide +kernel
theorem dX5_peek_43 : decode cX5_peek 43 = .ok (.aload_n 0, 1) := by decide +kernel
theorem dX5_peek_44 : decode cX5_peek 44 = .ok (.getfield 60, 3) := by decide +kernel
theorem dX5_peek_47 : decode cX5_peek 47 = .ok (.idiv, 1) := by decide +kernel
theorem dX5_peek_48 : decode cX5_peek 48 = .ok (.invokevirtual 94, 3) := by decide +kernel
theorem dX5_peek_51 : decode cX5_peek 51 = .ok (.invokestatic 118, 3) := by decide +kernel
theorem dX5_peek_54 : decode cX5_peek 54 = .ok (.ifCond .eq 22, 3) := by decide +kernel
theorem dX5_peek_57 : decode cX5_peek 57 = .ok (.aload_n 0, 1) := by decide +kernel
theorem dX5_peek_58 : decode cX5_peek 58 = .ok (.getfield 40, 3) := by decide +kernel
theorem dX5_peek_61 : decode cX5_peek 61 = .ok (.iconst 4, 1) := by decide +kernel
theorem dX5_peek_62 : decode cX5_peek 62 = .ok (.iload 4, 2) := by decide +kernel
theorem dX5_peek_64 : decode cX5_peek 64 = .ok (.imul, 1) := by decide +kernel
theorem dX5_peek_65 : decode cX5_peek 65 = .ok (.iload_n 1, 1) := by decide +kernel
theorem dX5_peek_66 : decode cX5_peek 66 = .ok (.aload_n 0, 1) := by decide +kernel
theorem dX5_peek_67 : decode cX5_peek 67 = .ok (.getfield 60, 3) := by decide +kernel
theorem dX5_peek_70 : decode cX5_peek 70 = .ok (.irem, 1) := by decide +kernel
theorem dX5_peek_71 : decode cX5_peek 71 = .ok (.iadd, 1) := by decide +kernel
theorem dX5_peek_72 : decode cX5_peek 72 = .ok (.iaload, 1) := by decide +kernel
theorem dX5_peek_73 : decode cX5_peek 73 = .ok (.goto 4, 3) := by decide +kernel
theorem dX5_peek_76 : decode cX5_peek 76 = .ok (.iload_n 2, 1) := by decide +kernel
theorem dX5_peek_77 : decode cX5_peek 77 = .ok (.istore_n 2, 1) := by decide +kernel
theorem dX5_peek_78 : decode cX5_peek 78 = .ok (.iinc 3 1, 3) := by decide +kernel
theorem dX5_peek_81 : decode cX5_peek 81 = .ok (.goto (-62), 3) := by decide +kernel
theorem dX5_peek_84 : decode cX5_peek 84 = .ok (.iload_n 2, 1) := by decide +kernel
theorem dX5_peek_85 : decode cX5_peek 85 = .ok (.ireturn, 1) := by decide +kernel
theorem dX5_memory_0 : decode cX5_memory 0 = .ok (.aload_n 0, 1) := by decide +kernel
theorem dX5_memory_1 : decode cX5_memory 1 = .ok (.iload_n 1, 1) := by decide +kernel
theorem dX5_memory_2 : decode cX5_memory 2 = .ok (.invokevirtual 83, 3) := by decide +kernel
theorem dX5_memory_5 : decode cX5_memory 5 = .ok (.ifCond .eq 12, 3) := by decide +kernel
theorem dX5_memory_8 : decode cX5_memory 8 = .ok (.aload_n 0, 1) := by decide +kernel
theorem dX5_memory_9 : decode cX5_memory 9 = .ok (.getfield 7, 3) := by decide +kernel
theorem dX5_memory_12 : decode cX5_memory 12 = .ok (.iload_n 1, 1) := by decide +kernel
theorem dX5_memory_13 : decode cX5_memory 13 = .ok (.iaload, 1) := by decide +kernel
theorem dX5_memory_14 : decode cX5_memory 14 = .ok (.goto 4, 3) := by decide +kernel
theorem dX5_memory_17 : decode cX5_memory 17 = .ok (.iconst 0, 1) := by decide +kernel
theorem dX5_memory_18 : decode cX5_memory 18 = .ok (.ireturn, 1) := by decide +kernel
theorem dX5_state_0 : decode cX5_state 0 = .ok (.iload_n 1, 1) := by decide +kernel
theorem dX5_state_1 : decode cX5_state 1 = .ok (.iconst 4, 1) := by decide +kernel
theorem dX5_state_2 : decode cX5_state 2 = .ok (.if_icmp .lt 18, 3) := by decide +kernel
theorem dX5_state_5 : decode cX5_state 5 = .ok (.iload_n 1, 1) := by decide +kernel
theorem dX5_state_6 : decode cX5_state 6 = .ok (.bipush 7, 2) := by decide +kernel
theorem dX5_state_8 : decode cX5_state 8 = .ok (.if_icmp .gt 12, 3) := by decide +kernel
theorem dX5_state_11 : decode cX5_state 11 = .ok (.aload_n 0, 1) := by decide +kernel
theorem dX5_state_12 : decode cX5_state 12 = .ok (.getfield 46, 3) := by decide +kernel
theorem dX5_state_15 : decode cX5_state 15 = .ok (.iload_n 1, 1) := by decide +kernel
theorem dX5_state_16 : decode cX5_state 16 = .ok (.iconst 3, 1) := by decide +kernel
theorem dX5_state_17 : decode cX5_state 17 = .ok (.isub, 1) := by decide +kernel
theorem dX5_state_18 : decode cX5_state 18 = .ok (.iaload, 1) := by decide +kernel
theorem dX5_state_19 : decode cX5_state 19 = .ok (.ireturn, 1) := by decide +kernel
theorem dX5_state_20 : decode cX5_state 20 = .ok (.iload_n 1, 1) := by decide +kernel
theorem dX5_state_21 : decode cX5_state 21 = .ok (.ifCond .ne 10, 3) := by decide +kernel
theorem dX5_state_24 : decode cX5_state 24 = .ok (.aload_n 0, 1) := by decide +kernel
theorem dX5_state_25 : decode cX5_state 25 = .ok (.getfield 107, 3) := by decide +kernel
theorem dX5_state_28 : decode cX5_state 28 = .ok (.goto 40, 3) := by decide +kernel
theorem dX5_state_31 : decode cX5_state 31 = .ok (.iload_n 1, 1) := by decide +kernel
theorem dX5_state_32 : decode cX5_state 32 = .ok (.iconst 1, 1) := by decide +kernel
theorem dX5_state_33 : decode cX5_state 33 = .ok (.if_icmp .ne 10, 3) := by decide +kernel
theorem dX5_state_36 : decode cX5_state 36 = .ok (.aload_n 0, 1) := by decide +kernel
theorem dX5_state_37 : decode cX5_state 37 = .ok (.getfield 69, 3) := by decide +kernel
theorem dX5_state_40 : decode cX5_state 40 = .ok (.goto 28, 3) := by decide +kernel
theorem dX5_state_43 : decode cX5_state 43 = .ok (.iload_n 1, 1) := by decide +kernel
theorem dX5_state_44 : decode cX5_state 44 = .ok (.iconst 2, 1) := by decide +kernel
theorem dX5_state_45 : decode cX5_state 45 = .ok (.if_icmp .ne 10, 3) := by decide +kernel
theorem dX5_state_48 : decode cX5_state 48 = .ok (.aload_n 0, 1) := by decide +kernel
theorem dX5_state_49 : decode cX5_state 49 = .ok (.getfield 110, 3) := by decide +kernel
theorem dX5_state_52 : decode cX5_state 52 = .ok (.goto 16, 3) := by decide +kernel
theorem dX5_state_55 : decode cX5_state 55 = .ok (.iload_n 1, 1) := by decide +kernel
theorem dX5_state_56 : decode cX5_state 56 = .ok (.iconst 3, 1) := by decide +kernel
theorem dX5_state_57 : decode cX5_state 57 = .ok (.if_icmp .ne 10, 3) := by decide +kernel
theorem dX5_state_60 : decode cX5_state 60 = .ok (.aload_n 0, 1) := by decide +kernel
theorem dX5_state_61 : decode cX5_state 61 = .ok (.getfield 72, 3) := by decide +kernel
theorem dX5_state_64 : decode cX5_state 64 = .ok (.goto 4, 3) := by decide +kernel
theorem dX5_state_67 : decode cX5_state 67 = .ok (.iconst (-1), 1) := by decide +kernel
theorem dX5_state_68 : decode cX5_state 68 = .ok (.ireturn, 1) := by decide +kernel
theorem dL_law_0 : decode cL_law 0 = .ok (.new 7, 3) := by decide +kernel
theorem dL_law_3 : decode cL_law 3 = .ok (.dup, 1) := by decide +kernel
theorem dL_law_4 : decode cL_law 4 = .ok (.aload_n 0, 1) := by decide +kernel
theorem dL_law_5 : decode cL_law 5 = .ok (.iconst 0, 1) := by decide +kernel
theorem dL_law_6 : decode cL_law 6 = .ok (.invokestatic 9, 3) := by decide +kernel
theorem dL_law_9 : decode cL_law 9 = .ok (.aload_n 0, 1) := by decide +kernel
theorem dL_law_10 : decode cL_law 10 = .ok (.iconst 1, 1) := by decide +kernel
theorem dL_law_11 : decode cL_law 11 = .ok (.invokestatic 9, 3) := by decide +kernel
theorem dL_law_14 : decode cL_law 14 = .ok (.aload_n 0, 1) := by decide +kernel
theorem dL_law_15 : decode cL_law 15 = .ok (.iconst 2, 1) := by decide +kernel
theorem dL_law_16 : decode cL_law 16 = .ok (.invokestatic 9, 3) := by decide +kernel
theorem dL_law_19 : decode cL_law 19 = .ok (.aload_n 0, 1) := by decide +kernel
theorem dL_law_20 : decode cL_law 20 = .ok (.iconst 3, 1) := by decide +kernel
theorem dL_law_21 : decode cL_law 21 = .ok (.invokestatic 9, 3) := by decide +kernel
theorem dL_law_24 : decode cL_law 24 = .ok (.aload_n 0, 1) := by decide +kernel
theorem dL_law_25 : decode cL_law 25 = .ok (.iconst 4, 1) := by decide +kernel
theorem dL_law_26 : decode cL_law 26 = .ok (.invokestatic 9, 3) := by decide +kernel
theorem dL_law_29 : decode cL_law 29 = .ok (.invokespecial 15, 3) := by decide +kernel
theorem dL_law_32 : decode cL_law 32 = .ok (.astore_n 1, 1) := by decide +kernel
theorem dL_law_33 : decode cL_law 33 = .ok (.new 18, 3) := by decide +kernel
theorem dL_law_36 : decode cL_law 36 = .ok (.dup, 1) := by decide +kernel
theorem dL_law_37 : decode cL_law 37 = .ok (.aload_n 0, 1) := by decide +kernel
theorem dL_law_38 : decode cL_law 38 = .ok (.iconst 0, 1) := by decide +kernel
theorem dL_law_39 : decode cL_law 39 = .ok (.invokestatic 9, 3) := by decide +kernel
theorem dL_law_42 : decode cL_law 42 = .ok (.aload_n 0, 1) := by decide +kernel
theorem dL_law_43 : decode cL_law 43 = .ok (.iconst 1, 1) := by decide +kernel
theorem dL_law_44 : decode cL_law 44 = .ok (.invokestatic 9, 3) := by decide +kernel
theorem dL_law_47 : decode cL_law 47 = .ok (.aload_n 0, 1) := by decide +kernel
theorem dL_law_48 : decode cL_law 48 = .ok (.iconst 2, 1) := by decide +kernel
theorem dL_law_49 : decode cL_law 49 = .ok (.invokestatic 9, 3) := by decide +kernel
theorem dL_law_52 : decode cL_law 52 = .ok (.aload_n 0, 1) := by decide +kernel
theorem dL_law_53 : decode cL_law 53 = .ok (.iconst 3, 1) := by decide +kernel
theorem dL_law_54 : decode cL_law 54 = .ok (.invokestatic 9, 3) := by decide +kernel
theorem dL_law_57 : decode cL_law 57 = .ok (.aload_n 0, 1) := by decide +kernel
theorem dL_law_58 : decode cL_law 58 = .ok (.iconst 4, 1) := by decide +kernel
theorem dL_law_59 : decode cL_law 59 = .ok (.invokestatic 9, 3) := by decide +kernel
theorem dL_law_62 : decode cL_law 62 = .ok (.invokespecial 20, 3) := by decide +kernel
theorem dL_law_65 : decode cL_law 65 = .ok (.astore_n 2, 1) := by decide +kernel
theorem dL_law_66 : decode cL_law 66 = .ok (.iconst 5, 1) := by decide +kernel
theorem dL_law_67 : decode cL_law 67 = .ok (.istore_n 3, 1) := by decide +kernel
theorem dL_law_68 : decode cL_law 68 = .ok (.iload_n 3, 1) := by decide +kernel
theorem dL_law_69 : decode cL_law 69 = .ok (.aload_n 0, 1) := by decide +kernel
theorem dL_law_70 : decode cL_law 70 = .ok (.arraylength, 1) := by decide +kernel
theorem dL_law_71 : decode cL_law 71 = .ok (.iconst 4, 1) := by decide +kernel
theorem dL_law_72 : decode cL_law 72 = .ok (.isub, 1) := by decide +kernel
theorem dL_law_73 : decode cL_law 73 = .ok (.if_icmp .gt 396, 3) := by decide +kernel
theorem dL_law_76 : decode cL_law 76 = .ok (.aload_n 0, 1) := by decide +kernel
theorem dL_law_77 : decode cL_law 77 = .ok (.iload_n 3, 1) := by decide +kernel
theorem dL_law_78 : decode cL_law 78 = .ok (.iaload, 1) := by decide +kernel
theorem dL_law_79 : decode cL_law 79 = .ok (.bipush 15, 2) := by decide +kernel
theorem dL_law_81 : decode cL_law 81 = .ok (.iand, 1) := by decide +kernel
theorem dL_law_82 : decode cL_law 82 = .ok (.tableswitch 381 0 10 #[58, 101, 134, 157, 170, 203, 236, 269, 312, 335, 358], 58) := by decide +kernel
theorem dL_law_140 : decode cL_law 140 = .ok (.aload_n 1, 1) := by decide +kernel
theorem dL_law_141 : decode cL_law 141 = .ok (.aload_n 0, 1) := by decide +kernel
theorem dL_law_142 : decode cL_law 142 = .ok (.iload_n 3, 1) := by decide +kernel
theorem dL_law_143 : decode cL_law 143 = .ok (.iconst 1, 1) := by decide +kernel
theorem dL_law_144 : decode cL_law 144 = .ok (.iadd, 1) := by decide +kernel
theorem dL_law_145 : decode cL_law 145 = .ok (.iaload, 1) := by decide +kernel
theorem dL_law_146 : decode cL_law 146 = .ok (.aload_n 0, 1) := by decide +kernel
theorem dL_law_147 : decode cL_law 147 = .ok (.iload_n 3, 1) := by decide +kernel
theorem dL_law_148 : decode cL_law 148 = .ok (.iconst 2, 1) := by decide +kernel
theorem dL_law_149 : decode cL_law 149 = .ok (.iadd, 1) := by decide +kernel
theorem dL_law_150 : decode cL_law 150 = .ok (.iaload, 1) := by decide +kernel
theorem dL_law_151 : decode cL_law 151 = .ok (.aload_n 0, 1) := by decide +kernel
theorem dL_law_152 : decode cL_law 152 = .ok (.iload_n 3, 1) := by decide +kernel
theorem dL_law_153 : decode cL_law 153 = .ok (.iconst 3, 1) := by decide +kernel
theorem dL_law_154 : decode cL_law 154 = .ok (.iadd, 1) := by decide +kernel
theorem dL_law_155 : decode cL_law 155 = .ok (.iaload, 1) := by decide +kernel
theorem dL_law_156 : decode cL_law 156 = .ok (.invokevirtual 21, 3) := by decide +kernel
theorem dL_law_159 : decode cL_law 159 = .ok (.aload_n 2, 1) := by decide +kernel
theorem dL_law_160 : decode cL_law 160 = .ok (.aload_n 0, 1) := by decide +kernel
theorem dL_law_161 : decode cL_law 161 = .ok (.iload_n 3, 1) := by decide +kernel
theorem dL_law_162 : decode cL_law 162 = .ok (.iconst 1, 1) := by decide +kernel
theorem dL_law_163 : decode cL_law 163 = .ok (.iadd, 1) := by decide +kernel
theorem dL_law_164 : decode cL_law 164 = .ok (.iaload, 1) := by decide +kernel
theorem dL_law_165 : decode cL_law 165 = .ok (.aload_n 0, 1) := by decide +kernel
theorem dL_law_166 : decode cL_law 166 = .ok (.iload_n 3, 1) := by decide +kernel
theorem dL_law_167 : decode cL_law 167 = .ok (.iconst 2, 1) := by decide +kernel
theorem dL_law_168 : decode cL_law 168 = .ok (.iadd, 1) := by decide +kernel
theorem dL_law_169 : decode cL_law 169 = .ok (.iaload, 1) := by decide +kernel
theorem dL_law_170 : decode cL_law 170 = .ok (.aload_n 0, 1) := by decide +kernel
theorem dL_law_171 : decode cL_law 171 = .ok (.iload_n 3, 1) := by decide +kernel
theorem dL_law_172 : decode cL_law 172 = .ok (.iconst 3, 1) := by decide +kernel
theorem dL_law_173 : decode cL_law 173 = .ok (.iadd, 1) := by decide +kernel
theorem dL_law_174 : decode cL_law 174 = .ok (.iaload, 1) := by decide +kernel
theorem dL_law_175 : decode cL_law 175 = .ok (.invokevirtual 25, 3) := by decide +kernel
theorem dL_law_178 : decode cL_law 178 = .ok (.if_icmp .eq 285, 3) := by decide +kernel
theorem dL_law_181 : decode cL_law 181 = .ok (.iconst 0, 1) := by decide +kernel
theorem dL_law_182 : decode cL_law 182 = .ok (.ireturn, 1) := by decide +kernel
theorem dL_law_183 : decode cL_law 183 = .ok (.aload_n 1, 1) := by decide +kernel
theorem dL_law_184 : decode cL_law 184 = .ok (.aload_n 0, 1) := by decide +kernel
theorem dL_law_185 : decode cL_law 185 = .ok (.iload_n 3, 1) := by decide +kernel
theorem dL_law_186 : decode cL_law 186 = .ok (.iconst 1, 1) := by decide +kernel
theorem dL_law_187 : decode cL_law 187 = .ok (.iadd, 1) := by decide +kernel
theorem dL_law_188 : decode cL_law 188 = .ok (.iaload, 1) := by decide +kernel
theorem dL_law_189 : decode cL_law 189 = .ok (.aload_n 0, 1) := by decide +kernel
theorem dL_law_190 : decode cL_law 190 = .ok (.iload_n 3, 1) := by decide +kernel
theorem dL_law_191 : decode cL_law 191 = .ok (.iconst 2, 1) := by decide +kernel
theorem dL_law_192 : decode cL_law 192 = .ok (.iadd, 1) := by decide +kernel
theorem dL_law_193 : decode cL_law 193 = .ok (.iaload, 1) := by decide +kernel
theorem dL_law_194 : decode cL_law 194 = .ok (.invokevirtual 26, 3) := by decide +kernel
theorem dL_law_197 : decode cL_law 197 = .ok (.aload_n 2, 1) := by decide +kernel
theorem dL_law_198 : decode cL_law 198 = .ok (.aload_n 0, 1) := by decide +kernel
theorem dL_law_199 : decode cL_law 199 = .ok (.iload_n 3, 1) := by decide +kernel
theorem dL_law_200 : decode cL_law 200 = .ok (.iconst 1, 1) := by decide +kernel
theorem dL_law_201 : decode cL_law 201 = .ok (.iadd, 1) := by decide +kernel
theorem dL_law_202 : decode cL_law 202 = .ok (.iaload, 1) := by decide +kernel
theorem dL_law_203 : decode cL_law 203 = .ok (.aload_n 0, 1) := by decide +kernel
theorem dL_law_204 : decode cL_law 204 = .ok (.iload_n 3, 1) := by decide +kernel
theorem dL_law_205 : decode cL_law 205 = .ok (.iconst 2, 1) := by decide +kernel
theorem dL_law_206 : decode cL_law 206 = .ok (.iadd, 1) := by decide +kernel
theorem dL_law_207 : decode cL_law 207 = .ok (.iaload, 1) := by decide +kernel
theorem dL_law_208 : decode cL_law 208 = .ok (.invokevirtual 30, 3) := by decide +kernel
theorem dL_law_211 : decode cL_law 211 = .ok (.if_icmp .eq 252, 3) := by decide +kernel
theorem dL_law_214 : decode cL_law 214 = .ok (.iconst 0, 1) := by decide +kernel
theorem dL_law_215 : decode cL_law 215 = .ok (.ireturn, 1) := by decide +kernel
theorem dL_law_216 : decode cL_law 216 = .ok (.aload_n 1, 1) := by decide +kernel
theorem dL_law_217 : decode cL_law 217 = .ok (.aload_n 0, 1) := by decide +kernel
theorem dL_law_218 : decode cL_law 218 = .ok (.iload_n 3, 1) := by decide +kernel
theorem dL_law_219 : decode cL_law 219 = .ok (.iconst 1, 1) := by decide +kernel
theorem dL_law_220 : decode cL_law 220 = .ok (.iadd, 1) := by decide +kernel
theorem dL_law_221 : decode cL_law 221 = .ok (.iaload, 1) := by decide +kernel
theorem dL_law_222 : decode cL_law 222 = .ok (.invokevirtual 31, 3) := by decide +kernel
theorem dL_law_225 : decode cL_law 225 = .ok (.aload_n 2, 1) := by decide +kernel
theorem dL_law_226 : decode cL_law 226 = .ok (.aload_n 0, 1) := by decide +kernel
theorem dL_law_227 : decode cL_law 227 = .ok (.iload_n 3, 1) := by decide +kernel
theorem dL_law_228 : decode cL_law 228 = .ok (.iconst 1, 1) := by decide +kernel
theorem dL_law_229 : decode cL_law 229 = .ok (.iadd, 1) := by decide +kernel
theorem dL_law_230 : decode cL_law 230 = .ok (.iaload, 1) := by decide +kernel
theorem dL_law_231 : decode cL_law 231 = .ok (.invokevirtual 35, 3) := by decide +kernel
theorem dL_law_234 : decode cL_law 234 = .ok (.if_icmp .eq 229, 3) := by decide +kernel
theorem dL_law_237 : decode cL_law 237 = .ok (.iconst 0, 1) := by decide +kernel
theorem dL_law_238 : decode cL_law 238 = .ok (.ireturn, 1) := by decide +kernel
theorem dL_law_239 : decode cL_law 239 = .ok (.aload_n 1, 1) := by decide +kernel
theorem dL_law_240 : decode cL_law 240 = .ok (.invokevirtual 36, 3) := by decide +kernel
theorem dL_law_243 : decode cL_law 243 = .ok (.aload_n 2, 1) := by decide +kernel
theorem dL_law_244 : decode cL_law 244 = .ok (.invokevirtual 40, 3) := by decide +kernel
theorem dL_law_247 : decode cL_law 247 = .ok (.if_icmp .eq 216, 3) := by decide +kernel
theorem dL_law_250 : decode cL_law 250 = .ok (.iconst 0, 1) := by decide +kernel
theorem dL_law_251 : decode cL_law 251 = .ok (.ireturn, 1) := by decide +kernel
theorem dL_law_252 : decode cL_law 252 = .ok (.aload_n 1, 1) := by decide +kernel
theorem dL_law_253 : decode cL_law 253 = .ok (.aload_n 0, 1) := by decide +kernel
theorem dL_law_254 : decode cL_law 254 = .ok (.iload_n 3, 1) := by decide +kernel
theorem dL_law_255 : decode cL_law 255 = .ok (.iconst 1, 1) := by decide +kernel
theorem dL_law_256 : decode cL_law 256 = .ok (.iadd, 1) := by decide +kernel
theorem dL_law_257 : decode cL_law 257 = .ok (.iaload, 1) := by decide +kernel
theorem dL_law_258 : decode cL_law 258 = .ok (.aload_n 0, 1) := by decide +kernel
theorem dL_law_259 : decode cL_law 259 = .ok (.iload_n 3, 1) := by decide +kernel
theorem dL_law_260 : decode cL_law 260 = .ok (.iconst 2, 1) := by decide +kernel
theorem dL_law_261 : decode cL_law 261 = .ok (.iadd, 1) := by decide +kernel
theorem dL_law_262 : decode cL_law 262 = .ok (.iaload, 1) := by decide +kernel
theorem dL_law_263 : decode cL_law 263 = .ok (.invokevirtual 41, 3) := by decide +kernel
theorem dL_law_266 : decode cL_law 266 = .ok (.aload_n 2, 1) := by decide +kernel
theorem dL_law_267 : decode cL_law 267 = .ok (.aload_n 0, 1) := by decide +kernel
theorem dL_law_268 : decode cL_law 268 = .ok (.iload_n 3, 1) := by decide +kernel
theorem dL_law_269 : decode cL_law 269 = .ok (.iconst 1, 1) := by decide +kernel
theorem dL_law_270 : decode cL_law 270 = .ok (.iadd, 1) := by decide +kernel
theorem dL_law_271 : decode cL_law 271 = .ok (.iaload, 1) := by decide +kernel
theorem dL_law_272 : decode cL_law 272 = .ok (.aload_n 0, 1) := by decide +kernel
theorem dL_law_273 : decode cL_law 273 = .ok (.iload_n 3, 1) := by decide +kernel
theorem dL_law_274 : decode cL_law 274 = .ok (.iconst 2, 1) := by decide +kernel
theorem dL_law_275 : decode cL_law 275 = .ok (.iadd, 1) := by decide +kernel
theorem dL_law_276 : decode cL_law 276 = .ok (.iaload, 1) := by decide +kernel
theorem dL_law_277 : decode cL_law 277 = .ok (.invokevirtual 45, 3) := by decide +kernel
theorem dL_law_280 : decode cL_law 280 = .ok (.if_icmp .eq 183, 3) := by decide +kernel
theorem dL_law_283 : decode cL_law 283 = .ok (.iconst 0, 1) := by decide +kernel
theorem dL_law_284 : decode cL_law 284 = .ok (.ireturn, 1) := by decide +kernel
theorem dL_law_285 : decode cL_law 285 = .ok (.aload_n 1, 1) := by decide +kernel
theorem dL_law_286 : decode cL_law 286 = .ok (.aload_n 0, 1) := by decide +kernel
theorem dL_law_287 : decode cL_law 287 = .ok (.iload_n 3, 1) := by decide +kernel
theorem dL_law_288 : decode cL_law 288 = .ok (.iconst 1, 1) := by decide +kernel
theorem dL_law_289 : decode cL_law 289 = .ok (.iadd, 1) := by decide +kernel
theorem dL_law_290 : decode cL_law 290 = .ok (.iaload, 1) := by decide +kernel
theorem dL_law_291 : decode cL_law 291 = .ok (.aload_n 0, 1) := by decide +kernel
theorem dL_law_292 : decode cL_law 292 = .ok (.iload_n 3, 1) := by decide +kernel
theorem dL_law_293 : decode cL_law 293 = .ok (.iconst 2, 1) := by decide +kernel
theorem dL_law_294 : decode cL_law 294 = .ok (.iadd, 1) := by decide +kernel
theorem dL_law_295 : decode cL_law 295 = .ok (.iaload, 1) := by decide +kernel
theorem dL_law_296 : decode cL_law 296 = .ok (.invokevirtual 46, 3) := by decide +kernel
theorem dL_law_299 : decode cL_law 299 = .ok (.aload_n 2, 1) := by decide +kernel
theorem dL_law_300 : decode cL_law 300 = .ok (.aload_n 0, 1) := by decide +kernel
theorem dL_law_301 : decode cL_law 301 = .ok (.iload_n 3, 1) := by decide +kernel
theorem dL_law_302 : decode cL_law 302 = .ok (.iconst 1, 1) := by decide +kernel
theorem dL_law_303 : decode cL_law 303 = .ok (.iadd, 1) := by decide +kernel
theorem dL_law_304 : decode cL_law 304 = .ok (.iaload, 1) := by decide +kernel
theorem dL_law_305 : decode cL_law 305 = .ok (.aload_n 0, 1) := by decide +kernel
theorem dL_law_306 : decode cL_law 306 = .ok (.iload_n 3, 1) := by decide +kernel
theorem dL_law_307 : decode cL_law 307 = .ok (.iconst 2, 1) := by decide +kernel
theorem dL_law_308 : decode cL_law 308 = .ok (.iadd, 1) := by decide +kernel
theorem dL_law_309 : decode cL_law 309 = .ok (.iaload, 1) := by decide +kernel
theorem dL_law_310 : decode cL_law 310 = .ok (.invokevirtual 49, 3) := by decide +kernel
theorem dL_law_313 : decode cL_law 313 = .ok (.if_icmp .eq 150, 3) := by decide +kernel
theorem dL_law_316 : decode cL_law 316 = .ok (.iconst 0, 1) := by decide +kernel
theorem dL_law_317 : decode cL_law 317 = .ok (.ireturn, 1) := by decide +kernel
theorem dL_law_318 : decode cL_law 318 = .ok (.aload_n 1, 1) := by decide +kernel
theorem dL_law_319 : decode cL_law 319 = .ok (.aload_n 0, 1) := by decide +kernel
theorem dL_law_320 : decode cL_law 320 = .ok (.iload_n 3, 1) := by decide +kernel
theorem dL_law_321 : decode cL_law 321 = .ok (.iconst 1, 1) := by decide +kernel
theorem dL_law_322 : decode cL_law 322 = .ok (.iadd, 1) := by decide +kernel
theorem dL_law_323 : decode cL_law 323 = .ok (.iaload, 1) := by decide +kernel
theorem dL_law_324 : decode cL_law 324 = .ok (.aload_n 0, 1) := by decide +kernel
theorem dL_law_325 : decode cL_law 325 = .ok (.iload_n 3, 1) := by decide +kernel
theorem dL_law_326 : decode cL_law 326 = .ok (.iconst 2, 1) := by decide +kernel
theorem dL_law_327 : decode cL_law 327 = .ok (.iadd, 1) := by decide +kernel
theorem dL_law_328 : decode cL_law 328 = .ok (.iaload, 1) := by decide +kernel
theorem dL_law_329 : decode cL_law 329 = .ok (.invokevirtual 50, 3) := by decide +kernel
theorem dL_law_332 : decode cL_law 332 = .ok (.aload_n 2, 1) := by decide +kernel
theorem dL_law_333 : decode cL_law 333 = .ok (.aload_n 0, 1) := by decide +kernel
theorem dL_law_334 : decode cL_law 334 = .ok (.iload_n 3, 1) := by decide +kernel
theorem dL_law_335 : decode cL_law 335 = .ok (.iconst 1, 1) := by decide +kernel
theorem dL_law_336 : decode cL_law 336 = .ok (.iadd, 1) := by decide +kernel
theorem dL_law_337 : decode cL_law 337 = .ok (.iaload, 1) := by decide +kernel
theorem dL_law_338 : decode cL_law 338 = .ok (.aload_n 0, 1) := by decide +kernel
theorem dL_law_339 : decode cL_law 339 = .ok (.iload_n 3, 1) := by decide +kernel
theorem dL_law_340 : decode cL_law 340 = .ok (.iconst 2, 1) := by decide +kernel
theorem dL_law_341 : decode cL_law 341 = .ok (.iadd, 1) := by decide +kernel
theorem dL_law_342 : decode cL_law 342 = .ok (.iaload, 1) := by decide +kernel
theorem dL_law_343 : decode cL_law 343 = .ok (.invokevirtual 53, 3) := by decide +kernel
theorem dL_law_346 : decode cL_law 346 = .ok (.if_icmp .eq 117, 3) := by decide +kernel
theorem dL_law_349 : decode cL_law 349 = .ok (.iconst 0, 1) := by decide +kernel
theorem dL_law_350 : decode cL_law 350 = .ok (.ireturn, 1) := by decide +kernel
theorem dL_law_351 : decode cL_law 351 = .ok (.aload_n 1, 1) := by decide +kernel
theorem dL_law_352 : decode cL_law 352 = .ok (.aload_n 0, 1) := by decide +kernel
theorem dL_law_353 : decode cL_law 353 = .ok (.iload_n 3, 1) := by decide +kernel
theorem dL_law_354 : decode cL_law 354 = .ok (.iconst 1, 1) := by decide +kernel
theorem dL_law_355 : decode cL_law 355 = .ok (.iadd, 1) := by decide +kernel
theorem dL_law_356 : decode cL_law 356 = .ok (.iaload, 1) := by decide +kernel
theorem dL_law_357 : decode cL_law 357 = .ok (.aload_n 0, 1) := by decide +kernel
theorem dL_law_358 : decode cL_law 358 = .ok (.iload_n 3, 1) := by decide +kernel
theorem dL_law_359 : decode cL_law 359 = .ok (.iconst 2, 1) := by decide +kernel
theorem dL_law_360 : decode cL_law 360 = .ok (.iadd, 1) := by decide +kernel
theorem dL_law_361 : decode cL_law 361 = .ok (.iaload, 1) := by decide +kernel
theorem dL_law_362 : decode cL_law 362 = .ok (.aload_n 0, 1) := by decide +kernel
theorem dL_law_363 : decode cL_law 363 = .ok (.iload_n 3, 1) := by decide +kernel
theorem dL_law_364 : decode cL_law 364 = .ok (.iconst 3, 1) := by decide +kernel
theorem dL_law_365 : decode cL_law 365 = .ok (.iadd, 1) := by decide +kernel
theorem dL_law_366 : decode cL_law 366 = .ok (.iaload, 1) := by decide +kernel
theorem dL_law_367 : decode cL_law 367 = .ok (.invokevirtual 54, 3) := by decide +kernel
theorem dL_law_370 : decode cL_law 370 = .ok (.aload_n 2, 1) := by decide +kernel
theorem dL_law_371 : decode cL_law 371 = .ok (.aload_n 0, 1) := by decide +kernel
theorem dL_law_372 : decode cL_law 372 = .ok (.iload_n 3, 1) := by decide +kernel
theorem dL_law_373 : decode cL_law 373 = .ok (.iconst 1, 1) := by decide +kernel
theorem dL_law_374 : decode cL_law 374 = .ok (.iadd, 1) := by decide +kernel
theorem dL_law_375 : decode cL_law 375 = .ok (.iaload, 1) := by decide +kernel
theorem dL_law_376 : decode cL_law 376 = .ok (.aload_n 0, 1) := by decide +kernel
theorem dL_law_377 : decode cL_law 377 = .ok (.iload_n 3, 1) := by decide +kernel
theorem dL_law_378 : decode cL_law 378 = .ok (.iconst 2, 1) := by decide +kernel
theorem dL_law_379 : decode cL_law 379 = .ok (.iadd, 1) := by decide +kernel
theorem dL_law_380 : decode cL_law 380 = .ok (.iaload, 1) := by decide +kernel
theorem dL_law_381 : decode cL_law 381 = .ok (.aload_n 0, 1) := by decide +kernel
theorem dL_law_382 : decode cL_law 382 = .ok (.iload_n 3, 1) := by decide +kernel
theorem dL_law_383 : decode cL_law 383 = .ok (.iconst 3, 1) := by decide +kernel
theorem dL_law_384 : decode cL_law 384 = .ok (.iadd, 1) := by decide +kernel
theorem dL_law_385 : decode cL_law 385 = .ok (.iaload, 1) := by decide +kernel
theorem dL_law_386 : decode cL_law 386 = .ok (.invokevirtual 58, 3) := by decide +kernel
theorem dL_law_389 : decode cL_law 389 = .ok (.if_icmp .eq 74, 3) := by decide +kernel
theorem dL_law_392 : decode cL_law 392 = .ok (.iconst 0, 1) := by decide +kernel
theorem dL_law_393 : decode cL_law 393 = .ok (.ireturn, 1) := by decide +kernel
theorem dL_law_394 : decode cL_law 394 = .ok (.aload_n 1, 1) := by decide +kernel
theorem dL_law_395 : decode cL_law 395 = .ok (.aload_n 0, 1) := by decide +kernel
theorem dL_law_396 : decode cL_law 396 = .ok (.iload_n 3, 1) := by decide +kernel
theorem dL_law_397 : decode cL_law 397 = .ok (.iconst 1, 1) := by decide +kernel
theorem dL_law_398 : decode cL_law 398 = .ok (.iadd, 1) := by decide +kernel
theorem dL_law_399 : decode cL_law 399 = .ok (.iaload, 1) := by decide +kernel
theorem dL_law_400 : decode cL_law 400 = .ok (.invokevirtual 59, 3) := by decide +kernel
theorem dL_law_403 : decode cL_law 403 = .ok (.aload_n 2, 1) := by decide +kernel
theorem dL_law_404 : decode cL_law 404 = .ok (.aload_n 0, 1) := by decide +kernel
theorem dL_law_405 : decode cL_law 405 = .ok (.iload_n 3, 1) := by decide +kernel
theorem dL_law_406 : decode cL_law 406 = .ok (.iconst 1, 1) := by decide +kernel
theorem dL_law_407 : decode cL_law 407 = .ok (.iadd, 1) := by decide +kernel
theorem dL_law_408 : decode cL_law 408 = .ok (.iaload, 1) := by decide +kernel
theorem dL_law_409 : decode cL_law 409 = .ok (.invokevirtual 62, 3) := by decide +kernel
theorem dL_law_412 : decode cL_law 412 = .ok (.if_icmp .eq 51, 3) := by decide +kernel
theorem dL_law_415 : decode cL_law 415 = .ok (.iconst 0, 1) := by decide +kernel
theorem dL_law_416 : decode cL_law 416 = .ok (.ireturn, 1) := by decide +kernel
theorem dL_law_417 : decode cL_law 417 = .ok (.aload_n 1, 1) := by decide +kernel
theorem dL_law_418 : decode cL_law 418 = .ok (.aload_n 0, 1) := by decide +kernel
theorem dL_law_419 : decode cL_law 419 = .ok (.iload_n 3, 1) := by decide +kernel
theorem dL_law_420 : decode cL_law 420 = .ok (.iconst 1, 1) := by decide +kernel
theorem dL_law_421 : decode cL_law 421 = .ok (.iadd, 1) := by decide +kernel
theorem dL_law_422 : decode cL_law 422 = .ok (.iaload, 1) := by decide +kernel
theorem dL_law_423 : decode cL_law 423 = .ok (.invokevirtual 63, 3) := by decide +kernel
theorem dL_law_426 : decode cL_law 426 = .ok (.aload_n 2, 1) := by decide +kernel
theorem dL_law_427 : decode cL_law 427 = .ok (.aload_n 0, 1) := by decide +kernel
theorem dL_law_428 : decode cL_law 428 = .ok (.iload_n 3, 1) := by decide +kernel
theorem dL_law_429 : decode cL_law 429 = .ok (.iconst 1, 1) := by decide +kernel
theorem dL_law_430 : decode cL_law 430 = .ok (.iadd, 1) := by decide +kernel
theorem dL_law_431 : decode cL_law 431 = .ok (.iaload, 1) := by decide +kernel
theorem dL_law_432 : decode cL_law 432 = .ok (.invokevirtual 66, 3) := by decide +kernel
theorem dL_law_435 : decode cL_law 435 = .ok (.if_icmp .eq 28, 3) := by decide +kernel
theorem dL_law_438 : decode cL_law 438 = .ok (.iconst 0, 1) := by decide +kernel
theorem dL_law_439 : decode cL_law 439 = .ok (.ireturn, 1) := by decide +kernel
theorem dL_law_440 : decode cL_law 440 = .ok (.aload_n 1, 1) := by decide +kernel
theorem dL_law_441 : decode cL_law 441 = .ok (.aload_n 0, 1) := by decide +kernel
theorem dL_law_442 : decode cL_law 442 = .ok (.iload_n 3, 1) := by decide +kernel
theorem dL_law_443 : decode cL_law 443 = .ok (.iconst 1, 1) := by decide +kernel
theorem dL_law_444 : decode cL_law 444 = .ok (.iadd, 1) := by decide +kernel
theorem dL_law_445 : decode cL_law 445 = .ok (.iaload, 1) := by decide +kernel
theorem dL_law_446 : decode cL_law 446 = .ok (.invokevirtual 67, 3) := by decide +kernel
theorem dL_law_449 : decode cL_law 449 = .ok (.aload_n 2, 1) := by decide +kernel
theorem dL_law_450 : decode cL_law 450 = .ok (.aload_n 0, 1) := by decide +kernel
theorem dL_law_451 : decode cL_law 451 = .ok (.iload_n 3, 1) := by decide +kernel
theorem dL_law_452 : decode cL_law 452 = .ok (.iconst 1, 1) := by decide +kernel
theorem dL_law_453 : decode cL_law 453 = .ok (.iadd, 1) := by decide +kernel
theorem dL_law_454 : decode cL_law 454 = .ok (.iaload, 1) := by decide +kernel
theorem dL_law_455 : decode cL_law 455 = .ok (.invokevirtual 70, 3) := by decide +kernel
theorem dL_law_458 : decode cL_law 458 = .ok (.if_icmp .eq 5, 3) := by decide +kernel
theorem dL_law_461 : decode cL_law 461 = .ok (.iconst 0, 1) := by decide +kernel
theorem dL_law_462 : decode cL_law 462 = .ok (.ireturn, 1) := by decide +kernel
theorem dL_law_463 : decode cL_law 463 = .ok (.iinc 3 4, 3) := by decide +kernel
theorem dL_law_466 : decode cL_law 466 = .ok (.goto (-398), 3) := by decide +kernel
theorem dL_law_469 : decode cL_law 469 = .ok (.iconst 1, 1) := by decide +kernel
theorem dL_law_470 : decode cL_law 470 = .ok (.ireturn, 1) := by decide +kernel
end
section
/-! The words of the tables that the methods need: one list for all. -/
abbrev wk_cl : List vw_C := [(RX0, TX0, 9), (RX1, TX1, 10), (RX2, TX2, 2), (RX3, TX3, 3), (RX4, TX4, 4), (RX5, TX5, 24)]
abbrev wk_T : Type := ClassId × ClassId × ClassId
abbrev wk_ty (T : wk_T) : List (ClassId × FieldType) := [(T.1, .int), (T.2.1, .object RX1), (T.2.2, .object RX3)]
def wk_B : List Cond := lw_tbl.filter goodWord
theorem wk_inT (i : Nat) {w : Cond} (h : tables_1[i]? = some w) (hg : goodWord w = true) : w ∈ wk_B := List.mem_filter.mpr ⟨List.mem_append_right _ (List.mem_of_getElem? h), hg⟩
theorem wk_inS (i : Nat) {y : MethodName} {n : Nat} (h : lw_privs[i]? = some (y, n)) (hg : goodWord (Cond.selects y.cls y y) = true) : Cond.selects y.cls y y ∈ wk_B := List.mem_filter.mpr ⟨List.mem_append_left _ (List.mem_map.mpr ⟨(y, n), List.mem_of_getElem? h, rfl⟩), hg⟩
def wk_N : List Cond := [Cond.methodLinkNest RX0 68 yX4_within "SnoopingCores", Cond.methodLinkNest RX1 59 yX4_within "SnoopingCores", Cond.methodLinkNest RX2 19 yX4_within "SnoopingCores"]
theorem nl_X0_68 : Cond.methodLinkNest RX0 68 yX4_within "SnoopingCores" ∈ wk_N := List.mem_of_getElem? (i := 0) rfl
theorem nl_X1_59 : Cond.methodLinkNest RX1 59 yX4_within "SnoopingCores" ∈ wk_N := List.mem_of_getElem? (i := 1) rfl
theorem nl_X2_19 : Cond.methodLinkNest RX2 19 yX4_within "SnoopingCores" ∈ wk_N := List.mem_of_getElem? (i := 2) rfl
theorem laX0 : ∀ k, k < 9 → u_lay RX0 TX0 k ∈ wk_B := fun k hk => match k, hk with
  | 0, _ => wk_inT 142 (by decide +kernel) rfl
  | 1, _ => wk_inT 144 (by decide +kernel) rfl
  | 2, _ => wk_inT 146 (by decide +kernel) rfl
  | 3, _ => wk_inT 148 (by decide +kernel) rfl
  | 4, _ => wk_inT 150 (by decide +kernel) rfl
  | 5, _ => wk_inT 152 (by decide +kernel) rfl
  | 6, _ => wk_inT 154 (by decide +kernel) rfl
  | 7, _ => wk_inT 156 (by decide +kernel) rfl
  | 8, _ => wk_inT 158 (by decide +kernel) rfl
  | n + 9, h => absurd h (by omega)
theorem inX0 : ∀ w ∈ u_ws RX0 TX0 9, w ∈ wk_B := fun w h => by
  obtain ⟨k, hk, rfl⟩ := List.mem_map.mp h
  exact laX0 k (List.mem_range.mp hk)
theorem isX0 : Cond.instantiable RX0 9 ∈ wk_B ∧ Cond.initialized RX0 ∈ wk_B := ⟨wk_inT 123 (by decide +kernel) rfl, wk_inT 6 (by decide +kernel) rfl⟩
theorem laX1 : ∀ k, k < 10 → u_lay RX1 TX1 k ∈ wk_B := fun k hk => match k, hk with
  | 0, _ => wk_inT 101 (by decide +kernel) rfl
  | 1, _ => wk_inT 103 (by decide +kernel) rfl
  | 2, _ => wk_inT 105 (by decide +kernel) rfl
  | 3, _ => wk_inT 107 (by decide +kernel) rfl
  | 4, _ => wk_inT 109 (by decide +kernel) rfl
  | 5, _ => wk_inT 111 (by decide +kernel) rfl
  | 6, _ => wk_inT 113 (by decide +kernel) rfl
  | 7, _ => wk_inT 115 (by decide +kernel) rfl
  | 8, _ => wk_inT 117 (by decide +kernel) rfl
  | 9, _ => wk_inT 119 (by decide +kernel) rfl
  | n + 10, h => absurd h (by omega)
theorem inX1 : ∀ w ∈ u_ws RX1 TX1 10, w ∈ wk_B := fun w h => by
  obtain ⟨k, hk, rfl⟩ := List.mem_map.mp h
  exact laX1 k (List.mem_range.mp hk)
theorem isX1 : Cond.instantiable RX1 10 ∈ wk_B ∧ Cond.initialized RX1 ∈ wk_B := ⟨wk_inT 46 (by decide +kernel) rfl, wk_inT 4 (by decide +kernel) rfl⟩
theorem laX2 : ∀ k, k < 2 → u_lay RX2 TX2 k ∈ wk_B := fun k hk => match k, hk with
  | 0, _ => wk_inT 38 (by decide +kernel) rfl
  | 1, _ => wk_inT 40 (by decide +kernel) rfl
  | n + 2, h => absurd h (by omega)
theorem inX2 : ∀ w ∈ u_ws RX2 TX2 2, w ∈ wk_B := fun w h => by
  obtain ⟨k, hk, rfl⟩ := List.mem_map.mp h
  exact laX2 k (List.mem_range.mp hk)
theorem isX2 : Cond.instantiable RX2 2 ∈ wk_B ∧ Cond.initialized RX2 ∈ wk_B := ⟨wk_inT 27 (by decide +kernel) rfl, wk_inT 3 (by decide +kernel) rfl⟩
theorem laX3 : ∀ k, k < 3 → u_lay RX3 TX3 k ∈ wk_B := fun k hk => match k, hk with
  | 0, _ => wk_inT 71 (by decide +kernel) rfl
  | 1, _ => wk_inT 73 (by decide +kernel) rfl
  | 2, _ => wk_inT 75 (by decide +kernel) rfl
  | n + 3, h => absurd h (by omega)
theorem inX3 : ∀ w ∈ u_ws RX3 TX3 3, w ∈ wk_B := fun w h => by
  obtain ⟨k, hk, rfl⟩ := List.mem_map.mp h
  exact laX3 k (List.mem_range.mp hk)
theorem isX3 : Cond.instantiable RX3 3 ∈ wk_B ∧ Cond.initialized RX3 ∈ wk_B := ⟨wk_inT 53 (by decide +kernel) rfl, wk_inT 5 (by decide +kernel) rfl⟩
theorem laX4 : ∀ k, k < 4 → u_lay RX4 TX4 k ∈ wk_B := fun k hk => match k, hk with
  | 0, _ => wk_inT 165 (by decide +kernel) rfl
  | 1, _ => wk_inT 167 (by decide +kernel) rfl
  | 2, _ => wk_inT 169 (by decide +kernel) rfl
  | 3, _ => wk_inT 171 (by decide +kernel) rfl
  | n + 4, h => absurd h (by omega)
theorem inX4 : ∀ w ∈ u_ws RX4 TX4 4, w ∈ wk_B := fun w h => by
  obtain ⟨k, hk, rfl⟩ := List.mem_map.mp h
  exact laX4 k (List.mem_range.mp hk)
theorem isX4 : Cond.instantiable RX4 4 ∈ wk_B ∧ Cond.initialized RX4 ∈ wk_B := ⟨wk_inT 10 (by decide +kernel) rfl, wk_inT 1 (by decide +kernel) rfl⟩
theorem laX5 : ∀ k, k < 24 → u_lay RX5 TX5 k ∈ wk_B := fun k hk => match k, hk with
  | 0, _ => wk_inT 423 (by decide +kernel) rfl
  | 1, _ => wk_inT 425 (by decide +kernel) rfl
  | 2, _ => wk_inT 427 (by decide +kernel) rfl
  | 3, _ => wk_inT 429 (by decide +kernel) rfl
  | 4, _ => wk_inT 431 (by decide +kernel) rfl
  | 5, _ => wk_inT 433 (by decide +kernel) rfl
  | 6, _ => wk_inT 435 (by decide +kernel) rfl
  | 7, _ => wk_inT 437 (by decide +kernel) rfl
  | 8, _ => wk_inT 439 (by decide +kernel) rfl
  | 9, _ => wk_inT 441 (by decide +kernel) rfl
  | 10, _ => wk_inT 443 (by decide +kernel) rfl
  | 11, _ => wk_inT 445 (by decide +kernel) rfl
  | 12, _ => wk_inT 447 (by decide +kernel) rfl
  | 13, _ => wk_inT 449 (by decide +kernel) rfl
  | 14, _ => wk_inT 451 (by decide +kernel) rfl
  | 15, _ => wk_inT 453 (by decide +kernel) rfl
  | 16, _ => wk_inT 455 (by decide +kernel) rfl
  | 17, _ => wk_inT 457 (by decide +kernel) rfl
  | 18, _ => wk_inT 459 (by decide +kernel) rfl
  | 19, _ => wk_inT 461 (by decide +kernel) rfl
  | 20, _ => wk_inT 463 (by decide +kernel) rfl
  | 21, _ => wk_inT 465 (by decide +kernel) rfl
  | 22, _ => wk_inT 467 (by decide +kernel) rfl
  | 23, _ => wk_inT 469 (by decide +kernel) rfl
  | n + 24, h => absurd h (by omega)
theorem inX5 : ∀ w ∈ u_ws RX5 TX5 24, w ∈ wk_B := fun w h => by
  obtain ⟨k, hk, rfl⟩ := List.mem_map.mp h
  exact laX5 k (List.mem_range.mp hk)
theorem isX5 : Cond.instantiable RX5 24 ∈ wk_B ∧ Cond.initialized RX5 ∈ wk_B := ⟨wk_inT 391 (by decide +kernel) rfl, wk_inT 7 (by decide +kernel) rfl⟩
theorem fl_X0_9 : Cond.fieldLink RX0 9 (TX0 2).1 (TX0 2).2.1 (TX0 2).2.2.1 ∈ wk_B := wk_inT 130 (by decide +kernel) rfl
theorem fl_X0_15 : Cond.fieldLink RX0 15 (TX0 4).1 (TX0 4).2.1 (TX0 4).2.2.1 ∈ wk_B := wk_inT 133 (by decide +kernel) rfl
theorem fl_X0_19 : Cond.fieldLink RX0 19 (TX0 5).1 (TX0 5).2.1 (TX0 5).2.2.1 ∈ wk_B := wk_inT 134 (by decide +kernel) rfl
theorem fl_X0_23 : Cond.fieldLink RX0 23 (TX0 6).1 (TX0 6).2.1 (TX0 6).2.2.1 ∈ wk_B := wk_inT 136 (by decide +kernel) rfl
theorem fl_X0_26 : Cond.fieldLink RX0 26 (TX0 7).1 (TX0 7).2.1 (TX0 7).2.2.1 ∈ wk_B := wk_inT 138 (by decide +kernel) rfl
theorem fl_X0_29 : Cond.fieldLink RX0 29 (TX0 8).1 (TX0 8).2.1 (TX0 8).2.2.1 ∈ wk_B := wk_inT 140 (by decide +kernel) rfl
theorem fl_X0_32 : Cond.fieldLink RX0 32 (TX0 0).1 (TX0 0).2.1 (TX0 0).2.2.1 ∈ wk_B := wk_inT 128 (by decide +kernel) rfl
theorem fl_X0_36 : Cond.fieldLink RX0 36 (TX0 1).1 (TX0 1).2.1 (TX0 1).2.2.1 ∈ wk_B := wk_inT 129 (by decide +kernel) rfl
theorem fl_X0_40 : Cond.fieldLink RX0 40 (TX2 0).1 (TX2 0).2.1 (TX2 0).2.2.1 ∈ wk_B := wk_inT 33 (by decide +kernel) rfl
theorem fl_X0_45 : Cond.fieldLink RX0 45 (TX0 3).1 (TX0 3).2.1 (TX0 3).2.2.1 ∈ wk_B := wk_inT 132 (by decide +kernel) rfl
theorem fl_X0_48 : Cond.fieldLink RX0 48 (TX1 4).1 (TX1 4).2.1 (TX1 4).2.2.1 ∈ wk_B := wk_inT 86 (by decide +kernel) rfl
theorem fl_X0_97 : Cond.fieldLink RX0 97 (TX1 8).1 (TX1 8).2.1 (TX1 8).2.2.1 ∈ wk_B := wk_inT 96 (by decide +kernel) rfl
theorem fl_X0_106 : Cond.fieldLink RX0 106 (TX3 2).1 (TX3 2).2.1 (TX3 2).2.2.1 ∈ wk_B := wk_inT 68 (by decide +kernel) rfl
theorem fl_X0_107 : Cond.fieldLink RX0 107 (TX1 0).1 (TX1 0).2.1 (TX1 0).2.2.1 ∈ wk_B := wk_inT 79 (by decide +kernel) rfl
theorem fl_X0_110 : Cond.fieldLink RX0 110 (TX1 9).1 (TX1 9).2.1 (TX1 9).2.2.1 ∈ wk_B := wk_inT 99 (by decide +kernel) rfl
theorem fl_X0_123 : Cond.fieldLink RX0 123 (TX3 0).1 (TX3 0).2.1 (TX3 0).2.2.1 ∈ wk_B := wk_inT 61 (by decide +kernel) rfl
theorem fl_X0_138 : Cond.fieldLink RX0 138 (TX3 1).1 (TX3 1).2.1 (TX3 1).2.2.1 ∈ wk_B := wk_inT 66 (by decide +kernel) rfl
theorem fl_X0_141 : Cond.fieldLink RX0 141 (TX1 6).1 (TX1 6).2.1 (TX1 6).2.2.1 ∈ wk_B := wk_inT 92 (by decide +kernel) rfl
theorem fl_X1_9 : Cond.fieldLink RX1 9 (TX1 3).1 (TX1 3).2.1 (TX1 3).2.2.1 ∈ wk_B := wk_inT 83 (by decide +kernel) rfl
theorem fl_X1_15 : Cond.fieldLink RX1 15 (TX1 5).1 (TX1 5).2.1 (TX1 5).2.2.1 ∈ wk_B := wk_inT 88 (by decide +kernel) rfl
theorem fl_X1_19 : Cond.fieldLink RX1 19 (TX1 6).1 (TX1 6).2.1 (TX1 6).2.2.1 ∈ wk_B := wk_inT 90 (by decide +kernel) rfl
theorem fl_X1_22 : Cond.fieldLink RX1 22 (TX1 7).1 (TX1 7).2.1 (TX1 7).2.2.1 ∈ wk_B := wk_inT 93 (by decide +kernel) rfl
theorem fl_X1_25 : Cond.fieldLink RX1 25 (TX1 8).1 (TX1 8).2.1 (TX1 8).2.2.1 ∈ wk_B := wk_inT 95 (by decide +kernel) rfl
theorem fl_X1_28 : Cond.fieldLink RX1 28 (TX1 9).1 (TX1 9).2.1 (TX1 9).2.2.1 ∈ wk_B := wk_inT 98 (by decide +kernel) rfl
theorem fl_X1_31 : Cond.fieldLink RX1 31 (TX1 0).1 (TX1 0).2.1 (TX1 0).2.2.1 ∈ wk_B := wk_inT 78 (by decide +kernel) rfl
theorem fl_X1_34 : Cond.fieldLink RX1 34 (TX1 1).1 (TX1 1).2.1 (TX1 1).2.2.1 ∈ wk_B := wk_inT 80 (by decide +kernel) rfl
theorem fl_X1_38 : Cond.fieldLink RX1 38 (TX1 2).1 (TX1 2).2.1 (TX1 2).2.2.1 ∈ wk_B := wk_inT 81 (by decide +kernel) rfl
theorem fl_X1_43 : Cond.fieldLink RX1 43 (TX1 4).1 (TX1 4).2.1 (TX1 4).2.2.1 ∈ wk_B := wk_inT 85 (by decide +kernel) rfl
theorem fl_X1_47 : Cond.fieldLink RX1 47 (TX2 0).1 (TX2 0).2.1 (TX2 0).2.2.1 ∈ wk_B := wk_inT 34 (by decide +kernel) rfl
theorem fl_X1_119 : Cond.fieldLink RX1 119 (TX3 0).1 (TX3 0).2.1 (TX3 0).2.2.1 ∈ wk_B := wk_inT 60 (by decide +kernel) rfl
theorem fl_X2_9 : Cond.fieldLink RX2 9 (TX2 0).1 (TX2 0).2.1 (TX2 0).2.2.1 ∈ wk_B := wk_inT 32 (by decide +kernel) rfl
theorem fl_X2_15 : Cond.fieldLink RX2 15 (TX2 1).1 (TX2 1).2.1 (TX2 1).2.2.1 ∈ wk_B := wk_inT 36 (by decide +kernel) rfl
theorem fl_X2_35 : Cond.fieldLink RX2 35 (TX3 0).1 (TX3 0).2.1 (TX3 0).2.2.1 ∈ wk_B := wk_inT 59 (by decide +kernel) rfl
theorem fl_X2_36 : Cond.fieldLink RX2 36 (TX3 2).1 (TX3 2).2.1 (TX3 2).2.2.1 ∈ wk_B := wk_inT 69 (by decide +kernel) rfl
theorem fl_X2_39 : Cond.fieldLink RX2 39 (TX3 1).1 (TX3 1).2.1 (TX3 1).2.2.1 ∈ wk_B := wk_inT 64 (by decide +kernel) rfl
theorem fl_X3_9 : Cond.fieldLink RX3 9 (TX3 1).1 (TX3 1).2.1 (TX3 1).2.2.1 ∈ wk_B := wk_inT 63 (by decide +kernel) rfl
theorem fl_X3_15 : Cond.fieldLink RX3 15 (TX3 2).1 (TX3 2).2.1 (TX3 2).2.2.1 ∈ wk_B := wk_inT 67 (by decide +kernel) rfl
theorem fl_X3_18 : Cond.fieldLink RX3 18 (TX3 0).1 (TX3 0).2.1 (TX3 0).2.2.1 ∈ wk_B := wk_inT 58 (by decide +kernel) rfl
theorem fl_X4_7 : Cond.fieldLink RX4 7 (TX4 3).1 (TX4 3).2.1 (TX4 3).2.2.1 ∈ wk_B := wk_inT 164 (by decide +kernel) rfl
theorem fl_X4_22 : Cond.fieldLink RX4 22 (TX4 0).1 (TX4 0).2.1 (TX4 0).2.2.1 ∈ wk_B := wk_inT 161 (by decide +kernel) rfl
theorem fl_X4_28 : Cond.fieldLink RX4 28 (TX4 1).1 (TX4 1).2.1 (TX4 1).2.2.1 ∈ wk_B := wk_inT 162 (by decide +kernel) rfl
theorem fl_X4_40 : Cond.fieldLink RX4 40 (TX4 2).1 (TX4 2).2.1 (TX4 2).2.2.1 ∈ wk_B := wk_inT 163 (by decide +kernel) rfl
theorem fl_X4_48 : Cond.fieldLink RX4 48 (TX1 2).1 (TX1 2).2.1 (TX1 2).2.2.1 ∈ wk_B := wk_inT 82 (by decide +kernel) rfl
theorem fl_X4_59 : Cond.fieldLink RX4 59 (TX2 1).1 (TX2 1).2.1 (TX2 1).2.2.1 ∈ wk_B := wk_inT 37 (by decide +kernel) rfl
theorem fl_X4_65 : Cond.fieldLink RX4 65 (TX1 6).1 (TX1 6).2.1 (TX1 6).2.2.1 ∈ wk_B := wk_inT 91 (by decide +kernel) rfl
theorem fl_X4_76 : Cond.fieldLink RX4 76 (TX1 4).1 (TX1 4).2.1 (TX1 4).2.2.1 ∈ wk_B := wk_inT 87 (by decide +kernel) rfl
theorem fl_X4_83 : Cond.fieldLink RX4 83 (TX3 1).1 (TX3 1).2.1 (TX3 1).2.2.1 ∈ wk_B := wk_inT 65 (by decide +kernel) rfl
theorem fl_X4_92 : Cond.fieldLink RX4 92 (TX1 3).1 (TX1 3).2.1 (TX1 3).2.2.1 ∈ wk_B := wk_inT 84 (by decide +kernel) rfl
theorem fl_X4_95 : Cond.fieldLink RX4 95 (TX1 5).1 (TX1 5).2.1 (TX1 5).2.2.1 ∈ wk_B := wk_inT 89 (by decide +kernel) rfl
theorem fl_X4_98 : Cond.fieldLink RX4 98 (TX1 7).1 (TX1 7).2.1 (TX1 7).2.2.1 ∈ wk_B := wk_inT 94 (by decide +kernel) rfl
theorem fl_X4_101 : Cond.fieldLink RX4 101 (TX1 8).1 (TX1 8).2.1 (TX1 8).2.2.1 ∈ wk_B := wk_inT 97 (by decide +kernel) rfl
theorem fl_X4_104 : Cond.fieldLink RX4 104 (TX1 9).1 (TX1 9).2.1 (TX1 9).2.2.1 ∈ wk_B := wk_inT 100 (by decide +kernel) rfl
theorem fl_X4_107 : Cond.fieldLink RX4 107 (TX2 0).1 (TX2 0).2.1 (TX2 0).2.2.1 ∈ wk_B := wk_inT 35 (by decide +kernel) rfl
theorem fl_X4_110 : Cond.fieldLink RX4 110 (TX3 2).1 (TX3 2).2.1 (TX3 2).2.2.1 ∈ wk_B := wk_inT 70 (by decide +kernel) rfl
theorem fl_X4_113 : Cond.fieldLink RX4 113 (TX3 0).1 (TX3 0).2.1 (TX3 0).2.2.1 ∈ wk_B := wk_inT 62 (by decide +kernel) rfl
theorem fl_X4_132 : Cond.fieldLink RX4 132 (TX0 5).1 (TX0 5).2.1 (TX0 5).2.2.1 ∈ wk_B := wk_inT 135 (by decide +kernel) rfl
theorem fl_X4_135 : Cond.fieldLink RX4 135 (TX0 6).1 (TX0 6).2.1 (TX0 6).2.2.1 ∈ wk_B := wk_inT 137 (by decide +kernel) rfl
theorem fl_X4_138 : Cond.fieldLink RX4 138 (TX0 7).1 (TX0 7).2.1 (TX0 7).2.2.1 ∈ wk_B := wk_inT 139 (by decide +kernel) rfl
theorem fl_X4_139 : Cond.fieldLink RX4 139 (TX0 8).1 (TX0 8).2.1 (TX0 8).2.2.1 ∈ wk_B := wk_inT 141 (by decide +kernel) rfl
theorem fl_X4_140 : Cond.fieldLink RX4 140 (TX0 2).1 (TX0 2).2.1 (TX0 2).2.2.1 ∈ wk_B := wk_inT 131 (by decide +kernel) rfl
theorem fl_X5_7 : Cond.fieldLink RX5 7 (TX5 5).1 (TX5 5).2.1 (TX5 5).2.2.1 ∈ wk_B := wk_inT 404 (by decide +kernel) rfl
theorem fl_X5_13 : Cond.fieldLink RX5 13 (TX5 6).1 (TX5 6).2.1 (TX5 6).2.2.1 ∈ wk_B := wk_inT 405 (by decide +kernel) rfl
theorem fl_X5_16 : Cond.fieldLink RX5 16 (TX5 8).1 (TX5 8).2.1 (TX5 8).2.2.1 ∈ wk_B := wk_inT 407 (by decide +kernel) rfl
theorem fl_X5_19 : Cond.fieldLink RX5 19 (TX5 9).1 (TX5 9).2.1 (TX5 9).2.2.1 ∈ wk_B := wk_inT 408 (by decide +kernel) rfl
theorem fl_X5_22 : Cond.fieldLink RX5 22 (TX5 10).1 (TX5 10).2.1 (TX5 10).2.2.1 ∈ wk_B := wk_inT 409 (by decide +kernel) rfl
theorem fl_X5_25 : Cond.fieldLink RX5 25 (TX5 11).1 (TX5 11).2.1 (TX5 11).2.2.1 ∈ wk_B := wk_inT 410 (by decide +kernel) rfl
theorem fl_X5_28 : Cond.fieldLink RX5 28 (TX5 12).1 (TX5 12).2.1 (TX5 12).2.2.1 ∈ wk_B := wk_inT 411 (by decide +kernel) rfl
theorem fl_X5_31 : Cond.fieldLink RX5 31 (TX5 13).1 (TX5 13).2.1 (TX5 13).2.2.1 ∈ wk_B := wk_inT 412 (by decide +kernel) rfl
theorem fl_X5_34 : Cond.fieldLink RX5 34 (TX5 14).1 (TX5 14).2.1 (TX5 14).2.2.1 ∈ wk_B := wk_inT 413 (by decide +kernel) rfl
theorem fl_X5_37 : Cond.fieldLink RX5 37 (TX5 15).1 (TX5 15).2.1 (TX5 15).2.2.1 ∈ wk_B := wk_inT 414 (by decide +kernel) rfl
theorem fl_X5_40 : Cond.fieldLink RX5 40 (TX5 16).1 (TX5 16).2.1 (TX5 16).2.2.1 ∈ wk_B := wk_inT 415 (by decide +kernel) rfl
theorem fl_X5_43 : Cond.fieldLink RX5 43 (TX5 22).1 (TX5 22).2.1 (TX5 22).2.2.1 ∈ wk_B := wk_inT 421 (by decide +kernel) rfl
theorem fl_X5_46 : Cond.fieldLink RX5 46 (TX5 23).1 (TX5 23).2.1 (TX5 23).2.2.1 ∈ wk_B := wk_inT 422 (by decide +kernel) rfl
theorem fl_X5_53 : Cond.fieldLink RX5 53 (TX5 0).1 (TX5 0).2.1 (TX5 0).2.2.1 ∈ wk_B := wk_inT 399 (by decide +kernel) rfl
theorem fl_X5_57 : Cond.fieldLink RX5 57 (TX5 1).1 (TX5 1).2.1 (TX5 1).2.2.1 ∈ wk_B := wk_inT 400 (by decide +kernel) rfl
theorem fl_X5_60 : Cond.fieldLink RX5 60 (TX5 2).1 (TX5 2).2.1 (TX5 2).2.2.1 ∈ wk_B := wk_inT 401 (by decide +kernel) rfl
theorem fl_X5_63 : Cond.fieldLink RX5 63 (TX5 3).1 (TX5 3).2.1 (TX5 3).2.2.1 ∈ wk_B := wk_inT 402 (by decide +kernel) rfl
theorem fl_X5_66 : Cond.fieldLink RX5 66 (TX5 4).1 (TX5 4).2.1 (TX5 4).2.2.1 ∈ wk_B := wk_inT 403 (by decide +kernel) rfl
theorem fl_X5_69 : Cond.fieldLink RX5 69 (TX5 18).1 (TX5 18).2.1 (TX5 18).2.2.1 ∈ wk_B := wk_inT 417 (by decide +kernel) rfl
theorem fl_X5_72 : Cond.fieldLink RX5 72 (TX5 20).1 (TX5 20).2.1 (TX5 20).2.2.1 ∈ wk_B := wk_inT 419 (by decide +kernel) rfl
theorem fl_X5_79 : Cond.fieldLink RX5 79 (TX5 7).1 (TX5 7).2.1 (TX5 7).2.2.1 ∈ wk_B := wk_inT 406 (by decide +kernel) rfl
theorem fl_X5_107 : Cond.fieldLink RX5 107 (TX5 17).1 (TX5 17).2.1 (TX5 17).2.2.1 ∈ wk_B := wk_inT 416 (by decide +kernel) rfl
theorem fl_X5_110 : Cond.fieldLink RX5 110 (TX5 19).1 (TX5 19).2.1 (TX5 19).2.2.1 ∈ wk_B := wk_inT 418 (by decide +kernel) rfl
theorem fl_X5_115 : Cond.fieldLink RX5 115 (TX5 21).1 (TX5 21).2.1 (TX5 21).2.2.1 ∈ wk_B := wk_inT 420 (by decide +kernel) rfl
theorem ml_L_9 : Cond.methodLink RL 9 yL_cell ∈ wk_B := wk_inT 387 (by decide +kernel) rfl
theorem ml_L_15 : Cond.methodLink RL 15 yX4_init ∈ wk_B := wk_inT 11 (by decide +kernel) rfl
theorem ml_L_20 : Cond.methodLink RL 20 yX5_init ∈ wk_B := wk_inT 392 (by decide +kernel) rfl
theorem ml_L_21 : Cond.methodLink RL 21 yX4_load ∈ wk_B := wk_inT 174 (by decide +kernel) rfl
theorem ml_L_25 : Cond.methodLink RL 25 yX5_load ∈ wk_B := wk_inT 472 (by decide +kernel) rfl
theorem ml_L_26 : Cond.methodLink RL 26 yX4_poke ∈ wk_B := wk_inT 185 (by decide +kernel) rfl
theorem ml_L_30 : Cond.methodLink RL 30 yX5_poke ∈ wk_B := wk_inT 480 (by decide +kernel) rfl
theorem ml_L_31 : Cond.methodLink RL 31 yX4_step ∈ wk_B := wk_inT 194 (by decide +kernel) rfl
theorem ml_L_35 : Cond.methodLink RL 35 yX5_step ∈ wk_B := wk_inT 488 (by decide +kernel) rfl
theorem ml_L_36 : Cond.methodLink RL 36 yX4_bus ∈ wk_B := wk_inT 271 (by decide +kernel) rfl
theorem ml_L_40 : Cond.methodLink RL 40 yX5_bus ∈ wk_B := wk_inT 516 (by decide +kernel) rfl
theorem ml_L_41 : Cond.methodLink RL 41 yX4_evict ∈ wk_B := wk_inT 344 (by decide +kernel) rfl
theorem ml_L_45 : Cond.methodLink RL 45 yX5_evict ∈ wk_B := wk_inT 547 (by decide +kernel) rfl
theorem ml_L_46 : Cond.methodLink RL 46 yX4_register ∈ wk_B := wk_inT 358 (by decide +kernel) rfl
theorem ml_L_49 : Cond.methodLink RL 49 yX5_register ∈ wk_B := wk_inT 551 (by decide +kernel) rfl
theorem ml_L_50 : Cond.methodLink RL 50 yX4_cpu ∈ wk_B := wk_inT 362 (by decide +kernel) rfl
theorem ml_L_53 : Cond.methodLink RL 53 yX5_cpu ∈ wk_B := wk_inT 555 (by decide +kernel) rfl
theorem ml_L_54 : Cond.methodLink RL 54 yX4_slot ∈ wk_B := wk_inT 366 (by decide +kernel) rfl
theorem ml_L_58 : Cond.methodLink RL 58 yX5_slot ∈ wk_B := wk_inT 559 (by decide +kernel) rfl
theorem ml_L_59 : Cond.methodLink RL 59 yX4_peek ∈ wk_B := wk_inT 370 (by decide +kernel) rfl
theorem ml_L_62 : Cond.methodLink RL 62 yX5_peek ∈ wk_B := wk_inT 563 (by decide +kernel) rfl
theorem ml_L_63 : Cond.methodLink RL 63 yX4_memory ∈ wk_B := wk_inT 379 (by decide +kernel) rfl
theorem ml_L_66 : Cond.methodLink RL 66 yX5_memory ∈ wk_B := wk_inT 567 (by decide +kernel) rfl
theorem ml_L_67 : Cond.methodLink RL 67 yX4_state ∈ wk_B := wk_inT 383 (by decide +kernel) rfl
theorem ml_L_70 : Cond.methodLink RL 70 yX5_state ∈ wk_B := wk_inT 571 (by decide +kernel) rfl
theorem ml_X0_3 : Cond.methodLink RX0 3 objectInit ∈ wk_B := wk_inT 127 (by decide +kernel) rfl
theorem ml_X0_54 : Cond.methodLink RX0 54 yX3_holds ∈ wk_B := wk_inT 321 (by decide +kernel) rfl
theorem ml_X0_60 : Cond.methodLink RX0 60 yX1_indexFor ∈ wk_B := wk_inT 356 (by decide +kernel) rfl
theorem ml_X0_64 : Cond.methodLink RX0 64 yX0_lowestWithRequest ∈ wk_B := wk_inT 279 (by decide +kernel) rfl
theorem ml_X0_72 : Cond.methodLink RX0 72 yX0_phaseAfter ∈ wk_B := wk_inT 284 (by decide +kernel) rfl
theorem ml_X0_76 : Cond.methodLink RX0 76 yX0_begin ∈ wk_B := wk_inT 297 (by decide +kernel) rfl
theorem ml_X0_80 : Cond.methodLink RX0 80 yX1_slotFor ∈ wk_B := wk_inT 288 (by decide +kernel) rfl
theorem ml_X0_84 : Cond.methodLink RX0 84 yX2_giveUp ∈ wk_B := wk_inT 305 (by decide +kernel) rfl
theorem ml_X0_88 : Cond.methodLink RX0 88 yX0_snoop ∈ wk_B := wk_inT 313 (by decide +kernel) rfl
theorem ml_X0_91 : Cond.methodLink RX0 91 yX0_supply ∈ wk_B := wk_inT 331 (by decide +kernel) rfl
theorem ml_X0_94 : Cond.methodLink RX0 94 yX0_end ∈ wk_B := wk_inT 340 (by decide +kernel) rfl
theorem ml_X0_98 : Cond.methodLink RX0 98 yX0_mustWriteBack ∈ wk_B := wk_inT 289 (by decide +kernel) rfl
theorem ml_X0_102 : Cond.methodLink RX0 102 yX3_isNewerThanMemory ∈ wk_B := wk_inT 293 (by decide +kernel) rfl
theorem ml_X0_113 : Cond.methodLink RX0 113 yX1_forgetRequest ∈ wk_B := wk_inT 301 (by decide +kernel) rfl
theorem ml_X0_116 : Cond.methodLink RX0 116 yX2_readLine ∈ wk_B := wk_inT 317 (by decide +kernel) rfl
theorem ml_X0_120 : Cond.methodLink RX0 120 yX0_lookOn ∈ wk_B := wk_inT 322 (by decide +kernel) rfl
theorem ml_X0_126 : Cond.methodLink RX0 126 arraycopyName ∈ wk_B := wk_inT 326 (by decide +kernel) rfl
theorem ml_X0_132 : Cond.methodLink RX0 132 yX3_letOthersRead ∈ wk_B := wk_inT 327 (by decide +kernel) rfl
theorem ml_X0_135 : Cond.methodLink RX0 135 yX3_take ∈ wk_B := wk_inT 335 (by decide +kernel) rfl
theorem ml_X1_3 : Cond.methodLink RX1 3 objectInit ∈ wk_B := wk_inT 50 (by decide +kernel) rfl
theorem ml_X1_52 : Cond.methodLink RX1 52 yX3_init ∈ wk_B := wk_inT 54 (by decide +kernel) rfl
theorem ml_X1_55 : Cond.methodLink RX1 55 yX1_indexFor ∈ wk_B := wk_inT 243 (by decide +kernel) rfl
theorem ml_X1_63 : Cond.methodLink RX1 63 yX1_tryInstruction ∈ wk_B := wk_inT 203 (by decide +kernel) rfl
theorem ml_X1_66 : Cond.methodLink RX1 66 yX1_fieldA ∈ wk_B := wk_inT 207 (by decide +kernel) rfl
theorem ml_X1_69 : Cond.methodLink RX1 69 yX1_fieldB ∈ wk_B := wk_inT 210 (by decide +kernel) rfl
theorem ml_X1_72 : Cond.methodLink RX1 72 yX1_fieldC ∈ wk_B := wk_inT 213 (by decide +kernel) rfl
theorem ml_X1_75 : Cond.methodLink RX1 75 yX1_fieldN ∈ wk_B := wk_inT 216 (by decide +kernel) rfl
theorem ml_X1_78 : Cond.methodLink RX1 78 yX1_operation ∈ wk_B := wk_inT 219 (by decide +kernel) rfl
theorem ml_X1_81 : Cond.methodLink RX1 81 yX1_finish ∈ wk_B := wk_inT 222 (by decide +kernel) rfl
theorem ml_X1_84 : Cond.methodLink RX1 84 yX1_answer ∈ wk_B := wk_inT 226 (by decide +kernel) rfl
theorem ml_X1_88 : Cond.methodLink RX1 88 yX1_tryAccess ∈ wk_B := wk_inT 230 (by decide +kernel) rfl
theorem ml_X1_91 : Cond.methodLink RX1 91 yX2_has ∈ wk_B := wk_inT 234 (by decide +kernel) rfl
theorem ml_X1_95 : Cond.methodLink RX1 95 yX2_lineOf ∈ wk_B := wk_inT 235 (by decide +kernel) rfl
theorem ml_X1_98 : Cond.methodLink RX1 98 yX1_slotFor ∈ wk_B := wk_inT 239 (by decide +kernel) rfl
theorem ml_X1_102 : Cond.methodLink RX1 102 yX3_holds ∈ wk_B := wk_inT 247 (by decide +kernel) rfl
theorem ml_X1_105 : Cond.methodLink RX1 105 yX3_maySetWords ∈ wk_B := wk_inT 251 (by decide +kernel) rfl
theorem ml_X1_109 : Cond.methodLink RX1 109 yX2_offsetOf ∈ wk_B := wk_inT 255 (by decide +kernel) rfl
theorem ml_X1_112 : Cond.methodLink RX1 112 yX1_access ∈ wk_B := wk_inT 259 (by decide +kernel) rfl
theorem ml_X1_116 : Cond.methodLink RX1 116 yX1_ask ∈ wk_B := wk_inT 267 (by decide +kernel) rfl
theorem ml_X1_122 : Cond.methodLink RX1 122 yX3_setWord ∈ wk_B := wk_inT 263 (by decide +kernel) rfl
theorem ml_X2_3 : Cond.methodLink RX2 3 objectInit ∈ wk_B := wk_inT 31 (by decide +kernel) rfl
theorem ml_X2_23 : Cond.methodLink RX2 23 arraycopyName ∈ wk_B := wk_inT 310 (by decide +kernel) rfl
theorem ml_X2_29 : Cond.methodLink RX2 29 yX3_isNewerThanMemory ∈ wk_B := wk_inT 309 (by decide +kernel) rfl
theorem ml_X3_3 : Cond.methodLink RX3 3 objectInit ∈ wk_B := wk_inT 57 (by decide +kernel) rfl
theorem ml_X3_22 : Cond.methodLink RX3 22 arraycopyName ∈ wk_B := wk_inT 339 (by decide +kernel) rfl
theorem ml_X4_1 : Cond.methodLink RX4 1 objectInit ∈ wk_B := wk_inT 14 (by decide +kernel) rfl
theorem ml_X4_13 : Cond.methodLink RX4 13 yX4_limited ∈ wk_B := wk_inT 17 (by decide +kernel) rfl
theorem ml_X4_19 : Cond.methodLink RX4 19 yX2_init ∈ wk_B := wk_inT 28 (by decide +kernel) rfl
theorem ml_X4_32 : Cond.methodLink RX4 32 yX1_init ∈ wk_B := wk_inT 47 (by decide +kernel) rfl
theorem ml_X4_37 : Cond.methodLink RX4 37 yX0_init ∈ wk_B := wk_inT 124 (by decide +kernel) rfl
theorem ml_X4_44 : Cond.methodLink RX4 44 yX4_hasCore ∈ wk_B := wk_inT 178 (by decide +kernel) rfl
theorem ml_X4_52 : Cond.methodLink RX4 52 yX4_within ∈ wk_B := wk_inT 182 (by decide +kernel) rfl
theorem ml_X4_56 : Cond.methodLink RX4 56 yX2_has ∈ wk_B := wk_inT 189 (by decide +kernel) rfl
theorem ml_X4_62 : Cond.methodLink RX4 62 yX1_goOn ∈ wk_B := wk_inT 198 (by decide +kernel) rfl
theorem ml_X4_69 : Cond.methodLink RX4 69 yX0_doNextPhase ∈ wk_B := wk_inT 275 (by decide +kernel) rfl
theorem ml_X4_73 : Cond.methodLink RX4 73 yX4_hasSlot ∈ wk_B := wk_inT 348 (by decide +kernel) rfl
theorem ml_X4_80 : Cond.methodLink RX4 80 yX0_needs ∈ wk_B := wk_inT 352 (by decide +kernel) rfl
theorem ml_X4_88 : Cond.methodLink RX4 88 yX2_giveUp ∈ wk_B := wk_inT 357 (by decide +kernel) rfl
theorem ml_X4_114 : Cond.methodLink RX4 114 yX2_lineOf ∈ wk_B := wk_inT 374 (by decide +kernel) rfl
theorem ml_X4_118 : Cond.methodLink RX4 118 yX1_slotFor ∈ wk_B := wk_inT 375 (by decide +kernel) rfl
theorem ml_X4_122 : Cond.methodLink RX4 122 yX3_holds ∈ wk_B := wk_inT 376 (by decide +kernel) rfl
theorem ml_X4_125 : Cond.methodLink RX4 125 yX3_isNewerThanMemory ∈ wk_B := wk_inT 377 (by decide +kernel) rfl
theorem ml_X4_129 : Cond.methodLink RX4 129 yX2_offsetOf ∈ wk_B := wk_inT 378 (by decide +kernel) rfl
theorem ml_X4_143 : Cond.methodLink RX4 143 Lib.Math.min.name ∈ wk_B := wk_inT 20 (by decide +kernel) rfl
theorem ml_X4_149 : Cond.methodLink RX4 149 Lib.Math.max.name ∈ wk_B := wk_inT 23 (by decide +kernel) rfl
theorem ml_X5_1 : Cond.methodLink RX5 1 objectInit ∈ wk_B := wk_inT 395 (by decide +kernel) rfl
theorem ml_X5_49 : Cond.methodLink RX5 49 yX5_clamp ∈ wk_B := wk_inT 396 (by decide +kernel) rfl
theorem ml_X5_75 : Cond.methodLink RX5 75 yX5_isCpu ∈ wk_B := wk_inT 476 (by decide +kernel) rfl
theorem ml_X5_83 : Cond.methodLink RX5 83 yX5_isAddress ∈ wk_B := wk_inT 484 (by decide +kernel) rfl
theorem ml_X5_86 : Cond.methodLink RX5 86 yX5_slotOf ∈ wk_B := wk_inT 512 (by decide +kernel) rfl
theorem ml_X5_90 : Cond.methodLink RX5 90 yX5_trap ∈ wk_B := wk_inT 496 (by decide +kernel) rfl
theorem ml_X5_94 : Cond.methodLink RX5 94 yX5_stateOf ∈ wk_B := wk_inT 508 (by decide +kernel) rfl
theorem ml_X5_97 : Cond.methodLink RX5 97 yX5_done ∈ wk_B := wk_inT 500 (by decide +kernel) rfl
theorem ml_X5_100 : Cond.methodLink RX5 100 yX5_answer ∈ wk_B := wk_inT 492 (by decide +kernel) rfl
theorem ml_X5_103 : Cond.methodLink RX5 103 yX5_move ∈ wk_B := wk_inT 504 (by decide +kernel) rfl
theorem ml_X5_113 : Cond.methodLink RX5 113 yX5_phase ∈ wk_B := wk_inT 524 (by decide +kernel) rfl
theorem ml_X5_118 : Cond.methodLink RX5 118 yX5_isDirty ∈ wk_B := wk_inT 532 (by decide +kernel) rfl
theorem ml_X5_121 : Cond.methodLink RX5 121 yX5_writeBack ∈ wk_B := wk_inT 535 (by decide +kernel) rfl
theorem ml_X5_125 : Cond.methodLink RX5 125 yX5_empty ∈ wk_B := wk_inT 539 (by decide +kernel) rfl
theorem ml_X5_128 : Cond.methodLink RX5 128 yX5_take ∈ wk_B := wk_inT 520 (by decide +kernel) rfl
theorem ml_X5_132 : Cond.methodLink RX5 132 yX5_supply ∈ wk_B := wk_inT 528 (by decide +kernel) rfl
theorem ml_X5_135 : Cond.methodLink RX5 135 yX5_snoop ∈ wk_B := wk_inT 543 (by decide +kernel) rfl
theorem cl_L_7 : Cond.classLink RL 7 RX4 ∈ wk_B := wk_inT 9 (by decide +kernel) rfl
theorem cl_L_18 : Cond.classLink RL 18 RX5 ∈ wk_B := wk_inT 390 (by decide +kernel) rfl
theorem cl_X1_41 : Cond.classLink RX1 41 RX3 ∈ wk_B := wk_inT 51 (by decide +kernel) rfl
theorem cl_X4_17 : Cond.classLink RX4 17 RX2 ∈ wk_B := wk_inT 26 (by decide +kernel) rfl
theorem cl_X4_26 : Cond.classLink RX4 26 RX1 ∈ wk_B := wk_inT 44 (by decide +kernel) rfl
theorem cl_X4_35 : Cond.classLink RX4 35 RX0 ∈ wk_B := wk_inT 122 (by decide +kernel) rfl
theorem ac_int : Cond.arrayClass .int ∈ wk_B := wk_inT 43 (by decide +kernel) rfl
theorem ok_object : Cond.instanceMethod objectInit ∈ wk_B ∧ Cond.code objectInit ⟨#[0xb1]⟩ 1 none ∈ wk_B := ⟨wk_inT 15 (by decide +kernel) rfl, wk_inT 16 (by decide +kernel) rfl⟩
theorem ok_arraycopy : Cond.native arraycopyName ∈ wk_B ∧ Cond.static arraycopyName ∈ wk_B ∧ Cond.initialized "java/lang/System" ∈ wk_B := ⟨wk_inT 312 (by decide +kernel) rfl, wk_inT 311 (by decide +kernel) rfl, wk_inT 8 (by decide +kernel) rfl⟩
theorem ok_max : Cond.static Lib.Math.max.name ∈ wk_B ∧ Cond.initialized "java/lang/Math" ∈ wk_B ∧ Cond.code Lib.Math.max.name Lib.Math.max.code 2 (some .int) ∈ wk_B := ⟨wk_inT 24 (by decide +kernel) rfl, wk_inT 2 (by decide +kernel) rfl, wk_inT 25 (by decide +kernel) rfl⟩
theorem ok_min : Cond.static Lib.Math.min.name ∈ wk_B ∧ Cond.initialized "java/lang/Math" ∈ wk_B ∧ Cond.code Lib.Math.min.name Lib.Math.min.code 2 (some .int) ∈ wk_B := ⟨wk_inT 21 (by decide +kernel) rfl, wk_inT 2 (by decide +kernel) rfl, wk_inT 22 (by decide +kernel) rfl⟩
end
section
/-! Worlds by codes: a code (three numbers) names a cell; 'ad' says where it lies, 'sh' what it is (its shape), 'sg' which ints it holds. Fixed shape, moving ints. -/
abbrev wk_K3 : Type := Nat × Nat × Nat
abbrev wk_L : Type := Nat → Option (Option wk_K3)
abbrev wk_X : Type := ((ClassId × Nat) ⊕ (ClassId × Nat × (Nat → Option wk_K3))) ⊕ (Nat × Nat × wk_L)
abbrev wk_Sh : Type := wk_K3 → Option wk_X
abbrev wk_Sg : Type := wk_K3 → Nat → Int32
def wk_fv (ad : wk_K3 → Nat) (lk : wk_L) (f : Nat → Int32) (k : Nat) : Value := match lk k with
  | some (some κ) => .ref (ad κ)
  | some none => .null
  | none => .int (f k)
def wk_cell (ad : wk_K3 → Nat) (f : Nat → Int32) (x : wk_X) : va_E := match x with
  | .inl (.inl (cA, n)) => .inl (cA, n, .inl f)
  | .inl (.inr (cA, n, lk)) => .inl (cA, n, .inr (.inr (.inr (.inr (fun j => (lk j).map ad)))))
  | .inr (ci, N, lk) => .inr (ci, (List.range N).map (wk_fv ad lk f))
def wk_cp (sp dp n : Int32) (n0 n1 : Nat) : Prop := ¬ sp < 0 ∧ ¬ dp < 0 ∧ ¬ n < 0 ∧ sp.toNatClampNeg + n.toNatClampNeg ≤ n0 ∧ dp.toNatClampNeg + n.toNatClampNeg ≤ n1
def wk_su (sg : wk_Sg) (κ : wk_K3) (f : Nat → Int32) : wk_Sg := fun j => if j = κ then f else sg j
def wk_up (sg : wk_Sg) (κ : wk_K3) (k : Nat) (x : Int32) : wk_Sg := wk_su sg κ (upd (sg κ) k x)
theorem wk_su_self (sg : wk_Sg) (κ : wk_K3) (f : Nat → Int32) : wk_su sg κ f κ = f := by simp [wk_su]
theorem wk_su_ne (sg : wk_Sg) {κ j : wk_K3} (f : Nat → Int32) (h : j ≠ κ) : wk_su sg κ f j = sg j := by simp [wk_su, h]
/-- a cell's references -/
def wk_to (x : wk_X) (κ : wk_K3) : Prop := match x with
  | .inl (.inl _) => False
  | .inl (.inr (_, _, lk)) => ∃ j, lk j = some κ
  | .inr (_, _, lk) => ∃ k, lk k = some (some κ)
def wk_H (D : va_G) (z0 : Nat) (ad : wk_K3 → Nat) (sh : wk_Sh) (sg : wk_Sg) (H : Heap) : Prop :=
  ∃ ws : va_W, va_P D wk_cl ws H ∧ va_D (fun q => z0 ≤ q) ws ∧ (∀ κ x, sh κ = some x → (ad κ, wk_cell ad (sg κ) x) ∈ ws) ∧ (∀ κ κ' x x', sh κ = some x → sh κ' = some x' → ad κ = ad κ' → κ = κ') ∧ ∀ κ x κ', sh κ = some x → wk_to x κ' → ∃ x', sh κ' = some x'
theorem wk_fs_get {ad : wk_K3 → Nat} {lk : wk_L} {f : Nat → Int32} {N k : Nat} (hk : k < N) : ((List.range N).map (wk_fv ad lk f))[k]? = some (wk_fv ad lk f k) := by
  rw [List.getElem?_map, List.getElem?_range hk]; rfl
theorem wk_fs_set {ad : wk_K3 → Nat} {lk : wk_L} {f : Nat → Int32} {N k : Nat} {x : Int32} (hk : k < N) (hlk : lk k = none) : ((List.range N).map (wk_fv ad lk f)).set k (.int x) = (List.range N).map (wk_fv ad lk (upd f k x)) := by
  apply List.ext_getElem?
  intro j
  by_cases hj : j = k
  · subst hj
    rw [List.getElem?_set_self (by simpa using hk), wk_fs_get hk]
    simp [wk_fv, hlk, upd]
  · rw [List.getElem?_set_ne (Ne.symm hj), List.getElem?_map, List.getElem?_map]
    cases hr : (List.range N)[j]? with
    | none => rfl
    | some i =>
      have hi : i = j := by
        have := (List.getElem?_eq_some_iff.mp hr).2
        simpa using this.symm
      subst hi
      have e : upd f k x i = f i := by simp [upd, hj]
      simp only [Option.map_some, wk_fv, e]
/-- a cell is replaced: the others stay -/
theorem wk_H.set {D : va_G} {z0 p : Nat} {ad : wk_K3 → Nat} {sh : wk_Sh} {sg : wk_Sg} {ws : va_W} {H1 : Heap} {κ : wk_K3} {x : wk_X} {f : Nat → Int32} {e0 : va_E}
    (hm : ∀ κ x, sh κ = some x → (ad κ, wk_cell ad (sg κ) x) ∈ ws) (hi : ∀ κ κ' x x', sh κ = some x → sh κ' = some x' → ad κ = ad κ' → κ = κ') (hcl : ∀ κ x κ', sh κ = some x → wk_to x κ' → ∃ x', sh κ' = some x') (hx : sh κ = some x) (hp : ws[p]? = some (ad κ, e0))
    (hP : va_P D wk_cl (ws.set p (ad κ, wk_cell ad f x)) H1) (hD : va_D (fun q => z0 ≤ q) (ws.set p (ad κ, wk_cell ad f x))) : wk_H D z0 ad sh (wk_su sg κ f) H1 := by
  have hl := (List.getElem?_eq_some_iff.mp hp).1
  refine ⟨_, hP, hD, fun κ' x' h => ?_, hi, hcl⟩
  by_cases hk : κ' = κ
  · subst hk
    rw [hx] at h
    cases h
    rw [wk_su_self]
    exact List.mem_of_getElem? (List.getElem?_set_self hl)
  · rw [wk_su_ne _ _ hk]
    obtain ⟨i, hi'⟩ := List.getElem?_of_mem (hm κ' x' h)
    have hip : i ≠ p := by
      intro q
      subst q
      rw [hp] at hi'
      have h2 := congrArg Prod.fst (Option.some.inj hi')
      exact hk (hi κ' κ x' x h hx h2.symm)
    exact List.mem_of_getElem? (i := i) (by rw [List.getElem?_set_ne (Ne.symm hip)]; exact hi')
theorem wk_H.at {D : va_G} {z0 : Nat} {ad : wk_K3 → Nat} {sh : wk_Sh} {sg : wk_Sg} {H : Heap} {κ : wk_K3} {x : wk_X} (h : wk_H D z0 ad sh sg H) (hx : sh κ = some x) : va_P D wk_cl [(ad κ, wk_cell ad (sg κ) x)] H := by
  obtain ⟨ws, hP, -, hm, -, -⟩ := h
  obtain ⟨i, hi⟩ := List.getElem?_of_mem (hm κ x hx)
  exact hP.sub [i] (by simp [hi])
/-- what a walk holds fast: the machine, the code, the class, the words, the tables -/
def wk_K (D : va_G) (T : wk_T) (U : State) : Prop := va_K D wk_cl (wk_ty T) U ∧ (∀ w ∈ wk_N, va_Nw w U) ∧ va_AO RX1 U ∧ va_AO RX3 U
abbrev wk_C (p : Program) (m : MethodId) (c : Code) (cc : ByteArray) (nL : Nat) (s : State) (args : Array Value) (own : String) (D : va_G) (T : wk_T) : Prop := CallFix p m c cc nL s args wk_B own ∧ wk_K D T s
abbrev wk_A (z0 : Nat) : Nat → Prop := fun q => z0 ≤ q
def wk_Pre (D : va_G) (T : wk_T) (z0 : Nat) (ad : wk_K3 → Nat) (sh : wk_Sh) (sg : wk_Sg) (U : State) : Prop := z0 ≤ U.heap.size ∧ wk_H D z0 ad sh sg U.heap ∧ wk_K D T U
theorem wk_K.moved {D : va_G} {T : wk_T} {u U : State} (hW : u.WarmedH U.vm) (h : wk_K D T u) : wk_K D T U := by
  refine ⟨va_K.moved hW.alike h.1, fun w hw => ?_, va_AO.moved hW.alike h.2.2.1, va_AO.moved hW.alike h.2.2.2⟩
  have h2 := h.2.1 w hw
  simp only [wk_N, List.mem_cons, List.not_mem_nil, or_false] at hw
  rcases hw with rfl | rfl | rfl <;> exact va_Nw.warmM hW h2
theorem wk_K.same {D : va_G} {T : wk_T} {u U : State} (hW : u.vm = U.vm) (h : wk_K D T u) : wk_K D T U := by
  have ha : u.vm.Alike U.vm := by rw [hW]; exact Vm.Alike.refl _
  refine ⟨va_K.moved ha h.1, fun w hw => ?_, va_AO.moved ha h.2.2.1, va_AO.moved ha h.2.2.2⟩
  have h2 := h.2.1 w hw
  simp only [wk_N, List.mem_cons, List.not_mem_nil, or_false] at hw
  rcases hw with rfl | rfl | rfl <;> exact va_Nw.same rfl hW h2
theorem wk_good {w : Cond} (h : w ∈ wk_B) : GoodIn wk_B (w :: wk_B) := by
  have g : ∀ v ∈ wk_B, v ∈ wk_B ∧ ((v.onTables && v.keeps) = true ∨ ∃ ty, v = .arrayClass ty) := fun v hv => ⟨hv, good_of_word (List.mem_filter.mp hv).2⟩
  intro v hv
  rcases List.mem_cons.mp hv with rfl | hv
  · exact g _ h
  · exact g _ hv
def wk_OkV (C : String) (y : MethodName) (bytes : ByteArray) (maxL : Nat) (ret : Option FieldType) (n : Nat) : Prop := Cond.code y bytes maxL ret ∈ wk_B ∧ Cond.initialized y.cls ∈ wk_B ∧ Cond.instanceMethod y ∈ wk_B ∧ Cond.selects C y y ∈ wk_B ∧ (y.cls ≠ "java/lang/invoke/MethodHandle" ∧ y.cls ≠ "java/lang/invoke/VarHandle" ∧ (parseMethodDescriptor y.desc).map (fun d => d.parameters.length) = some n)
def wk_OkS (y : MethodName) (bytes : ByteArray) (maxL : Nat) (ret : Option FieldType) (n : Nat) : Prop := Cond.code y bytes maxL ret ∈ wk_B ∧ Cond.initialized y.cls ∈ wk_B ∧ Cond.static y ∈ wk_B ∧ (y.cls ≠ "java/lang/invoke/MethodHandle" ∧ y.cls ≠ "java/lang/invoke/VarHandle" ∧ (parseMethodDescriptor y.desc).map (fun d => d.parameters.length) = some n)
abbrev wk_rm (fr lo : Nat) : Room := { frames := fr, cells := 0, slots := 0, locals := lo }
/-- contracts of methods that make nothing: an int, nothing, a cell of the world -/
abbrev wk_Qi (D : va_G) (z0 : Nat) (ad : wk_K3 → Nat) (sh : wk_Sh) (r : Int32) (sg' : wk_Sg) : Array Value → State → Outcome → State → Prop := va_Qi (fun x (_ : Unit) => x = r) (fun _ t => wk_H D z0 ad sh sg' t.heap) (wk_A z0)
abbrev wk_Qv (D : va_G) (z0 : Nat) (ad : wk_K3 → Nat) (sh : wk_Sh) (sg' : wk_Sg) : Array Value → State → Outcome → State → Prop := va_Qv (fun (_ : Unit) => True) (fun _ t => wk_H D z0 ad sh sg' t.heap) (wk_A z0)
abbrev wk_Qr (D : va_G) (z0 : Nat) (ad : wk_K3 → Nat) (sh : wk_Sh) (κ' : wk_K3) (sg' : wk_Sg) : Array Value → State → Outcome → State → Prop := va_Qr (fun (_ : Unit) => True) (fun _ ra t => ra = ad κ' ∧ wk_H D z0 ad sh sg' t.heap) (wk_A z0)
abbrev wk_Mi (l : Launch) (y : MethodName) (bytes : ByteArray) (maxL : Nat) (ret : Option FieldType) (fr lo : Nat) (D : va_G) (T : wk_T) (z0 : Nat) (ad : wk_K3 → Nat) (sh : wk_Sh) (av : List Value) (sg : wk_Sg) (r : Int32) (sg' : wk_Sg) : Prop :=
  Met l y (Cond.code y bytes maxL ret :: wk_B) (wk_rm fr lo) (va_Pc av (wk_Pre D T z0 ad sh sg)) (wk_Qi D z0 ad sh r sg') 0 0 (wk_A z0)
abbrev wk_Mv (l : Launch) (y : MethodName) (bytes : ByteArray) (maxL : Nat) (ret : Option FieldType) (fr lo : Nat) (D : va_G) (T : wk_T) (z0 : Nat) (ad : wk_K3 → Nat) (sh : wk_Sh) (av : List Value) (sg : wk_Sg) (sg' : wk_Sg) : Prop :=
  Met l y (Cond.code y bytes maxL ret :: wk_B) (wk_rm fr lo) (va_Pc av (wk_Pre D T z0 ad sh sg)) (wk_Qv D z0 ad sh sg') 0 0 (wk_A z0)
abbrev wk_Mr (l : Launch) (y : MethodName) (bytes : ByteArray) (maxL : Nat) (ret : Option FieldType) (fr lo : Nat) (D : va_G) (T : wk_T) (z0 : Nat) (ad : wk_K3 → Nat) (sh : wk_Sh) (av : List Value) (sg : wk_Sg) (κ' : wk_K3) (sg' : wk_Sg) : Prop :=
  Met l y (Cond.code y bytes maxL ret :: wk_B) (wk_rm fr lo) (va_Pc av (wk_Pre D T z0 ad sh sg)) (wk_Qr D z0 ad sh κ' sg') 0 0 (wk_A z0)
section WKR
variable {p : Program} {l : Launch} {e : Env} {R : Room} {s : State} {m : MethodId} {args : Array Value} {below : List Frame} {meth : Method} {c : Code} {H : Heap} {locs : List Loc} {cells slots : Nat} {Q : State → Prop}
variable {cc : ByteArray} {pc nL : Nat} {ls : Array Slot} {rest : List Value} {D : va_G} {T : wk_T} {H0 : Heap} {z0 : Nat} {ad : wk_K3 → Nat} {sh : wk_Sh} {sg : wk_Sg} {own : String}
/-- getfield, an int -/
theorem wk_geti (X : wk_C p m c cc nL s args own D T) (hH : wk_H D z0 ad sh sg H) {C : String} {TT : u_T} {N ci index : Nat} {lk : wk_L} (κ : wk_K3) (k : Nat) (he : sh κ = some (.inr (ci, N, lk))) (hc : wk_cl[ci]? = some (C, TT, N)) (hk : k < N) (hlk : lk k = none) (hin : ∀ w ∈ u_ws C TT N, w ∈ wk_B) (hlink : Cond.fieldLink own index (TT k).1 (TT k).2.1 (TT k).2.2.1 ∈ wk_B) (hdg : decode cc pc = .ok (.getfield index, 3))
    (kk : W p l e R s m args below meth c H locs cells slots Q (F0 m (pc + 3) ls (.int (sg κ k) :: rest))) : W p l e R s m args below meth c H locs cells slots Q (F0 m pc ls (.ref (ad κ) :: rest)) := by
  obtain ⟨⟨hx, hb, -, hown, hts⟩, hK, -⟩ := X
  exact va_get (D := D) (v := .int (sg κ k)) hx hb hts hin hown hK (hH.at he) 0 rfl hc k hk (hts _ hlink) (fun _ h => h) (by rw [wk_fs_get hk]; simp only [wk_fv, hlk]) hdg kk
/-- getfield, a reference that is not null -/
theorem wk_getr (X : wk_C p m c cc nL s args own D T) (hH : wk_H D z0 ad sh sg H) {C : String} {TT : u_T} {N ci index : Nat} {lk : wk_L} (κ : wk_K3) (k : Nat) (κ' : wk_K3) (he : sh κ = some (.inr (ci, N, lk))) (hc : wk_cl[ci]? = some (C, TT, N)) (hk : k < N) (hlk : lk k = some (some κ')) (hin : ∀ w ∈ u_ws C TT N, w ∈ wk_B) (hlink : Cond.fieldLink own index (TT k).1 (TT k).2.1 (TT k).2.2.1 ∈ wk_B) (hdg : decode cc pc = .ok (.getfield index, 3))
    (kk : W p l e R s m args below meth c H locs cells slots Q (F0 m (pc + 3) ls (.ref (ad κ') :: rest))) : W p l e R s m args below meth c H locs cells slots Q (F0 m pc ls (.ref (ad κ) :: rest)) := by
  obtain ⟨⟨hx, hb, -, hown, hts⟩, hK, -⟩ := X
  exact va_get (D := D) (v := .ref (ad κ')) hx hb hts hin hown hK (hH.at he) 0 rfl hc k hk (hts _ hlink) (fun _ h => h) (by rw [wk_fs_get hk]; simp only [wk_fv, hlk]) hdg kk
/-- putfield of an int-like field that is not final -/
theorem wk_puti (X : wk_C p m c cc nL s args own D T) (hH : wk_H D z0 ad sh sg H) (hS : va_S (wk_A z0) H0 H locs) {C : String} {TT : u_T} {N ci index : Nat} {lk : wk_L} (κ : wk_K3) (k : Nat) {ty0 : Nat → FieldType} (hty : ∀ k, k < N → parseFieldDescriptor (TT k).2.2.1 = some (ty0 k)) (hnm : ∀ a, a < N → ∀ b, b < N → a ≠ b → (TT a).2.1 ≠ (TT b).2.1) (he : sh κ = some (.inr (ci, N, lk))) (hc : wk_cl[ci]? = some (C, TT, N)) (hk : k < N) (hlk : lk k = none) (hin : ∀ w ∈ u_ws C TT N, w ∈ wk_B) (hlink : Cond.fieldLink own index (TT k).1 (TT k).2.1 (TT k).2.2.1 ∈ wk_B) (hfin : (TT k).2.2.2 = false) {x : Int32} (hn : narrow (ty0 k) (.int x) = .int x) (hfit : fits (ty0 k) (.int x) = true) (hdg : decode cc pc = .ok (.putfield index, 3))
    (kk : ∀ (H1 : Heap) (locs1 : List Loc), wk_H D z0 ad sh (wk_up sg κ k x) H1 → va_S (wk_A z0) H0 H1 locs1 → W p l e R s m args below meth c H1 locs1 cells slots Q (F0 m (pc + 3) ls rest)) : W p l e R s m args below meth c H locs cells slots Q (F0 m pc ls (.int x :: .ref (ad κ) :: rest)) := by
  obtain ⟨⟨hx, hb, -, hown, hts⟩, hK, -⟩ := X
  obtain ⟨ws, hP, hD, hm, hi, hcl⟩ := hH
  obtain ⟨q, hq⟩ := List.getElem?_of_mem (hm κ _ he)
  refine va_put (D := D) hx hb hts hin ty0 hty hnm hown hK hP hD hS q hq hc k hk (hts _ hlink) (fun _ h => h) hfin (hty k hk) hn hfit (by simpa using hk) hdg (fun H1 locs1 hP1 hD1 hS1 => kk H1 locs1 ?_ hS1)
  rw [wk_fs_set hk hlk] at hP1 hD1
  exact wk_H.set hm hi hcl he hq hP1 hD1
/-- an element of an int array is read -/
theorem wk_iald (X : wk_C p m c cc nL s args own D T) (hH : wk_H D z0 ad sh sg H) {n : Nat} (κ : wk_K3) (he : sh κ = some (.inl (.inl (T.1, n)))) {i : Int32} (hin : vp_in i n) (hdg : decode cc pc = .ok (.iaload, 1))
    (kk : W p l e R s m args below meth c H locs cells slots Q (F0 m (pc + 1) ls (.int (sg κ i.toNatClampNeg) :: rest))) : W p l e R s m args below meth c H locs cells slots Q (F0 m pc ls (.int i :: .ref (ad κ) :: rest)) :=
  va_iald X.1.1 X.1.2.1 X.2.1 (hH.at he) 0 0 rfl rfl hin hdg kk
/-- and written -/
theorem wk_iast (X : wk_C p m c cc nL s args own D T) (hH : wk_H D z0 ad sh sg H) (hS : va_S (wk_A z0) H0 H locs) {n : Nat} (κ : wk_K3) (he : sh κ = some (.inl (.inl (T.1, n)))) {i x : Int32} (hin : vp_in i n) (hdg : decode cc pc = .ok (.iastore, 1))
    (kk : ∀ (H1 : Heap) (locs1 : List Loc), wk_H D z0 ad sh (wk_up sg κ i.toNatClampNeg x) H1 → va_S (wk_A z0) H0 H1 locs1 → W p l e R s m args below meth c H1 locs1 cells slots Q (F0 m (pc + 1) ls rest)) : W p l e R s m args below meth c H locs cells slots Q (F0 m pc ls (.int x :: .int i :: .ref (ad κ) :: rest)) := by
  obtain ⟨⟨hx, hb, -, hown, hts⟩, hK, -⟩ := X
  obtain ⟨ws, hP, hD, hm, hi, hcl⟩ := hH
  obtain ⟨q, hq⟩ := List.getElem?_of_mem (hm κ _ he)
  exact va_iast hx hb hK hP hD hS q 0 hq rfl hin hdg (fun H1 locs1 hP1 hD1 hS1 => kk H1 locs1 (wk_H.set hm hi hcl he hq hP1 hD1) hS1)
/-- an element of an array of references is read: it is there -/
theorem wk_aald (X : wk_C p m c cc nL s args own D T) (hH : wk_H D z0 ad sh sg H) {cA : ClassId} {C : String} {n : Nat} {lk : Nat → Option wk_K3} (κ : wk_K3) (t0 : Nat) (κ' : wk_K3) (he : sh κ = some (.inl (.inr (cA, n, lk)))) (ht : (wk_ty T)[t0]? = some (cA, .object C)) {i : Int32} (hin : vp_in i n) (hlk : lk i.toNatClampNeg = some κ') (hdg : decode cc pc = .ok (.aaload, 1))
    (kk : W p l e R s m args below meth c H locs cells slots Q (F0 m (pc + 1) ls (.ref (ad κ') :: rest))) : W p l e R s m args below meth c H locs cells slots Q (F0 m pc ls (.int i :: .ref (ad κ) :: rest)) := by
  refine va_aldq X.1.1 X.1.2.1 X.2.1 (hH.at he) 0 t0 rfl ht hin hdg ?_
  rw [hlk]
  exact kk
theorem wk_alenI (X : wk_C p m c cc nL s args own D T) (hH : wk_H D z0 ad sh sg H) {n : Nat} (κ : wk_K3) (he : sh κ = some (.inl (.inl (T.1, n)))) (hdg : decode cc pc = .ok (.arraylength, 1))
    (kk : W p l e R s m args below meth c H locs cells slots Q (F0 m (pc + 1) ls (.int (nI n) :: rest))) : W p l e R s m args below meth c H locs cells slots Q (F0 m pc ls (.ref (ad κ) :: rest)) :=
  va_alen X.1.1 X.1.2.1 X.2.1 (hH.at he) 0 0 rfl rfl rfl hdg kk
theorem wk_alenR (X : wk_C p m c cc nL s args own D T) (hH : wk_H D z0 ad sh sg H) {cA : ClassId} {n : Nat} {lk : Nat → Option wk_K3} (κ : wk_K3) (t0 : Nat) {ty : FieldType} (he : sh κ = some (.inl (.inr (cA, n, lk)))) (ht : (wk_ty T)[t0]? = some (cA, ty)) (hdg : decode cc pc = .ok (.arraylength, 1))
    (kk : W p l e R s m args below meth c H locs cells slots Q (F0 m (pc + 1) ls (.int (nI n) :: rest))) : W p l e R s m args below meth c H locs cells slots Q (F0 m pc ls (.ref (ad κ) :: rest)) :=
  va_alen X.1.1 X.1.2.1 X.2.1 (hH.at he) 0 t0 rfl ht rfl hdg kk
/-- System.arraycopy between int arrays of the world -/
theorem wk_copy (X : wk_C p m c cc nL s args own D T) (hsz : ls.size = nL) (hH : wk_H D z0 ad sh sg H) (hS : va_S (wk_A z0) H0 H locs) {index : Nat} (hlink : Cond.methodLink own index arraycopyName ∈ wk_B) (hok : Cond.native arraycopyName ∈ wk_B ∧ Cond.static arraycopyName ∈ wk_B ∧ Cond.initialized "java/lang/System" ∈ wk_B)
    {n0 n1 : Nat} (κ0 κ : wk_K3) (he0 : sh κ0 = some (.inl (.inl (T.1, n0)))) (he : sh κ = some (.inl (.inl (T.1, n1)))) {sp dp n : Int32} (ho : wk_cp sp dp n n0 n1)
    (hR : 1 ≤ R.frames ∧ (rest.map fun v => v.category).sum + (nativeFrameWords "java/lang/System" "arraycopy" 5 + 11) ≤ R.locals) (hdg : decode cc pc = .ok (.invokestatic index, 3))
    (kk : ∀ (H1 : Heap) (locs1 : List Loc), wk_H D z0 ad sh (wk_su sg κ (va_cpy (sg κ0) (sg κ) sp.toNatClampNeg dp.toNatClampNeg n.toNatClampNeg)) H1 → va_S (wk_A z0) H0 H1 locs1 → W p l e R s m args below meth c H1 locs1 cells slots Q (F0 m (pc + 3) ls rest)) : W p l e R s m args below meth c H locs cells slots Q (F0 m pc ls (.int n :: .int dp :: .ref (ad κ) :: .int sp :: .ref (ad κ0) :: rest)) := by
  obtain ⟨⟨hx, hb, hml, hown, hts⟩, hK, -⟩ := X
  obtain ⟨ws, hP, hD, hm, hi, hcl⟩ := hH
  obtain ⟨q, hq⟩ := List.getElem?_of_mem (hm κ _ he)
  obtain ⟨q0, hq0⟩ := List.getElem?_of_mem (hm κ0 _ he0)
  obtain ⟨h1, h2, h3, h4, h5⟩ := ho
  exact va_copyi hx hb (hml.trans hsz.symm) hown (hts _ hlink) (hts _ hok.1) (hts _ hok.2.1) (hts _ hok.2.2) hK hP hD hS q0 q 0 0 hq0 hq rfl rfl rfl h1 h2 h3 h4 h5 (fun _ _ => rfl) hR.1 hR.2 hdg (fun H1 locs1 hP1 hD1 hS1 => kk H1 locs1 (wk_H.set hm hi hcl he hq hP1 hD1) hS1)
/-- before a call on an object of the world; before a static call -/
theorem wk_blind {As : List Value} : FrameBlind (va_Pc As (wk_Pre D T z0 ad sh sg)) := fun a U g mk q => by
  obtain ⟨q0, q1, q2, q3⟩ := q
  exact ⟨q0, q1, q2, wk_K.same (u := U) (U := U.calling g mk a) rfl q3⟩
theorem wk_preV {κ : wk_K3} {ci N : Nat} {C : String} {TT : u_T} {lk : wk_L} {As : List Value} (hK : wk_K D T s) (hH : wk_H D z0 ad sh sg H) (hz : z0 ≤ H.size) (he : sh κ = some (.inr (ci, N, lk))) (hc : wk_cl[ci]? = some (C, TT, N)) : PreV s H C (ad κ) (va_Pc (.ref (ad κ) :: As) (wk_Pre D T z0 ad sh sg)) As :=
  ⟨wk_blind, va_recv (q0 := 0) hK.1 (hH.at he) hc rfl, fun U hU hW => ⟨rfl, by rw [hU]; exact hz, by rw [hU]; exact hH, hK.moved hW⟩⟩
theorem wk_preS {As : List Value} (hK : wk_K D T s) (hH : wk_H D z0 ad sh sg H) (hz : z0 ≤ H.size) : PreS s H (va_Pc As (wk_Pre D T z0 ad sh sg)) As :=
  ⟨wk_blind, fun U hU hW => ⟨rfl, by rw [hU]; exact hz, by rw [hU]; exact hH, hK.moved hW⟩⟩
variable {st0 : List Value} {a : Array Value} {sg' : wk_Sg}
/-- behind a call: an int, nothing, a cell of the world -/
theorem wk_ci {r : Int32} (hr : va_Run p l e R s m args below meth c H locs cells slots 0 0 (F0 m pc ls st0) rest (wk_Qi D z0 ad sh r sg' a) (wk_A z0)) (hS : va_S (wk_A z0) H0 H locs)
    (kk : ∀ (H1 : Heap) (locs1 : List Loc), wk_H D z0 ad sh sg' H1 → va_S (wk_A z0) H0 H1 locs1 → W p l e R s m args below meth c H1 locs1 cells slots Q (F0 m (pc + 3) ls (.int r :: rest))) : W p l e R s m args below meth c H locs cells slots Q (F0 m pc ls st0) := by
  refine va_calli hr hS (fun _ _ h => h) (fun _ h => h) (fun x u t H1 locs1 ht _ hx hB _ _ hS1 => ?_)
  subst hx
  exact kk H1 locs1 (ht ▸ hB) hS1
theorem wk_cv (hr : va_Run p l e R s m args below meth c H locs cells slots 0 0 (F0 m pc ls st0) rest (wk_Qv D z0 ad sh sg' a) (wk_A z0)) (hS : va_S (wk_A z0) H0 H locs)
    (kk : ∀ (H1 : Heap) (locs1 : List Loc), wk_H D z0 ad sh sg' H1 → va_S (wk_A z0) H0 H1 locs1 → W p l e R s m args below meth c H1 locs1 cells slots Q (F0 m (pc + 3) ls rest)) : W p l e R s m args below meth c H locs cells slots Q (F0 m pc ls st0) :=
  va_callv hr hS (fun _ _ h => h) (fun _ h => h) (fun _ _ H1 locs1 ht _ _ hB _ _ hS1 => kk H1 locs1 (ht ▸ hB) hS1)
theorem wk_cr {κ' : wk_K3} (hr : va_Run p l e R s m args below meth c H locs cells slots 0 0 (F0 m pc ls st0) rest (wk_Qr D z0 ad sh κ' sg' a) (wk_A z0)) (hS : va_S (wk_A z0) H0 H locs)
    (kk : ∀ (H1 : Heap) (locs1 : List Loc), wk_H D z0 ad sh sg' H1 → va_S (wk_A z0) H0 H1 locs1 → W p l e R s m args below meth c H1 locs1 cells slots Q (F0 m (pc + 3) ls (.ref (ad κ') :: rest))) : W p l e R s m args below meth c H locs cells slots Q (F0 m pc ls st0) := by
  refine va_callr hr hS (fun _ _ h => h) (fun _ h => h) (fun _ ra t H1 locs1 ht _ _ hB _ _ hS1 => ?_)
  obtain ⟨rfl, hB⟩ := hB
  exact kk H1 locs1 (ht ▸ hB) hS1
variable {y : MethodName} {bytes : ByteArray} {maxL n index fr lo : Nat} {ret : Option FieldType} {As : List Value} {Qc : Array Value → State → Outcome → State → Prop}
/-- the run of a virtual call, of a static one, of a nest mate's static one -/
theorem wk_rV {κ : wk_K3} {ci N : Nat} {C : String} {TT : u_T} {lk : wk_L} (X : wk_C p m c cc nL s args own D T) (hH : wk_H D z0 ad sh sg H) (hS : va_S (wk_A z0) s.heap H locs) (hz : z0 ≤ s.heap.size) (he : sh κ = some (.inr (ci, N, lk))) (hc : wk_cl[ci]? = some (C, TT, N)) (ok : wk_OkV C y bytes maxL ret n)
    (hM : Met l y (Cond.code y bytes maxL ret :: wk_B) (wk_rm fr lo) (va_Pc (.ref (ad κ) :: As) (wk_Pre D T z0 ad sh sg)) Qc 0 0 (wk_A z0)) (hl : Cond.methodLink own index y ∈ wk_B) (hR : fr + 1 ≤ R.frames ∧ 8 + (maxL + 11) + lo ≤ R.locals ∧ cells ≤ R.cells ∧ slots ≤ R.slots) (hn : As.length = n) (hsz : ls.size = nL) (hst : st0 = As.reverse ++ .ref (ad κ) :: rest) (hrm : (rest.map fun v => v.category).sum ≤ 8) (hdg : decode cc pc = .ok (.invokevirtual index, 3)) :
    va_Run p l e R s m args below meth c H locs cells slots 0 0 (F0 m pc ls st0) rest (Qc (Value.ref (ad κ) :: As).toArray) (wk_A z0) := by
  obtain ⟨o1, o2, o3, o4, o5⟩ := ok
  have hts := X.1.2.2.2.2
  exact va_runV X.1 hM ⟨callB_of (ws' := wk_B) n hts (wk_good o1) rfl rfl rfl (hts _ o2) (hts _ hl) o5 ⟨hR.1, hR.2.1⟩, hts _ o3, hts _ o4⟩ (wk_preV X.2 hH (Nat.le_trans hz hS.1) he hc) rfl hn hsz hst (lv_room hrm) hdg hR.2.2
theorem wk_rS (X : wk_C p m c cc nL s args own D T) (hH : wk_H D z0 ad sh sg H) (hS : va_S (wk_A z0) s.heap H locs) (hz : z0 ≤ s.heap.size) (ok : wk_OkS y bytes maxL ret n)
    (hM : Met l y (Cond.code y bytes maxL ret :: wk_B) (wk_rm fr lo) (va_Pc As (wk_Pre D T z0 ad sh sg)) Qc 0 0 (wk_A z0)) (hl : Cond.methodLink own index y ∈ wk_B) (hR : fr + 1 ≤ R.frames ∧ 8 + (maxL + 11) + lo ≤ R.locals ∧ cells ≤ R.cells ∧ slots ≤ R.slots) (hn : As.length = n) (hsz : ls.size = nL) (hst : st0 = As.reverse ++ rest) (hrm : (rest.map fun v => v.category).sum ≤ 8) (hdg : decode cc pc = .ok (.invokestatic index, 3)) :
    va_Run p l e R s m args below meth c H locs cells slots 0 0 (F0 m pc ls st0) rest (Qc As.toArray) (wk_A z0) := by
  obtain ⟨o1, o2, o3, o5⟩ := ok
  have hts := X.1.2.2.2.2
  exact va_runS X.1 hM ⟨callB_of (ws' := wk_B) n hts (wk_good o1) rfl rfl rfl (hts _ o2) (hts _ hl) o5 ⟨hR.1, hR.2.1⟩, hts _ o3⟩ (wk_preS X.2 hH (Nat.le_trans hz hS.1)) rfl hn hsz hst (lv_room hrm) hdg hR.2.2
theorem wk_rN {host : String} (X : wk_C p m c cc nL s args own D T) (hH : wk_H D z0 ad sh sg H) (hS : va_S (wk_A z0) s.heap H locs) (hz : z0 ≤ s.heap.size) (ok : wk_OkS y bytes maxL ret n)
    (hM : Met l y (Cond.code y bytes maxL ret :: wk_B) (wk_rm fr lo) (va_Pc As (wk_Pre D T z0 ad sh sg)) Qc 0 0 (wk_A z0)) (hl : Cond.methodLinkNest own index y host ∈ wk_N) (hR : fr + 1 ≤ R.frames ∧ 8 + (maxL + 11) + lo ≤ R.locals ∧ cells ≤ R.cells ∧ slots ≤ R.slots) (hn : As.length = n) (hsz : ls.size = nL) (hst : st0 = As.reverse ++ rest) (hrm : (rest.map fun v => v.category).sum ≤ 8) (hdg : decode cc pc = .ok (.invokestatic index, 3)) :
    va_Run p l e R s m args below meth c H locs cells slots 0 0 (F0 m pc ls st0) rest (Qc As.toArray) (wk_A z0) := by
  obtain ⟨o1, o2, o3, o5⟩ := ok
  have hts := X.1.2.2.2.2
  exact va_runSN X.1 hM ⟨va_cnB (ws' := wk_B) n hts (wk_good o1) rfl rfl rfl (X.2.2.1 _ hl) (hts _ o2) o5 ⟨hR.1, hR.2.1⟩, hts _ o3, trivial⟩ (wk_preS X.2 hH (Nat.le_trans hz hS.1)) rfl hn hsz hst (lv_room hrm) hdg hR.2.2
/-- answers -/
theorem wk_iret (X : wk_C p m c cc nL s args own D T) (hH : wk_H D z0 ad sh sg H) (hS : va_S (wk_A z0) s.heap H locs) (hr : meth.sig.returnType = some .int) (hlocks : meth.locks = false) {v r : Int32} (hv : v = r) (hsg : sg = sg') (hdg : decode cc pc = .ok (.ireturn, 1)) : W p l e R s m args below meth c H locs cells slots (MQ below (wk_Qi D z0 ad sh r sg') args s cells slots (wk_A z0)) (F0 m pc ls [.int v]) := by
  subst hv; subst hsg
  exact W.iret X.1.1 X.1.2.1 hr (fun t ht _ => ⟨⟨_, (), rfl, rfl, by show wk_H D z0 ad sh _ t.heap; rw [ht]; exact hH⟩, hS.F ht⟩) hS.2.2 hdg hlocks
theorem wk_zret (X : wk_C p m c cc nL s args own D T) (hH : wk_H D z0 ad sh sg H) (hS : va_S (wk_A z0) s.heap H locs) (hr : meth.sig.returnType = some .boolean) (hlocks : meth.locks = false) {v r : Int32} (h01 : v = 0 ∨ v = 1) (hv : v = r) (hsg : sg = sg') (hdg : decode cc pc = .ok (.ireturn, 1)) : W p l e R s m args below meth c H locs cells slots (MQ below (wk_Qi D z0 ad sh r sg') args s cells slots (wk_A z0)) (F0 m pc ls [.int v]) := by
  subst hv; subst hsg
  exact W.zret X.1.1 X.1.2.1 hr (by rcases h01 with h | h <;> rw [h] <;> decide) (fun t ht _ => ⟨⟨_, (), rfl, rfl, by show wk_H D z0 ad sh _ t.heap; rw [ht]; exact hH⟩, hS.F ht⟩) hS.2.2 hdg hlocks
theorem wk_vret (X : wk_C p m c cc nL s args own D T) (hH : wk_H D z0 ad sh sg H) (hS : va_S (wk_A z0) s.heap H locs) (hr : meth.sig.returnType = none) (hlocks : meth.locks = false) (hsg : sg = sg') (hdg : decode cc pc = .ok (.return_, 1)) : W p l e R s m args below meth c H locs cells slots (MQ below (wk_Qv D z0 ad sh sg') args s cells slots (wk_A z0)) (F0 m pc ls []) := by
  subst hsg
  exact W.vret X.1.1 X.1.2.1 hr (fun t ht _ => ⟨⟨(), rfl, trivial, by show wk_H D z0 ad sh _ t.heap; rw [ht]; exact hH⟩, hS.F ht⟩) hS.2.2 hdg hlocks
theorem wk_aret (X : wk_C p m c cc nL s args own D T) (hH : wk_H D z0 ad sh sg H) (hS : va_S (wk_A z0) s.heap H locs) {rt : String} (hr : meth.sig.returnType = some (.object rt)) (hlocks : meth.locks = false) {κ κ' : wk_K3} (hv : κ = κ') (hsg : sg = sg') (hdg : decode cc pc = .ok (.areturn, 1)) : W p l e R s m args below meth c H locs cells slots (MQ below (wk_Qr D z0 ad sh κ' sg') args s cells slots (wk_A z0)) (F0 m pc ls [.ref (ad κ)]) := by
  subst hv; subst hsg
  exact W.aret X.1.1 X.1.2.1 hr (Or.inl ⟨rt, rfl⟩) (Or.inr ⟨_, rfl⟩) (fun t ht _ => ⟨⟨(), _, rfl, trivial, rfl, by show wk_H D z0 ad sh _ t.heap; rw [ht]; exact hH⟩, hS.F ht⟩) hS.2.2 hdg hlocks
/-- a switch at a known value; beside its values -/
theorem wk_tin (X : wk_C p m c cc nL s args own D T) {dflt lw hg : Int} {offs : Array Int} {len : Nat} {x v : Int32} {off : Int} {tgt : Nat} (h : x = v) (hdg : decode cc pc = .ok (.tableswitch dflt lw hg offs, len)) (h1 : ¬ v.toInt < lw) (h2 : ¬ hg < v.toInt) (ho : offs[(v.toInt - lw).toNat]? = some off) (ht : (pc : Int) + off = (tgt : Int))
    (k : W p l e R s m args below meth c H locs cells slots Q (F0 m tgt ls rest)) : W p l e R s m args below meth c H locs cells slots Q (F0 m pc ls (.int x :: rest)) := by
  subst h
  exact lv_tableIn X.1.1 X.1.2.1 hdg h1 h2 ho ht k
theorem wk_lin (X : wk_C p m c cc nL s args own D T) {dflt : Int} {ps : Array (Int × Int)} {len : Nat} {x v : Int32} {off : Int} {tgt : Nat} (h : x = v) (hdg : decode cc pc = .ok (.lookupswitch dflt ps, len)) (hp : (ps.toList.zip (ps.toList.drop 1)).all (fun (a, next) => a.1 < next.1) = true) (ho : Op.lookupswitch.offset ps.toList dflt v.toInt = off) (ht : (pc : Int) + off = (tgt : Int))
    (k : W p l e R s m args below meth c H locs cells slots Q (F0 m tgt ls rest)) : W p l e R s m args below meth c H locs cells slots Q (F0 m pc ls (.int x :: rest)) := by
  subst h
  exact lv_lookup X.1.1 X.1.2.1 hdg hp ho ht k
end WKR
theorem wk_tout {x : Int32} {lw hg : Int} (h : ∀ v : Int, lw ≤ v → v ≤ hg → ¬ x.toInt = v) : x.toInt < lw ∨ hg < x.toInt := by
  rcases Int.lt_or_le x.toInt lw with h1 | h1
  · exact Or.inl h1
  · rcases Int.lt_or_le hg x.toInt with h2 | h2
    · exact Or.inr h2
    · exact absurd rfl (h _ h1 h2)
theorem wk_entry {B : Prop} (h : B) : B := h
end
section
/-! Worlds that grow (constructors): a new cell gets a code; a reference field or element is set. -/
def wk_au (ad : wk_K3 → Nat) (κ : wk_K3) (q : Nat) : wk_K3 → Nat := fun j => if j = κ then q else ad j
def wk_hu (sh : wk_Sh) (κ : wk_K3) (x : wk_X) : wk_Sh := fun j => if j = κ then some x else sh j
def wk_lu (lk : wk_L) (k : Nat) (κ : wk_K3) : wk_L := fun j => if j = k then some (some κ) else lk j
def wk_ru (lk : Nat → Option wk_K3) (k : Nat) (κ : wk_K3) : Nat → Option wk_K3 := fun j => if j = k then some κ else lk j
theorem wk_au_self (ad : wk_K3 → Nat) (κ : wk_K3) (q : Nat) : wk_au ad κ q κ = q := by simp [wk_au]
theorem wk_au_ne (ad : wk_K3 → Nat) {κ j : wk_K3} (q : Nat) (h : j ≠ κ) : wk_au ad κ q j = ad j := by simp [wk_au, h]
theorem wk_hu_self (sh : wk_Sh) (κ : wk_K3) (x : wk_X) : wk_hu sh κ x κ = some x := by simp [wk_hu]
theorem wk_hu_ne (sh : wk_Sh) {κ j : wk_K3} (x : wk_X) (h : j ≠ κ) : wk_hu sh κ x j = sh j := by simp [wk_hu, h]
theorem wk_cell_au {ad : wk_K3 → Nat} {κ : wk_K3} {q : Nat} {f : Nat → Int32} {x : wk_X} (h : ¬ wk_to x κ) : wk_cell (wk_au ad κ q) f x = wk_cell ad f x := by
  rcases x with ((⟨cA, n⟩ | ⟨cA, n, lk⟩) | ⟨ci, N, lk⟩)
  · rfl
  · have e : (fun j => (lk j).map (wk_au ad κ q)) = fun j => (lk j).map ad := by
      funext j
      cases hj : lk j with
      | none => rfl
      | some k2 =>
        have hne : k2 ≠ κ := fun z => h ⟨j, by rw [hj, z]⟩
        simp [wk_au, hne]
    simp only [wk_cell, e]
  · have e : (List.range N).map (wk_fv (wk_au ad κ q) lk f) = (List.range N).map (wk_fv ad lk f) := by
      apply List.map_congr_left
      intro k _
      unfold wk_fv
      cases hk : lk k with
      | none => rfl
      | some o =>
        cases o with
        | none => rfl
        | some k2 =>
          have hne : k2 ≠ κ := fun z => h ⟨k, by rw [hk, z]⟩
          simp [wk_au, hne]
    simp only [wk_cell, e]
theorem wk_fs_lnk {ad : wk_K3 → Nat} {lk : wk_L} {f : Nat → Int32} {N k : Nat} {κ : wk_K3} (hk : k < N) : ((List.range N).map (wk_fv ad lk f)).set k (.ref (ad κ)) = (List.range N).map (wk_fv ad (wk_lu lk k κ) f) := by
  apply List.ext_getElem?
  intro j
  by_cases hj : j = k
  · subst hj
    rw [List.getElem?_set_self (by simpa using hk), wk_fs_get hk]
    simp [wk_fv, wk_lu]
  · rw [List.getElem?_set_ne (Ne.symm hj), List.getElem?_map, List.getElem?_map]
    cases hr : (List.range N)[j]? with
    | none => rfl
    | some i =>
      have hi : i = j := by
        have := (List.getElem?_eq_some_iff.mp hr).2
        simpa using this.symm
      subst hi
      simp [wk_fv, wk_lu, hj]
theorem wk_H.grow {D : va_G} {z0 q : Nat} {ad : wk_K3 → Nat} {sh : wk_Sh} {sg : wk_Sg} {ws : va_W} {H1 : Heap} {κ : wk_K3} {x : wk_X} {f : Nat → Int32}
    (hm : ∀ κ x, sh κ = some x → (ad κ, wk_cell ad (sg κ) x) ∈ ws) (hi : ∀ κ κ' x x', sh κ = some x → sh κ' = some x' → ad κ = ad κ' → κ = κ') (hcl : ∀ κ x κ', sh κ = some x → wk_to x κ' → ∃ x', sh κ' = some x') (hn : sh κ = none) (hno : ∀ κ', ¬ wk_to x κ')
    (hP : va_P D wk_cl (ws ++ [(q, wk_cell ad f x)]) H1) (hD : va_D (fun q => z0 ≤ q) (ws ++ [(q, wk_cell ad f x)])) : wk_H D z0 (wk_au ad κ q) (wk_hu sh κ x) (wk_su sg κ f) H1 := by
  have hq : ∀ κ' x', sh κ' = some x' → ad κ' ≠ q := by
    intro κ' x' h e
    obtain ⟨i, hi'⟩ := List.getElem?_of_mem (hm κ' x' h)
    have hl := (List.getElem?_eq_some_iff.mp hi').1
    have h1 : (ws ++ [(q, wk_cell ad f x)])[i]? = some (ad κ', wk_cell ad (sg κ') x') := by rw [List.getElem?_append_left hl]; exact hi'
    have h2 : (ws ++ [(q, wk_cell ad f x)])[ws.length]? = some (q, wk_cell ad f x) := by rw [List.getElem?_append_right (Nat.le_refl _), Nat.sub_self]; rfl
    have h3 := hD.1 i ws.length _ _ h1 h2 e
    omega
  have old : ∀ κ' x', κ' ≠ κ → wk_hu sh κ x κ' = some x' → sh κ' = some x' := fun κ' x' hk h => by rwa [wk_hu_ne _ _ hk] at h
  refine ⟨_, hP, hD, fun κ' x' h => ?_, fun κ1 κ2 x1 x2 h1 h2 ha => ?_, fun κ1 x1 κ2 h1 h2 => ?_⟩
  · by_cases hk : κ' = κ
    · subst hk
      rw [wk_hu_self] at h
      cases h
      rw [wk_su_self, wk_au_self, wk_cell_au (hno _)]
      exact List.mem_append_right _ (List.mem_singleton.mpr rfl)
    · have h' := old κ' x' hk h
      have hnt : ¬ wk_to x' κ := fun ht => by
        obtain ⟨z, hz⟩ := hcl κ' x' κ h' ht
        rw [hn] at hz
        cases hz
      rw [wk_su_ne _ _ hk, wk_cell_au hnt, wk_au_ne _ _ hk]
      exact List.mem_append_left _ (hm κ' x' h')
  · by_cases hk1 : κ1 = κ <;> by_cases hk2 : κ2 = κ
    · rw [hk1, hk2]
    · subst hk1
      rw [wk_au_self, wk_au_ne _ _ hk2] at ha
      exact absurd ha.symm (hq κ2 x2 (old κ2 x2 hk2 h2))
    · subst hk2
      rw [wk_au_self, wk_au_ne _ _ hk1] at ha
      exact absurd ha (hq κ1 x1 (old κ1 x1 hk1 h1))
    · rw [wk_au_ne _ _ hk1, wk_au_ne _ _ hk2] at ha
      exact hi κ1 κ2 x1 x2 (old κ1 x1 hk1 h1) (old κ2 x2 hk2 h2) ha
  · by_cases hk1 : κ1 = κ
    · subst hk1
      rw [wk_hu_self] at h1
      cases h1
      exact absurd h2 (hno κ2)
    · obtain ⟨y, hy⟩ := hcl κ1 x1 κ2 (old κ1 x1 hk1 h1) h2
      by_cases hk2 : κ2 = κ
      · exact ⟨x, by rw [hk2, wk_hu_self]⟩
      · exact ⟨y, by rw [wk_hu_ne _ _ hk2]; exact hy⟩
theorem wk_H.link {D : va_G} {z0 p : Nat} {ad : wk_K3 → Nat} {sh : wk_Sh} {sg : wk_Sg} {ws : va_W} {H1 : Heap} {κ : wk_K3} {x x2 : wk_X} {e0 : va_E}
    (hm : ∀ κ x, sh κ = some x → (ad κ, wk_cell ad (sg κ) x) ∈ ws) (hi : ∀ κ κ' x x', sh κ = some x → sh κ' = some x' → ad κ = ad κ' → κ = κ') (hcl : ∀ κ x κ', sh κ = some x → wk_to x κ' → ∃ x', sh κ' = some x') (hx : sh κ = some x) (hp : ws[p]? = some (ad κ, e0)) (hto : ∀ κ', wk_to x2 κ' → ∃ y, sh κ' = some y)
    (hP : va_P D wk_cl (ws.set p (ad κ, wk_cell ad (sg κ) x2)) H1) (hD : va_D (fun q => z0 ≤ q) (ws.set p (ad κ, wk_cell ad (sg κ) x2))) : wk_H D z0 ad (wk_hu sh κ x2) sg H1 := by
  have hl := (List.getElem?_eq_some_iff.mp hp).1
  have old : ∀ κ' x', wk_hu sh κ x2 κ' = some x' → ∃ x'', sh κ' = some x'' := by
    intro κ' x' h
    by_cases hk : κ' = κ
    · exact ⟨x, by rw [hk]; exact hx⟩
    · exact ⟨x', by rwa [wk_hu_ne _ _ hk] at h⟩
  have new : ∀ κ', (∃ y, sh κ' = some y) → ∃ y, wk_hu sh κ x2 κ' = some y := by
    rintro κ' ⟨y, hy⟩
    by_cases hk : κ' = κ
    · exact ⟨x2, by rw [hk, wk_hu_self]⟩
    · exact ⟨y, by rw [wk_hu_ne _ _ hk]; exact hy⟩
  refine ⟨_, hP, hD, fun κ' x' h => ?_, fun κ1 κ2 x1 x2 h1 h2 ha => ?_, fun κ1 x1 κ2 h1 h2 => ?_⟩
  · by_cases hk : κ' = κ
    · subst hk
      rw [wk_hu_self] at h
      cases h
      exact List.mem_of_getElem? (List.getElem?_set_self hl)
    · have h' : sh κ' = some x' := by rwa [wk_hu_ne _ _ hk] at h
      obtain ⟨i, hi'⟩ := List.getElem?_of_mem (hm κ' x' h')
      have hip : i ≠ p := by
        intro q
        subst q
        rw [hp] at hi'
        have h2 := congrArg Prod.fst (Option.some.inj hi')
        exact hk (hi κ' κ x' x h' hx h2.symm)
      exact List.mem_of_getElem? (i := i) (by rw [List.getElem?_set_ne (Ne.symm hip)]; exact hi')
  · obtain ⟨y1, g1⟩ := old κ1 x1 h1
    obtain ⟨y2, g2⟩ := old κ2 _ h2
    exact hi κ1 κ2 y1 y2 g1 g2 ha
  · by_cases hk : κ1 = κ
    · subst hk
      rw [wk_hu_self] at h1
      cases h1
      exact new κ2 (hto κ2 h2)
    · exact new κ2 (hcl κ1 x1 κ2 (by rwa [wk_hu_ne _ _ hk] at h1) h2)
section WKG
variable {p : Program} {l : Launch} {e : Env} {R : Room} {s : State} {m : MethodId} {args : Array Value} {below : List Frame} {meth : Method} {c : Code} {H : Heap} {locs : List Loc} {cells slots : Nat} {Q : State → Prop}
variable {cc : ByteArray} {pc nL : Nat} {ls : Array Slot} {rest : List Value} {D : va_G} {T : wk_T} {H0 : Heap} {z0 : Nat} {ad : wk_K3 → Nat} {sh : wk_Sh} {sg : wk_Sg} {own : String}
theorem wk_new (X : wk_C p m c cc nL s args own D T) (hH : wk_H D z0 ad sh sg H) (hS : va_S (wk_A z0) H0 H locs) (hz : z0 ≤ H0.size) {C : String} {TT : u_T} {N ci index : Nat} (κ : wk_K3) (lk : wk_L) {ty0 : Nat → FieldType} (hty : ∀ k, k < N → parseFieldDescriptor (TT k).2.2.1 = some (ty0 k)) (hc : wk_cl[ci]? = some (C, TT, N)) (hn : sh κ = none) (hlk : ∀ k κ', lk k ≠ some (some κ')) (hdf : ∀ j, j < N → defaultValue (ty0 j) = wk_fv ad lk (fun _ => 0) j) (hin : ∀ w ∈ u_ws C TT N, w ∈ wk_B) (hcl : Cond.classLink own index C ∈ wk_B) (hinst : Cond.instantiable C N ∈ wk_B) (hini : Cond.initialized C ∈ wk_B) (hcells : cells + 1 ≤ R.cells) (hslots : slots + N ≤ R.slots) (hdg : decode cc pc = .ok (.new index, 3))
    (kk : ∀ (q : Nat) (H1 : Heap), wk_H D z0 (wk_au ad κ q) (wk_hu sh κ (.inr (ci, N, lk))) (wk_su sg κ (fun _ => 0)) H1 → va_S (wk_A z0) H0 H1 locs → W p l e R s m args below meth c H1 locs (cells + 1) (slots + N) Q (F0 m (pc + 3) ls (.ref q :: rest))) : W p l e R s m args below meth c H locs cells slots Q (F0 m pc ls rest) := by
  obtain ⟨⟨hx, hb, -, hown, hts⟩, hK, -⟩ := X
  obtain ⟨ws, hP, hD, hm, hi, hcl2⟩ := hH
  refine va_new (D := D) (fs := (List.range N).map (wk_fv ad lk (fun _ => 0))) hx hb hts hin ty0 hty hown (hts _ hcl) (hts _ hinst) (hts _ hini) hK hP hD hS (fun q h => Nat.le_trans hz h) hc (fun j hj => ?_) hcells hslots hdg (fun q H1 hP1 hD1 hS1 => kk q H1 ?_ hS1)
  · rw [hdf j hj, vp_V, List.getD_eq_getElem?_getD, wk_fs_get hj]
    rfl
  · exact wk_H.grow (x := .inr (ci, N, lk)) hm hi hcl2 hn (fun κ' h => by obtain ⟨k, h⟩ := h; exact hlk k κ' h) hP1 hD1
theorem wk_newi (X : wk_C p m c cc nL s args own D T) (hH : wk_H D z0 ad sh sg H) (hS : va_S (wk_A z0) H0 H locs) (hz : z0 ≤ H0.size) (κ : wk_K3) (hn : sh κ = none) (harr : Cond.arrayClass .int ∈ wk_B) {n : Int32} {N : Nat} (hneg : ¬ n < 0) (hN : n.toNatClampNeg = N) (hbytes : N * 4 ≤ 536870912) (hcells : cells + 1 ≤ R.cells) (hslots : slots + N ≤ R.slots) (hdg : decode cc pc = .ok (.newarray .int, 2))
    (kk : ∀ (q : Nat) (H1 : Heap), wk_H D z0 (wk_au ad κ q) (wk_hu sh κ (.inl (.inl (T.1, N)))) (wk_su sg κ (fun _ => 0)) H1 → va_S (wk_A z0) H0 H1 locs → W p l e R s m args below meth c H1 locs (cells + 1) (slots + N) Q (F0 m (pc + 2) ls (.ref q :: rest))) : W p l e R s m args below meth c H locs cells slots Q (F0 m pc ls (.int n :: rest)) := by
  obtain ⟨⟨hx, hb, -, hown, hts⟩, hK, -⟩ := X
  obtain ⟨ws, hP, hD, hm, hi, hcl2⟩ := hH
  refine va_newa (D := D) (atype := .int) (ty := .int) (a0 := (N, .inl (fun _ => 0))) hx hb (hts _ harr) rfl hK hP hD hS (fun q h => Nat.le_trans hz h) (fun _ => rfl) hneg hN hbytes hcells hslots hdg (fun q cA' H1 hK1 hP1 hD1 hS1 => ?_)
  have h1 : s.vm.findClass ("[" ++ FieldType.int.toString) = some T.1 := (hK.2 0 (T.1, .int) rfl).2
  have h2 : s.vm.findClass ("[" ++ FieldType.int.toString) = some cA' := (hK1.2 (wk_ty T).length (cA', .int) (by rw [List.getElem?_append_right (Nat.le_refl _), Nat.sub_self]; rfl)).2
  obtain rfl : T.1 = cA' := Option.some.inj (h1.symm.trans h2)
  exact kk q H1 (wk_H.grow (x := .inl (.inl (T.1, N))) hm hi hcl2 hn (fun _ h => h) hP1 hD1) hS1
theorem wk_newr (X : wk_C p m c cc nL s args own D T) (hH : wk_H D z0 ad sh sg H) (hS : va_S (wk_A z0) H0 H locs) (hz : z0 ≤ H0.size) (κ : wk_K3) (t0 : Nat) {cA : ClassId} {C : String} {index : Nat} (ht : (wk_ty T)[t0]? = some (cA, .object C)) (hn : sh κ = none) (hcl : Cond.classLink own index C ∈ wk_B) (hover : va_AO C s) {n : Int32} {N : Nat} (hneg : ¬ n < 0) (hN : n.toNatClampNeg = N) (hbytes : N * 4 ≤ 536870912) (hcells : cells + 1 ≤ R.cells) (hslots : slots + N ≤ R.slots) (hdg : decode cc pc = .ok (.anewarray index, 3))
    (kk : ∀ (q : Nat) (H1 : Heap), wk_H D z0 (wk_au ad κ q) (wk_hu sh κ (.inl (.inr (cA, N, fun _ => none)))) sg H1 → va_S (wk_A z0) H0 H1 locs → W p l e R s m args below meth c H1 locs (cells + 1) (slots + N) Q (F0 m (pc + 3) ls (.ref q :: rest))) : W p l e R s m args below meth c H locs cells slots Q (F0 m pc ls (.int n :: rest)) := by
  obtain ⟨⟨hx, hb, -, hown, hts⟩, hK, -⟩ := X
  obtain ⟨ws, hP, hD, hm, hi, hcl2⟩ := hH
  refine va_newq (D := D) hx hb hown (hts _ hcl) hover hK hP hD hS (fun q h => Nat.le_trans hz h) hneg hN hbytes hcells hslots hdg (fun q cA' H1 hK1 hP1 hD1 hS1 => ?_)
  obtain ⟨_, _, -, -, -, h1⟩ := (hK.2 t0 _ ht).2
  obtain ⟨_, _, -, -, -, h2⟩ := (hK1.2 (wk_ty T).length (cA', .object C) (by rw [List.getElem?_append_right (Nat.le_refl _), Nat.sub_self]; rfl)).2
  obtain rfl : cA = cA' := Option.some.inj (h1.symm.trans h2)
  have h3 := wk_H.grow (sg := sg) (f := sg κ) (x := .inl (.inr (cA, N, fun _ => none))) hm hi hcl2 hn (fun _ h => by obtain ⟨j, h⟩ := h; cases h) hP1 hD1
  have e : wk_su sg κ (sg κ) = sg := by
    funext j
    by_cases hj : j = κ
    · rw [hj, wk_su_self]
    · rw [wk_su_ne _ _ hj]
  rw [e] at h3
  exact kk q H1 h3 hS1
/-- putfield of a final int in the constructor -/
theorem wk_putiF (X : wk_C p m c cc nL s args own D T) (hH : wk_H D z0 ad sh sg H) (hS : va_S (wk_A z0) H0 H locs) {C : String} {TT : u_T} {N ci index : Nat} {lk : wk_L} (κ : wk_K3) (k : Nat) {ty0 : Nat → FieldType} (hty : ∀ k, k < N → parseFieldDescriptor (TT k).2.2.1 = some (ty0 k)) (hnm : ∀ a, a < N → ∀ b, b < N → a ≠ b → (TT a).2.1 ≠ (TT b).2.1) (he : sh κ = some (.inr (ci, N, lk))) (hc : wk_cl[ci]? = some (C, TT, N)) (hk : k < N) (hlk : lk k = none) (hin : ∀ w ∈ u_ws C TT N, w ∈ wk_B) (hlink : Cond.fieldLink own index (TT k).1 (TT k).2.1 (TT k).2.2.1 ∈ wk_B) (hfin : (TT k).2.2.2 = true) (hini : meth.name = "<init>") (hdecl : (TT k).1 = own) {x : Int32} (hn : narrow (ty0 k) (.int x) = .int x) (hfit : fits (ty0 k) (.int x) = true) (hdg : decode cc pc = .ok (.putfield index, 3))
    (kk : ∀ (H1 : Heap) (locs1 : List Loc), wk_H D z0 ad sh (wk_up sg κ k x) H1 → va_S (wk_A z0) H0 H1 locs1 → W p l e R s m args below meth c H1 locs1 cells slots Q (F0 m (pc + 3) ls rest)) : W p l e R s m args below meth c H locs cells slots Q (F0 m pc ls (.int x :: .ref (ad κ) :: rest)) := by
  obtain ⟨⟨hx, hb, -, hown, hts⟩, hK, -⟩ := X
  obtain ⟨ws, hP, hD, hm, hi, hcl⟩ := hH
  obtain ⟨q, hq⟩ := List.getElem?_of_mem (hm κ _ he)
  refine va_putF (D := D) hx hb hts hin ty0 hty hnm hown hK hP hD hS q hq hc k hk (hts _ hlink) (fun _ h => h) hfin hini hdecl (hty k hk) hn hfit (by simpa using hk) hdg (fun H1 locs1 hP1 hD1 hS1 => kk H1 locs1 ?_ hS1)
  rw [wk_fs_set hk hlk] at hP1 hD1
  exact wk_H.set hm hi hcl he hq hP1 hD1
/-- putfield of a final reference in the constructor -/
theorem wk_putrF (X : wk_C p m c cc nL s args own D T) (hH : wk_H D z0 ad sh sg H) (hS : va_S (wk_A z0) H0 H locs) {C : String} {TT : u_T} {N ci index : Nat} {lk : wk_L} (κ : wk_K3) (k : Nat) {κ' : wk_K3} {x' : wk_X} {ty0 : Nat → FieldType} (hty : ∀ k, k < N → parseFieldDescriptor (TT k).2.2.1 = some (ty0 k)) (hnm : ∀ a, a < N → ∀ b, b < N → a ≠ b → (TT a).2.1 ≠ (TT b).2.1) (he : sh κ = some (.inr (ci, N, lk))) (hc : wk_cl[ci]? = some (C, TT, N)) (hk : k < N) (he' : sh κ' = some x') (hin : ∀ w ∈ u_ws C TT N, w ∈ wk_B) (hlink : Cond.fieldLink own index (TT k).1 (TT k).2.1 (TT k).2.2.1 ∈ wk_B) (hfin : (TT k).2.2.2 = true) (hini : meth.name = "<init>") (hdecl : (TT k).1 = own) (hn : narrow (ty0 k) (.ref (ad κ')) = .ref (ad κ')) (hfit : fits (ty0 k) (.ref (ad κ')) = true) (hdg : decode cc pc = .ok (.putfield index, 3))
    (kk : ∀ (H1 : Heap) (locs1 : List Loc), wk_H D z0 ad (wk_hu sh κ (.inr (ci, N, wk_lu lk k κ'))) sg H1 → va_S (wk_A z0) H0 H1 locs1 → W p l e R s m args below meth c H1 locs1 cells slots Q (F0 m (pc + 3) ls rest)) : W p l e R s m args below meth c H locs cells slots Q (F0 m pc ls (.ref (ad κ') :: .ref (ad κ) :: rest)) := by
  obtain ⟨⟨hx, hb, -, hown, hts⟩, hK, -⟩ := X
  obtain ⟨ws, hP, hD, hm, hi, hcl⟩ := hH
  obtain ⟨q, hq⟩ := List.getElem?_of_mem (hm κ _ he)
  refine va_putF (D := D) hx hb hts hin ty0 hty hnm hown hK hP hD hS q hq hc k hk (hts _ hlink) (fun _ h => h) hfin hini hdecl (hty k hk) hn hfit (by simpa using hk) hdg (fun H1 locs1 hP1 hD1 hS1 => kk H1 locs1 ?_ hS1)
  rw [wk_fs_lnk hk] at hP1 hD1
  refine wk_H.link (x2 := .inr (ci, N, wk_lu lk k κ')) hm hi hcl he hq (fun κ2 h => ?_) hP1 hD1
  obtain ⟨j, h⟩ := h
  by_cases hj : j = k
  · simp only [wk_lu, hj, if_true] at h
    cases h
    exact ⟨x', he'⟩
  · simp only [wk_lu, hj, if_false] at h
    exact hcl κ _ κ2 he ⟨j, h⟩
/-- putfield of a reference, not final -/
theorem wk_putr (X : wk_C p m c cc nL s args own D T) (hH : wk_H D z0 ad sh sg H) (hS : va_S (wk_A z0) H0 H locs) {C : String} {TT : u_T} {N ci index : Nat} {lk : wk_L} (κ : wk_K3) (k : Nat) {κ' : wk_K3} {x' : wk_X} {ty0 : Nat → FieldType} (hty : ∀ k, k < N → parseFieldDescriptor (TT k).2.2.1 = some (ty0 k)) (hnm : ∀ a, a < N → ∀ b, b < N → a ≠ b → (TT a).2.1 ≠ (TT b).2.1) (he : sh κ = some (.inr (ci, N, lk))) (hc : wk_cl[ci]? = some (C, TT, N)) (hk : k < N) (he' : sh κ' = some x') (hin : ∀ w ∈ u_ws C TT N, w ∈ wk_B) (hlink : Cond.fieldLink own index (TT k).1 (TT k).2.1 (TT k).2.2.1 ∈ wk_B) (hfin : (TT k).2.2.2 = false) (hn : narrow (ty0 k) (.ref (ad κ')) = .ref (ad κ')) (hfit : fits (ty0 k) (.ref (ad κ')) = true) (hdg : decode cc pc = .ok (.putfield index, 3))
    (kk : ∀ (H1 : Heap) (locs1 : List Loc), wk_H D z0 ad (wk_hu sh κ (.inr (ci, N, wk_lu lk k κ'))) sg H1 → va_S (wk_A z0) H0 H1 locs1 → W p l e R s m args below meth c H1 locs1 cells slots Q (F0 m (pc + 3) ls rest)) : W p l e R s m args below meth c H locs cells slots Q (F0 m pc ls (.ref (ad κ') :: .ref (ad κ) :: rest)) := by
  obtain ⟨⟨hx, hb, -, hown, hts⟩, hK, -⟩ := X
  obtain ⟨ws, hP, hD, hm, hi, hcl⟩ := hH
  obtain ⟨q, hq⟩ := List.getElem?_of_mem (hm κ _ he)
  refine va_put (D := D) hx hb hts hin ty0 hty hnm hown hK hP hD hS q hq hc k hk (hts _ hlink) (fun _ h => h) hfin (hty k hk) hn hfit (by simpa using hk) hdg (fun H1 locs1 hP1 hD1 hS1 => kk H1 locs1 ?_ hS1)
  rw [wk_fs_lnk hk] at hP1 hD1
  refine wk_H.link (x2 := .inr (ci, N, wk_lu lk k κ')) hm hi hcl he hq (fun κ2 h => ?_) hP1 hD1
  obtain ⟨j, h⟩ := h
  by_cases hj : j = k
  · simp only [wk_lu, hj, if_true] at h
    cases h
    exact ⟨x', he'⟩
  · simp only [wk_lu, hj, if_false] at h
    exact hcl κ _ κ2 he ⟨j, h⟩
/-- an element of an array of references is set to an object of its very class -/
theorem wk_aast (X : wk_C p m c cc nL s args own D T) (hH : wk_H D z0 ad sh sg H) (hS : va_S (wk_A z0) H0 H locs) {cA : ClassId} {r : vw_C} {n ci N : Nat} {lk : Nat → Option wk_K3} {lk2 : wk_L} (κ κ' : wk_K3) (t0 : Nat) (he : sh κ = some (.inl (.inr (cA, n, lk)))) (he' : sh κ' = some (.inr (ci, N, lk2))) (ht : (wk_ty T)[t0]? = some (cA, .object r.1)) (hc : wk_cl[ci]? = some r) {i : Int32} (hin : vp_in i n) (hdg : decode cc pc = .ok (.aastore, 1))
    (kk : ∀ (H1 : Heap) (locs1 : List Loc), wk_H D z0 ad (wk_hu sh κ (.inl (.inr (cA, n, wk_ru lk i.toNatClampNeg κ')))) sg H1 → va_S (wk_A z0) H0 H1 locs1 → W p l e R s m args below meth c H1 locs1 cells slots Q (F0 m (pc + 1) ls rest)) : W p l e R s m args below meth c H locs cells slots Q (F0 m pc ls (.ref (ad κ') :: .int i :: .ref (ad κ) :: rest)) := by
  obtain ⟨⟨hx, hb, -, hown, hts⟩, hK, -⟩ := X
  obtain ⟨ws, hP, hD, hm, hi, hcl⟩ := hH
  obtain ⟨q, hq⟩ := List.getElem?_of_mem (hm κ _ he)
  obtain ⟨q', hq'⟩ := List.getElem?_of_mem (hm κ' _ he')
  refine va_astq hx hb hK hP hD hS q t0 q' ci hq ht hq' hc hin hdg (fun H1 locs1 hP1 hD1 hS1 => kk H1 locs1 ?_ hS1)
  have e : va_up (fun j => (lk j).map ad) i.toNatClampNeg (some (ad κ')) = fun j => (wk_ru lk i.toNatClampNeg κ' j).map ad := by
    funext j
    by_cases hj : j = i.toNatClampNeg
    · simp [va_up, wk_ru, hj]
    · simp [va_up, wk_ru, hj]
  rw [e] at hP1 hD1
  refine wk_H.link (x2 := .inl (.inr (cA, n, wk_ru lk i.toNatClampNeg κ'))) hm hi hcl he hq (fun κ2 h => ?_) hP1 hD1
  obtain ⟨j, h⟩ := h
  by_cases hj : j = i.toNatClampNeg
  · simp only [wk_ru, hj, if_true] at h
    cases h
    exact ⟨_, he'⟩
  · simp only [wk_ru, hj, if_false] at h
    exact hcl κ _ κ2 he ⟨j, h⟩
end WKG
/-! Constructors: their calls and their ends. -/
def wk_ext (F : wk_K3 → Prop) (ad : wk_K3 → Nat) (sh : wk_Sh) (sg : wk_Sg) (ad' : wk_K3 → Nat) (sh' : wk_Sh) (sg' : wk_Sg) : Prop := ∀ κ, ¬ F κ → ad' κ = ad κ ∧ sh' κ = sh κ ∧ sg' κ = sg κ
abbrev wk_U : Type := (wk_K3 → Nat) × wk_Sh × wk_Sg
abbrev wk_Qn (D : va_G) (z0 : Nat) (Φ : (wk_K3 → Nat) → wk_Sh → wk_Sg → Prop) : Array Value → State → Outcome → State → Prop := va_Qv (S := wk_U) (fun u => Φ u.1 u.2.1 u.2.2) (fun u t => wk_H D z0 u.1 u.2.1 u.2.2 t.heap) (wk_A z0)
abbrev wk_Mn (l : Launch) (y : MethodName) (bytes : ByteArray) (maxL : Nat) (fr lo mc ms : Nat) (D : va_G) (T : wk_T) (z0 : Nat) (ad : wk_K3 → Nat) (sh : wk_Sh) (av : List Value) (sg : wk_Sg) (Φ : (wk_K3 → Nat) → wk_Sh → wk_Sg → Prop) : Prop :=
  Met l y (Cond.code y bytes maxL none :: wk_B) { frames := fr, cells := mc, slots := ms, locals := lo } (va_Pc av (wk_Pre D T z0 ad sh sg)) (wk_Qn D z0 Φ) mc ms (wk_A z0)
def wk_OkI (y : MethodName) (bytes : ByteArray) (maxL : Nat) (n : Nat) : Prop := Cond.code y bytes maxL none ∈ wk_B ∧ Cond.initialized y.cls ∈ wk_B ∧ Cond.instanceMethod y ∈ wk_B ∧ y.name = "<init>" ∧ (y.cls ≠ "java/lang/invoke/MethodHandle" ∧ y.cls ≠ "java/lang/invoke/VarHandle" ∧ (parseMethodDescriptor y.desc).map (fun d => d.parameters.length) = some n)
section WKN
variable {p : Program} {l : Launch} {e : Env} {R : Room} {s : State} {m : MethodId} {args : Array Value} {below : List Frame} {meth : Method} {c : Code} {H : Heap} {locs : List Loc} {cells slots : Nat} {Q : State → Prop}
variable {cc : ByteArray} {pc nL : Nat} {ls : Array Slot} {rest st0 : List Value} {D : va_G} {T : wk_T} {H0 : Heap} {z0 : Nat} {ad : wk_K3 → Nat} {sh : wk_Sh} {sg : wk_Sg} {own : String} {Φ : (wk_K3 → Nat) → wk_Sh → wk_Sg → Prop}
theorem wk_nret (X : wk_C p m c cc nL s args own D T) (hH : wk_H D z0 ad sh sg H) (hS : va_S (wk_A z0) s.heap H locs) (hr : meth.sig.returnType = none) (hlocks : meth.locks = false) (hΦ : Φ ad sh sg) (hdg : decode cc pc = .ok (.return_, 1)) : W p l e R s m args below meth c H locs cells slots (MQ below (wk_Qn D z0 Φ) args s cells slots (wk_A z0)) (F0 m pc ls []) :=
  W.vret X.1.1 X.1.2.1 hr (fun t ht _ => ⟨⟨(ad, sh, sg), rfl, hΦ, by show wk_H D z0 ad sh _ t.heap; rw [ht]; exact hH⟩, hS.F ht⟩) hS.2.2 hdg hlocks
theorem wk_rI {y : MethodName} {bytes : ByteArray} {maxL n index fr lo mc ms : Nat} {b : Nat} {As : List Value} {Qc : Array Value → State → Outcome → State → Prop} (X : wk_C p m c cc nL s args own D T) (hH : wk_H D z0 ad sh sg H) (hS : va_S (wk_A z0) s.heap H locs) (hz : z0 ≤ s.heap.size) (ok : wk_OkI y bytes maxL n)
    (hM : Met l y (Cond.code y bytes maxL none :: wk_B) { frames := fr, cells := mc, slots := ms, locals := lo } (va_Pc (.ref b :: As) (wk_Pre D T z0 ad sh sg)) Qc mc ms (wk_A z0)) (hl : Cond.methodLink own index y ∈ wk_B) (hR : fr + 1 ≤ R.frames ∧ 8 + (maxL + 11) + lo ≤ R.locals ∧ cells + mc ≤ R.cells ∧ slots + ms ≤ R.slots) (hn : As.length = n) (hsz : ls.size = nL) (hst : st0 = As.reverse ++ .ref b :: rest) (hrm : (rest.map fun v => v.category).sum ≤ 8) (hdg : decode cc pc = .ok (.invokespecial index, 3)) :
    va_Run p l e R s m args below meth c H locs cells slots mc ms (F0 m pc ls st0) rest (Qc (Value.ref b :: As).toArray) (wk_A z0) := by
  obtain ⟨o1, o2, o3, o4, o5⟩ := ok
  have hts := X.1.2.2.2.2
  exact va_runI X.1 hM ⟨callB_of (ws' := wk_B) n hts (wk_good o1) rfl rfl rfl (hts _ o2) (hts _ hl) o5 ⟨hR.1, hR.2.1⟩, o4, hts _ o3⟩ (wk_preS X.2 hH (Nat.le_trans hz hS.1)) rfl hn hsz hst (lv_room hrm) hdg hR.2.2
theorem wk_cn {mc ms : Nat} {a : Array Value} (hr : va_Run p l e R s m args below meth c H locs cells slots mc ms (F0 m pc ls st0) rest (wk_Qn D z0 Φ a) (wk_A z0)) (hS : va_S (wk_A z0) H0 H locs)
    (kk : ∀ (H1 : Heap) (locs1 : List Loc) (ad' : wk_K3 → Nat) (sh' : wk_Sh) (sg' : wk_Sg), Φ ad' sh' sg' → wk_H D z0 ad' sh' sg' H1 → va_S (wk_A z0) H0 H1 locs1 → W p l e R s m args below meth c H1 locs1 (cells + mc) (slots + ms) Q (F0 m (pc + 3) ls rest)) : W p l e R s m args below meth c H locs cells slots Q (F0 m pc ls st0) :=
  va_callv hr hS (fun _ _ h => h) (fun _ h => h) (fun u _ H1 locs1 ht _ hΦ hB _ _ hS1 => kk H1 locs1 u.1 u.2.1 u.2.2 hΦ (ht ▸ hB) hS1)
theorem wk_obj (X : wk_C p m c cc nL s args own D T) {idx a : Nat} (hl : Cond.methodLink own idx objectInit ∈ wk_B) (hok : Cond.instanceMethod objectInit ∈ wk_B ∧ Cond.code objectInit ⟨#[0xb1]⟩ 1 none ∈ wk_B) (hsz : ls.size = nL) (hR : 1 ≤ R.frames ∧ (rest.map fun v => v.category).sum + 12 ≤ R.locals) (hd : decode cc pc = .ok (.invokespecial idx, 3)) (kk : W p l e R s m args below meth c H locs cells slots Q (F0 m (pc + 3) ls rest)) : W p l e R s m args below meth c H locs cells slots Q (F0 m pc ls (.ref a :: rest)) := by
  obtain ⟨⟨hx, hb, hml, hown, hts⟩, -⟩ := X
  refine W.objInit (rest := rest) hx hb hown (hts _ hl) (hts _ hok.1) (hts _ hok.2) rfl (hsz.trans hml.symm) rfl hd hR.1 ?_ (W.eq rfl kk)
  show 2 * 0 + _ + 12 ≤ _
  omega
/-- an address under another name -/
theorem wk_r0 {a b : Nat} (h : a = b) (k : W p l e R s m args below meth c H locs cells slots Q (F0 m pc ls (.ref b :: rest))) : W p l e R s m args below meth c H locs cells slots Q (F0 m pc ls (.ref a :: rest)) := h ▸ k
theorem wk_r1 {a b : Nat} {v : Value} (h : a = b) (k : W p l e R s m args below meth c H locs cells slots Q (F0 m pc ls (v :: .ref b :: rest))) : W p l e R s m args below meth c H locs cells slots Q (F0 m pc ls (v :: .ref a :: rest)) := h ▸ k
theorem wk_r2 {a b : Nat} {v w : Value} (h : a = b) (k : W p l e R s m args below meth c H locs cells slots Q (F0 m pc ls (v :: w :: .ref b :: rest))) : W p l e R s m args below meth c H locs cells slots Q (F0 m pc ls (v :: w :: .ref a :: rest)) := h ▸ k
end WKN
end
section
def lk_0 : wk_L := fun k => match k with
  | 0 => some (some (1, 0, 0))
  | 1 => some (some (3, 0, 0))
  | 2 => some (some (10, 0, 0))
  | _ => none
def lk_1 : wk_L := fun k => match k with
  | 1 => some (some (2, 0, 0))
  | _ => none
def lk_4 (i : Nat) : wk_L := fun k => match k with
  | 1 => some (some (1, 0, 0))
  | 2 => some (some (5, i, 0))
  | 3 => some (some (6, i, 0))
  | 4 => some (some (7, i, 0))
  | _ => none
def lk_8 (i : Nat) (j : Nat) : wk_L := fun k => match k with
  | 0 => some (some (9, i, j))
  | _ => none
def lk_10 : wk_L := fun k => match k with
  | 0 => some (some (3, 0, 0))
  | 1 => some (some (1, 0, 0))
  | 2 => some (some (11, 0, 0))
  | 3 => some (some (12, 0, 0))
  | _ => none
def lk_20 : wk_L := fun k => match k with
  | 5 => some (some (21, 0, 0))
  | 6 => some (some (22, 0, 0))
  | 8 => some (some (23, 0, 0))
  | 9 => some (some (24, 0, 0))
  | 10 => some (some (25, 0, 0))
  | 11 => some (some (26, 0, 0))
  | 12 => some (some (27, 0, 0))
  | 13 => some (some (28, 0, 0))
  | 14 => some (some (29, 0, 0))
  | 15 => some (some (30, 0, 0))
  | 16 => some (some (31, 0, 0))
  | 22 => some (some (32, 0, 0))
  | 23 => some (some (33, 0, 0))
  | _ => none
def lk_3 (P : Nat → Nat) : Nat → Option wk_K3 := fun i => if i < P 0 then some (4, i, 0) else none
def lk_7 (P : Nat → Nat) (i : Nat) : Nat → Option wk_K3 := fun j => if j < P 1 then some (8, i, j) else none
theorem lk_3p {P : Nat → Nat} {i : Nat} (h : i < P 0) : lk_3 P i = some (4, i, 0) := if_pos h
theorem lk_7p {P : Nat → Nat} {i j : Nat} (h : j < P 1) : lk_7 P i j = some (8, i, j) := if_pos h
theorem wk_inlt {i : Int32} {n : Nat} (h : vp_in i n) : i.toNatClampNeg < n := Nat.not_le.mp (fun q => h (Or.inr q))
def sc_Sh (T : wk_T) (P : Nat → Nat) (sh : wk_Sh) : Prop := sh (0, 0, 0) = some (.inr (4, 4, lk_0)) ∧ sh (1, 0, 0) = some (.inr (2, 2, lk_1)) ∧ sh (2, 0, 0) = some (.inl (.inl (T.1, P 3))) ∧ sh (3, 0, 0) = some (.inl (.inr (T.2.1, P 0, lk_3 P))) ∧ (∀ i, i < P 0 → sh (4, i, 0) = some (.inr (1, 10, lk_4 i))) ∧ (∀ i, i < P 0 → sh (5, i, 0) = some (.inl (.inl (T.1, P 4)))) ∧ (∀ i, i < P 0 → sh (6, i, 0) = some (.inl (.inl (T.1, 4)))) ∧ (∀ i, i < P 0 → sh (7, i, 0) = some (.inl (.inr (T.2.2, P 1, lk_7 P i)))) ∧ (∀ i j, i < P 0 → j < P 1 → sh (8, i, j) = some (.inr (3, 3, lk_8 i j))) ∧ (∀ i j, i < P 0 → j < P 1 → sh (9, i, j) = some (.inl (.inl (T.1, P 2)))) ∧ sh (10, 0, 0) = some (.inr (0, 9, lk_10)) ∧ sh (11, 0, 0) = some (.inl (.inl (T.1, 4))) ∧ sh (12, 0, 0) = some (.inl (.inl (T.1, P 2)))
theorem sc_0 {T : wk_T} {P : Nat → Nat} {sh : wk_Sh} (h : sc_Sh T P sh) : sh (0, 0, 0) = some (.inr (4, 4, lk_0)) := h.1
theorem sc_1 {T : wk_T} {P : Nat → Nat} {sh : wk_Sh} (h : sc_Sh T P sh) : sh (1, 0, 0) = some (.inr (2, 2, lk_1)) := h.2.1
theorem sc_2 {T : wk_T} {P : Nat → Nat} {sh : wk_Sh} (h : sc_Sh T P sh) : sh (2, 0, 0) = some (.inl (.inl (T.1, P 3))) := h.2.2.1
theorem sc_3 {T : wk_T} {P : Nat → Nat} {sh : wk_Sh} (h : sc_Sh T P sh) : sh (3, 0, 0) = some (.inl (.inr (T.2.1, P 0, lk_3 P))) := h.2.2.2.1
theorem sc_4 {T : wk_T} {P : Nat → Nat} {sh : wk_Sh} (h : sc_Sh T P sh) {i : Nat} (hi : i < P 0) : sh (4, i, 0) = some (.inr (1, 10, lk_4 i)) := h.2.2.2.2.1 i hi
theorem sc_5 {T : wk_T} {P : Nat → Nat} {sh : wk_Sh} (h : sc_Sh T P sh) {i : Nat} (hi : i < P 0) : sh (5, i, 0) = some (.inl (.inl (T.1, P 4))) := h.2.2.2.2.2.1 i hi
theorem sc_6 {T : wk_T} {P : Nat → Nat} {sh : wk_Sh} (h : sc_Sh T P sh) {i : Nat} (hi : i < P 0) : sh (6, i, 0) = some (.inl (.inl (T.1, 4))) := h.2.2.2.2.2.2.1 i hi
theorem sc_7 {T : wk_T} {P : Nat → Nat} {sh : wk_Sh} (h : sc_Sh T P sh) {i : Nat} (hi : i < P 0) : sh (7, i, 0) = some (.inl (.inr (T.2.2, P 1, lk_7 P i))) := h.2.2.2.2.2.2.2.1 i hi
theorem sc_8 {T : wk_T} {P : Nat → Nat} {sh : wk_Sh} (h : sc_Sh T P sh) {i j : Nat} (hi : i < P 0) (hj : j < P 1) : sh (8, i, j) = some (.inr (3, 3, lk_8 i j)) := h.2.2.2.2.2.2.2.2.1 i j hi hj
theorem sc_9 {T : wk_T} {P : Nat → Nat} {sh : wk_Sh} (h : sc_Sh T P sh) {i j : Nat} (hi : i < P 0) (hj : j < P 1) : sh (9, i, j) = some (.inl (.inl (T.1, P 2))) := h.2.2.2.2.2.2.2.2.2.1 i j hi hj
theorem sc_10 {T : wk_T} {P : Nat → Nat} {sh : wk_Sh} (h : sc_Sh T P sh) : sh (10, 0, 0) = some (.inr (0, 9, lk_10)) := h.2.2.2.2.2.2.2.2.2.2.1
theorem sc_11 {T : wk_T} {P : Nat → Nat} {sh : wk_Sh} (h : sc_Sh T P sh) : sh (11, 0, 0) = some (.inl (.inl (T.1, 4))) := h.2.2.2.2.2.2.2.2.2.2.2.1
theorem sc_12 {T : wk_T} {P : Nat → Nat} {sh : wk_Sh} (h : sc_Sh T P sh) : sh (12, 0, 0) = some (.inl (.inl (T.1, P 2))) := h.2.2.2.2.2.2.2.2.2.2.2.2
def rf_Sh (T : wk_T) (sh : wk_Sh) : Prop := sh (20, 0, 0) = some (.inr (5, 24, lk_20)) ∧ sh (21, 0, 0) = some (.inl (.inl (T.1, 64))) ∧ sh (22, 0, 0) = some (.inl (.inl (T.1, 128))) ∧ sh (23, 0, 0) = some (.inl (.inl (T.1, 16))) ∧ sh (24, 0, 0) = some (.inl (.inl (T.1, 4))) ∧ sh (25, 0, 0) = some (.inl (.inl (T.1, 4))) ∧ sh (26, 0, 0) = some (.inl (.inl (T.1, 4))) ∧ sh (27, 0, 0) = some (.inl (.inl (T.1, 4))) ∧ sh (28, 0, 0) = some (.inl (.inl (T.1, 4))) ∧ sh (29, 0, 0) = some (.inl (.inl (T.1, 32))) ∧ sh (30, 0, 0) = some (.inl (.inl (T.1, 32))) ∧ sh (31, 0, 0) = some (.inl (.inl (T.1, 128))) ∧ sh (32, 0, 0) = some (.inl (.inl (T.1, 4))) ∧ sh (33, 0, 0) = some (.inl (.inl (T.1, 5)))
theorem rf_20 {T : wk_T} {sh : wk_Sh} (h : rf_Sh T sh) : sh (20, 0, 0) = some (.inr (5, 24, lk_20)) := h.1
theorem rf_21 {T : wk_T} {sh : wk_Sh} (h : rf_Sh T sh) : sh (21, 0, 0) = some (.inl (.inl (T.1, 64))) := h.2.1
theorem rf_22 {T : wk_T} {sh : wk_Sh} (h : rf_Sh T sh) : sh (22, 0, 0) = some (.inl (.inl (T.1, 128))) := h.2.2.1
theorem rf_23 {T : wk_T} {sh : wk_Sh} (h : rf_Sh T sh) : sh (23, 0, 0) = some (.inl (.inl (T.1, 16))) := h.2.2.2.1
theorem rf_24 {T : wk_T} {sh : wk_Sh} (h : rf_Sh T sh) : sh (24, 0, 0) = some (.inl (.inl (T.1, 4))) := h.2.2.2.2.1
theorem rf_25 {T : wk_T} {sh : wk_Sh} (h : rf_Sh T sh) : sh (25, 0, 0) = some (.inl (.inl (T.1, 4))) := h.2.2.2.2.2.1
theorem rf_26 {T : wk_T} {sh : wk_Sh} (h : rf_Sh T sh) : sh (26, 0, 0) = some (.inl (.inl (T.1, 4))) := h.2.2.2.2.2.2.1
theorem rf_27 {T : wk_T} {sh : wk_Sh} (h : rf_Sh T sh) : sh (27, 0, 0) = some (.inl (.inl (T.1, 4))) := h.2.2.2.2.2.2.2.1
theorem rf_28 {T : wk_T} {sh : wk_Sh} (h : rf_Sh T sh) : sh (28, 0, 0) = some (.inl (.inl (T.1, 4))) := h.2.2.2.2.2.2.2.2.1
theorem rf_29 {T : wk_T} {sh : wk_Sh} (h : rf_Sh T sh) : sh (29, 0, 0) = some (.inl (.inl (T.1, 32))) := h.2.2.2.2.2.2.2.2.2.1
theorem rf_30 {T : wk_T} {sh : wk_Sh} (h : rf_Sh T sh) : sh (30, 0, 0) = some (.inl (.inl (T.1, 32))) := h.2.2.2.2.2.2.2.2.2.2.1
theorem rf_31 {T : wk_T} {sh : wk_Sh} (h : rf_Sh T sh) : sh (31, 0, 0) = some (.inl (.inl (T.1, 128))) := h.2.2.2.2.2.2.2.2.2.2.2.1
theorem rf_32 {T : wk_T} {sh : wk_Sh} (h : rf_Sh T sh) : sh (32, 0, 0) = some (.inl (.inl (T.1, 4))) := h.2.2.2.2.2.2.2.2.2.2.2.2.1
theorem rf_33 {T : wk_T} {sh : wk_Sh} (h : rf_Sh T sh) : sh (33, 0, 0) = some (.inl (.inl (T.1, 5))) := h.2.2.2.2.2.2.2.2.2.2.2.2.2
theorem ok_X4_init : wk_OkI yX4_init cX4_init 10 5 := ⟨wk_inT 13 (by decide +kernel) rfl, wk_inT 1 (by decide +kernel) rfl, wk_inT 12 (by decide +kernel) rfl, rfl, by decide +kernel⟩
theorem ok_X4_limited : wk_OkS yX4_limited cX4_limited 3 (some .int) 3 := ⟨wk_inT 19 (by decide +kernel) rfl, wk_inT 1 (by decide +kernel) rfl, wk_inT 18 (by decide +kernel) rfl, by decide +kernel⟩
theorem ok_X2_init : wk_OkI yX2_init cX2_init 3 2 := ⟨wk_inT 30 (by decide +kernel) rfl, wk_inT 3 (by decide +kernel) rfl, wk_inT 29 (by decide +kernel) rfl, rfl, by decide +kernel⟩
theorem ok_X1_init : wk_OkI yX1_init cX1_init 6 4 := ⟨wk_inT 49 (by decide +kernel) rfl, wk_inT 4 (by decide +kernel) rfl, wk_inT 48 (by decide +kernel) rfl, rfl, by decide +kernel⟩
theorem ok_X3_init : wk_OkI yX3_init cX3_init 2 1 := ⟨wk_inT 56 (by decide +kernel) rfl, wk_inT 5 (by decide +kernel) rfl, wk_inT 55 (by decide +kernel) rfl, rfl, by decide +kernel⟩
theorem ok_X0_init : wk_OkI yX0_init cX0_init 3 2 := ⟨wk_inT 126 (by decide +kernel) rfl, wk_inT 6 (by decide +kernel) rfl, wk_inT 125 (by decide +kernel) rfl, rfl, by decide +kernel⟩
theorem ok_X4_load : wk_OkV RX4 yX4_load cX4_load 4 (some .boolean) 3 := ⟨wk_inT 177 (by decide +kernel) rfl, wk_inT 1 (by decide +kernel) rfl, wk_inT 175 (by decide +kernel) rfl, wk_inT 176 (by decide +kernel) rfl, by decide +kernel⟩
theorem ok_X4_hasCore : wk_OkV RX4 yX4_hasCore cX4_hasCore 2 (some .boolean) 1 := ⟨wk_inT 181 (by decide +kernel) rfl, wk_inT 1 (by decide +kernel) rfl, wk_inT 180 (by decide +kernel) rfl, wk_inS 0 (y := yX4_hasCore) (n := 4) (by decide +kernel) rfl, by decide +kernel⟩
theorem ok_X4_within : wk_OkS yX4_within cX4_within 2 (some .boolean) 2 := ⟨wk_inT 184 (by decide +kernel) rfl, wk_inT 1 (by decide +kernel) rfl, wk_inT 183 (by decide +kernel) rfl, by decide +kernel⟩
theorem ok_X4_poke : wk_OkV RX4 yX4_poke cX4_poke 3 (some .boolean) 2 := ⟨wk_inT 188 (by decide +kernel) rfl, wk_inT 1 (by decide +kernel) rfl, wk_inT 186 (by decide +kernel) rfl, wk_inT 187 (by decide +kernel) rfl, by decide +kernel⟩
theorem ok_X2_has : wk_OkV RX2 yX2_has cX2_has 2 (some .boolean) 1 := ⟨wk_inT 192 (by decide +kernel) rfl, wk_inT 3 (by decide +kernel) rfl, wk_inT 190 (by decide +kernel) rfl, wk_inT 191 (by decide +kernel) rfl, by decide +kernel⟩
theorem ok_X4_step : wk_OkV RX4 yX4_step cX4_step 3 (some .int) 1 := ⟨wk_inT 197 (by decide +kernel) rfl, wk_inT 1 (by decide +kernel) rfl, wk_inT 195 (by decide +kernel) rfl, wk_inT 196 (by decide +kernel) rfl, by decide +kernel⟩
theorem ok_X1_goOn : wk_OkV RX1 yX1_goOn cX1_goOn 1 none 0 := ⟨wk_inT 201 (by decide +kernel) rfl, wk_inT 4 (by decide +kernel) rfl, wk_inT 199 (by decide +kernel) rfl, wk_inT 200 (by decide +kernel) rfl, by decide +kernel⟩
theorem ok_X1_tryInstruction : wk_OkV RX1 yX1_tryInstruction cX1_tryInstruction 6 none 1 := ⟨wk_inT 206 (by decide +kernel) rfl, wk_inT 4 (by decide +kernel) rfl, wk_inT 205 (by decide +kernel) rfl, wk_inS 1 (y := yX1_tryInstruction) (n := 10) (by decide +kernel) rfl, by decide +kernel⟩
theorem ok_X1_fieldA : wk_OkS yX1_fieldA cX1_fieldA 1 (some .int) 1 := ⟨wk_inT 209 (by decide +kernel) rfl, wk_inT 4 (by decide +kernel) rfl, wk_inT 208 (by decide +kernel) rfl, by decide +kernel⟩
theorem ok_X1_fieldB : wk_OkS yX1_fieldB cX1_fieldB 1 (some .int) 1 := ⟨wk_inT 212 (by decide +kernel) rfl, wk_inT 4 (by decide +kernel) rfl, wk_inT 211 (by decide +kernel) rfl, by decide +kernel⟩
theorem ok_X1_fieldC : wk_OkS yX1_fieldC cX1_fieldC 1 (some .int) 1 := ⟨wk_inT 215 (by decide +kernel) rfl, wk_inT 4 (by decide +kernel) rfl, wk_inT 214 (by decide +kernel) rfl, by decide +kernel⟩
theorem ok_X1_fieldN : wk_OkS yX1_fieldN cX1_fieldN 1 (some .int) 1 := ⟨wk_inT 218 (by decide +kernel) rfl, wk_inT 4 (by decide +kernel) rfl, wk_inT 217 (by decide +kernel) rfl, by decide +kernel⟩
theorem ok_X1_operation : wk_OkS yX1_operation cX1_operation 1 (some .int) 1 := ⟨wk_inT 221 (by decide +kernel) rfl, wk_inT 4 (by decide +kernel) rfl, wk_inT 220 (by decide +kernel) rfl, by decide +kernel⟩
theorem ok_X1_finish : wk_OkV RX1 yX1_finish cX1_finish 2 none 1 := ⟨wk_inT 225 (by decide +kernel) rfl, wk_inT 4 (by decide +kernel) rfl, wk_inT 224 (by decide +kernel) rfl, wk_inS 2 (y := yX1_finish) (n := 10) (by decide +kernel) rfl, by decide +kernel⟩
theorem ok_X1_answer : wk_OkV RX1 yX1_answer cX1_answer 3 none 2 := ⟨wk_inT 229 (by decide +kernel) rfl, wk_inT 4 (by decide +kernel) rfl, wk_inT 228 (by decide +kernel) rfl, wk_inS 3 (y := yX1_answer) (n := 10) (by decide +kernel) rfl, by decide +kernel⟩
theorem ok_X1_tryAccess : wk_OkV RX1 yX1_tryAccess cX1_tryAccess 6 none 2 := ⟨wk_inT 233 (by decide +kernel) rfl, wk_inT 4 (by decide +kernel) rfl, wk_inT 232 (by decide +kernel) rfl, wk_inS 4 (y := yX1_tryAccess) (n := 10) (by decide +kernel) rfl, by decide +kernel⟩
theorem ok_X2_lineOf : wk_OkV RX2 yX2_lineOf cX2_lineOf 2 (some .int) 1 := ⟨wk_inT 238 (by decide +kernel) rfl, wk_inT 3 (by decide +kernel) rfl, wk_inT 236 (by decide +kernel) rfl, wk_inT 237 (by decide +kernel) rfl, by decide +kernel⟩
theorem ok_X1_slotFor : wk_OkV RX1 yX1_slotFor cX1_slotFor 2 (some (.object "SnoopingCores$Slot")) 1 := ⟨wk_inT 242 (by decide +kernel) rfl, wk_inT 4 (by decide +kernel) rfl, wk_inT 240 (by decide +kernel) rfl, wk_inT 241 (by decide +kernel) rfl, by decide +kernel⟩
theorem ok_X1_indexFor : wk_OkV RX1 yX1_indexFor cX1_indexFor 2 (some .int) 1 := ⟨wk_inT 246 (by decide +kernel) rfl, wk_inT 4 (by decide +kernel) rfl, wk_inT 244 (by decide +kernel) rfl, wk_inT 245 (by decide +kernel) rfl, by decide +kernel⟩
theorem ok_X3_holds : wk_OkV RX3 yX3_holds cX3_holds 2 (some .boolean) 1 := ⟨wk_inT 250 (by decide +kernel) rfl, wk_inT 5 (by decide +kernel) rfl, wk_inT 248 (by decide +kernel) rfl, wk_inT 249 (by decide +kernel) rfl, by decide +kernel⟩
theorem ok_X3_maySetWords : wk_OkV RX3 yX3_maySetWords cX3_maySetWords 1 (some .boolean) 0 := ⟨wk_inT 254 (by decide +kernel) rfl, wk_inT 5 (by decide +kernel) rfl, wk_inT 252 (by decide +kernel) rfl, wk_inT 253 (by decide +kernel) rfl, by decide +kernel⟩
theorem ok_X2_offsetOf : wk_OkV RX2 yX2_offsetOf cX2_offsetOf 2 (some .int) 1 := ⟨wk_inT 258 (by decide +kernel) rfl, wk_inT 3 (by decide +kernel) rfl, wk_inT 256 (by decide +kernel) rfl, wk_inT 257 (by decide +kernel) rfl, by decide +kernel⟩
theorem ok_X1_access : wk_OkV RX1 yX1_access cX1_access 7 none 3 := ⟨wk_inT 262 (by decide +kernel) rfl, wk_inT 4 (by decide +kernel) rfl, wk_inT 261 (by decide +kernel) rfl, wk_inS 5 (y := yX1_access) (n := 10) (by decide +kernel) rfl, by decide +kernel⟩
theorem ok_X3_setWord : wk_OkV RX3 yX3_setWord cX3_setWord 3 none 2 := ⟨wk_inT 266 (by decide +kernel) rfl, wk_inT 5 (by decide +kernel) rfl, wk_inT 264 (by decide +kernel) rfl, wk_inT 265 (by decide +kernel) rfl, by decide +kernel⟩
theorem ok_X1_ask : wk_OkV RX1 yX1_ask cX1_ask 3 none 2 := ⟨wk_inT 270 (by decide +kernel) rfl, wk_inT 4 (by decide +kernel) rfl, wk_inT 269 (by decide +kernel) rfl, wk_inS 6 (y := yX1_ask) (n := 10) (by decide +kernel) rfl, by decide +kernel⟩
theorem ok_X4_bus : wk_OkV RX4 yX4_bus cX4_bus 1 (some .int) 0 := ⟨wk_inT 274 (by decide +kernel) rfl, wk_inT 1 (by decide +kernel) rfl, wk_inT 272 (by decide +kernel) rfl, wk_inT 273 (by decide +kernel) rfl, by decide +kernel⟩
theorem ok_X0_doNextPhase : wk_OkV RX0 yX0_doNextPhase cX0_doNextPhase 4 (some .int) 0 := ⟨wk_inT 278 (by decide +kernel) rfl, wk_inT 6 (by decide +kernel) rfl, wk_inT 276 (by decide +kernel) rfl, wk_inT 277 (by decide +kernel) rfl, by decide +kernel⟩
theorem ok_X0_lowestWithRequest : wk_OkV RX0 yX0_lowestWithRequest cX0_lowestWithRequest 2 (some .int) 0 := ⟨wk_inT 282 (by decide +kernel) rfl, wk_inT 6 (by decide +kernel) rfl, wk_inT 281 (by decide +kernel) rfl, wk_inS 7 (y := yX0_lowestWithRequest) (n := 9) (by decide +kernel) rfl, by decide +kernel⟩
theorem ok_X0_phaseAfter : wk_OkV RX0 yX0_phaseAfter cX0_phaseAfter 3 (some .int) 2 := ⟨wk_inT 287 (by decide +kernel) rfl, wk_inT 6 (by decide +kernel) rfl, wk_inT 286 (by decide +kernel) rfl, wk_inS 8 (y := yX0_phaseAfter) (n := 9) (by decide +kernel) rfl, by decide +kernel⟩
theorem ok_X0_mustWriteBack : wk_OkV RX0 yX0_mustWriteBack cX0_mustWriteBack 2 (some .boolean) 1 := ⟨wk_inT 292 (by decide +kernel) rfl, wk_inT 6 (by decide +kernel) rfl, wk_inT 291 (by decide +kernel) rfl, wk_inS 9 (y := yX0_mustWriteBack) (n := 9) (by decide +kernel) rfl, by decide +kernel⟩
theorem ok_X3_isNewerThanMemory : wk_OkV RX3 yX3_isNewerThanMemory cX3_isNewerThanMemory 1 (some .boolean) 0 := ⟨wk_inT 296 (by decide +kernel) rfl, wk_inT 5 (by decide +kernel) rfl, wk_inT 294 (by decide +kernel) rfl, wk_inT 295 (by decide +kernel) rfl, by decide +kernel⟩
theorem ok_X0_begin : wk_OkV RX0 yX0_begin cX0_begin 2 none 1 := ⟨wk_inT 300 (by decide +kernel) rfl, wk_inT 6 (by decide +kernel) rfl, wk_inT 299 (by decide +kernel) rfl, wk_inS 10 (y := yX0_begin) (n := 9) (by decide +kernel) rfl, by decide +kernel⟩
theorem ok_X1_forgetRequest : wk_OkV RX1 yX1_forgetRequest cX1_forgetRequest 1 none 0 := ⟨wk_inT 304 (by decide +kernel) rfl, wk_inT 4 (by decide +kernel) rfl, wk_inT 302 (by decide +kernel) rfl, wk_inT 303 (by decide +kernel) rfl, by decide +kernel⟩
theorem ok_X2_giveUp : wk_OkV RX2 yX2_giveUp cX2_giveUp 2 none 1 := ⟨wk_inT 308 (by decide +kernel) rfl, wk_inT 3 (by decide +kernel) rfl, wk_inT 306 (by decide +kernel) rfl, wk_inT 307 (by decide +kernel) rfl, by decide +kernel⟩
theorem ok_X0_snoop : wk_OkV RX0 yX0_snoop cX0_snoop 3 none 0 := ⟨wk_inT 316 (by decide +kernel) rfl, wk_inT 6 (by decide +kernel) rfl, wk_inT 315 (by decide +kernel) rfl, wk_inS 11 (y := yX0_snoop) (n := 9) (by decide +kernel) rfl, by decide +kernel⟩
theorem ok_X2_readLine : wk_OkV RX2 yX2_readLine cX2_readLine 3 none 2 := ⟨wk_inT 320 (by decide +kernel) rfl, wk_inT 3 (by decide +kernel) rfl, wk_inT 318 (by decide +kernel) rfl, wk_inT 319 (by decide +kernel) rfl, by decide +kernel⟩
theorem ok_X0_lookOn : wk_OkV RX0 yX0_lookOn cX0_lookOn 2 none 1 := ⟨wk_inT 325 (by decide +kernel) rfl, wk_inT 6 (by decide +kernel) rfl, wk_inT 324 (by decide +kernel) rfl, wk_inS 12 (y := yX0_lookOn) (n := 9) (by decide +kernel) rfl, by decide +kernel⟩
theorem ok_X3_letOthersRead : wk_OkV RX3 yX3_letOthersRead cX3_letOthersRead 1 none 0 := ⟨wk_inT 330 (by decide +kernel) rfl, wk_inT 5 (by decide +kernel) rfl, wk_inT 328 (by decide +kernel) rfl, wk_inT 329 (by decide +kernel) rfl, by decide +kernel⟩
theorem ok_X0_supply : wk_OkV RX0 yX0_supply cX0_supply 3 none 1 := ⟨wk_inT 334 (by decide +kernel) rfl, wk_inT 6 (by decide +kernel) rfl, wk_inT 333 (by decide +kernel) rfl, wk_inS 13 (y := yX0_supply) (n := 9) (by decide +kernel) rfl, by decide +kernel⟩
theorem ok_X3_take : wk_OkV RX3 yX3_take cX3_take 3 none 2 := ⟨wk_inT 338 (by decide +kernel) rfl, wk_inT 5 (by decide +kernel) rfl, wk_inT 336 (by decide +kernel) rfl, wk_inT 337 (by decide +kernel) rfl, by decide +kernel⟩
theorem ok_X0_end : wk_OkV RX0 yX0_end cX0_end 1 none 0 := ⟨wk_inT 343 (by decide +kernel) rfl, wk_inT 6 (by decide +kernel) rfl, wk_inT 342 (by decide +kernel) rfl, wk_inS 14 (y := yX0_end) (n := 9) (by decide +kernel) rfl, by decide +kernel⟩
theorem ok_X4_evict : wk_OkV RX4 yX4_evict cX4_evict 4 (some .int) 2 := ⟨wk_inT 347 (by decide +kernel) rfl, wk_inT 1 (by decide +kernel) rfl, wk_inT 345 (by decide +kernel) rfl, wk_inT 346 (by decide +kernel) rfl, by decide +kernel⟩
theorem ok_X4_hasSlot : wk_OkV RX4 yX4_hasSlot cX4_hasSlot 3 (some .boolean) 2 := ⟨wk_inT 351 (by decide +kernel) rfl, wk_inT 1 (by decide +kernel) rfl, wk_inT 350 (by decide +kernel) rfl, wk_inS 15 (y := yX4_hasSlot) (n := 4) (by decide +kernel) rfl, by decide +kernel⟩
theorem ok_X0_needs : wk_OkV RX0 yX0_needs cX0_needs 4 (some .boolean) 2 := ⟨wk_inT 355 (by decide +kernel) rfl, wk_inT 6 (by decide +kernel) rfl, wk_inT 353 (by decide +kernel) rfl, wk_inT 354 (by decide +kernel) rfl, by decide +kernel⟩
theorem ok_X4_register : wk_OkV RX4 yX4_register cX4_register 3 (some .int) 2 := ⟨wk_inT 361 (by decide +kernel) rfl, wk_inT 1 (by decide +kernel) rfl, wk_inT 359 (by decide +kernel) rfl, wk_inT 360 (by decide +kernel) rfl, by decide +kernel⟩
theorem ok_X4_cpu : wk_OkV RX4 yX4_cpu cX4_cpu 4 (some .int) 2 := ⟨wk_inT 365 (by decide +kernel) rfl, wk_inT 1 (by decide +kernel) rfl, wk_inT 363 (by decide +kernel) rfl, wk_inT 364 (by decide +kernel) rfl, by decide +kernel⟩
theorem ok_X4_slot : wk_OkV RX4 yX4_slot cX4_slot 5 (some .int) 3 := ⟨wk_inT 369 (by decide +kernel) rfl, wk_inT 1 (by decide +kernel) rfl, wk_inT 367 (by decide +kernel) rfl, wk_inT 368 (by decide +kernel) rfl, by decide +kernel⟩
theorem ok_X4_peek : wk_OkV RX4 yX4_peek cX4_peek 5 (some .int) 1 := ⟨wk_inT 373 (by decide +kernel) rfl, wk_inT 1 (by decide +kernel) rfl, wk_inT 371 (by decide +kernel) rfl, wk_inT 372 (by decide +kernel) rfl, by decide +kernel⟩
theorem ok_X4_memory : wk_OkV RX4 yX4_memory cX4_memory 2 (some .int) 1 := ⟨wk_inT 382 (by decide +kernel) rfl, wk_inT 1 (by decide +kernel) rfl, wk_inT 380 (by decide +kernel) rfl, wk_inT 381 (by decide +kernel) rfl, by decide +kernel⟩
theorem ok_X4_state : wk_OkV RX4 yX4_state cX4_state 2 (some .int) 1 := ⟨wk_inT 386 (by decide +kernel) rfl, wk_inT 1 (by decide +kernel) rfl, wk_inT 384 (by decide +kernel) rfl, wk_inT 385 (by decide +kernel) rfl, by decide +kernel⟩
theorem ok_L_cell : wk_OkS yL_cell cL_cell 2 (some .int) 2 := ⟨wk_inT 389 (by decide +kernel) rfl, wk_inT 0 (by decide +kernel) rfl, wk_inT 388 (by decide +kernel) rfl, by decide +kernel⟩
theorem ok_X5_init : wk_OkI yX5_init cX5_init 7 5 := ⟨wk_inT 394 (by decide +kernel) rfl, wk_inT 7 (by decide +kernel) rfl, wk_inT 393 (by decide +kernel) rfl, rfl, by decide +kernel⟩
theorem ok_X5_clamp : wk_OkS yX5_clamp cX5_clamp 3 (some .int) 3 := ⟨wk_inT 398 (by decide +kernel) rfl, wk_inT 7 (by decide +kernel) rfl, wk_inT 397 (by decide +kernel) rfl, by decide +kernel⟩
theorem ok_X5_load : wk_OkV RX5 yX5_load cX5_load 4 (some .boolean) 3 := ⟨wk_inT 475 (by decide +kernel) rfl, wk_inT 7 (by decide +kernel) rfl, wk_inT 473 (by decide +kernel) rfl, wk_inT 474 (by decide +kernel) rfl, by decide +kernel⟩
theorem ok_X5_isCpu : wk_OkV RX5 yX5_isCpu cX5_isCpu 2 (some .boolean) 1 := ⟨wk_inT 479 (by decide +kernel) rfl, wk_inT 7 (by decide +kernel) rfl, wk_inT 478 (by decide +kernel) rfl, wk_inS 16 (y := yX5_isCpu) (n := 24) (by decide +kernel) rfl, by decide +kernel⟩
theorem ok_X5_poke : wk_OkV RX5 yX5_poke cX5_poke 3 (some .boolean) 2 := ⟨wk_inT 483 (by decide +kernel) rfl, wk_inT 7 (by decide +kernel) rfl, wk_inT 481 (by decide +kernel) rfl, wk_inT 482 (by decide +kernel) rfl, by decide +kernel⟩
theorem ok_X5_isAddress : wk_OkV RX5 yX5_isAddress cX5_isAddress 2 (some .boolean) 1 := ⟨wk_inT 487 (by decide +kernel) rfl, wk_inT 7 (by decide +kernel) rfl, wk_inT 486 (by decide +kernel) rfl, wk_inS 17 (y := yX5_isAddress) (n := 24) (by decide +kernel) rfl, by decide +kernel⟩
theorem ok_X5_step : wk_OkV RX5 yX5_step cX5_step 10 (some .int) 1 := ⟨wk_inT 491 (by decide +kernel) rfl, wk_inT 7 (by decide +kernel) rfl, wk_inT 489 (by decide +kernel) rfl, wk_inT 490 (by decide +kernel) rfl, by decide +kernel⟩
theorem ok_X5_answer : wk_OkV RX5 yX5_answer cX5_answer 2 (some .int) 1 := ⟨wk_inT 495 (by decide +kernel) rfl, wk_inT 7 (by decide +kernel) rfl, wk_inT 494 (by decide +kernel) rfl, wk_inS 18 (y := yX5_answer) (n := 24) (by decide +kernel) rfl, by decide +kernel⟩
theorem ok_X5_trap : wk_OkV RX5 yX5_trap cX5_trap 2 (some .int) 1 := ⟨wk_inT 499 (by decide +kernel) rfl, wk_inT 7 (by decide +kernel) rfl, wk_inT 498 (by decide +kernel) rfl, wk_inS 19 (y := yX5_trap) (n := 24) (by decide +kernel) rfl, by decide +kernel⟩
theorem ok_X5_done : wk_OkV RX5 yX5_done cX5_done 3 (some .int) 2 := ⟨wk_inT 503 (by decide +kernel) rfl, wk_inT 7 (by decide +kernel) rfl, wk_inT 502 (by decide +kernel) rfl, wk_inS 20 (y := yX5_done) (n := 24) (by decide +kernel) rfl, by decide +kernel⟩
theorem ok_X5_move : wk_OkV RX5 yX5_move cX5_move 11 (some .int) 5 := ⟨wk_inT 507 (by decide +kernel) rfl, wk_inT 7 (by decide +kernel) rfl, wk_inT 506 (by decide +kernel) rfl, wk_inS 21 (y := yX5_move) (n := 24) (by decide +kernel) rfl, by decide +kernel⟩
theorem ok_X5_stateOf : wk_OkV RX5 yX5_stateOf cX5_stateOf 4 (some .int) 2 := ⟨wk_inT 511 (by decide +kernel) rfl, wk_inT 7 (by decide +kernel) rfl, wk_inT 510 (by decide +kernel) rfl, wk_inS 22 (y := yX5_stateOf) (n := 24) (by decide +kernel) rfl, by decide +kernel⟩
theorem ok_X5_slotOf : wk_OkV RX5 yX5_slotOf cX5_slotOf 3 (some .int) 2 := ⟨wk_inT 515 (by decide +kernel) rfl, wk_inT 7 (by decide +kernel) rfl, wk_inT 514 (by decide +kernel) rfl, wk_inS 23 (y := yX5_slotOf) (n := 24) (by decide +kernel) rfl, by decide +kernel⟩
theorem ok_X5_bus : wk_OkV RX5 yX5_bus cX5_bus 2 (some .int) 0 := ⟨wk_inT 519 (by decide +kernel) rfl, wk_inT 7 (by decide +kernel) rfl, wk_inT 517 (by decide +kernel) rfl, wk_inT 518 (by decide +kernel) rfl, by decide +kernel⟩
theorem ok_X5_take : wk_OkV RX5 yX5_take cX5_take 2 (some .int) 0 := ⟨wk_inT 523 (by decide +kernel) rfl, wk_inT 7 (by decide +kernel) rfl, wk_inT 522 (by decide +kernel) rfl, wk_inS 24 (y := yX5_take) (n := 24) (by decide +kernel) rfl, by decide +kernel⟩
theorem ok_X5_phase : wk_OkV RX5 yX5_phase cX5_phase 2 (some .int) 1 := ⟨wk_inT 527 (by decide +kernel) rfl, wk_inT 7 (by decide +kernel) rfl, wk_inT 526 (by decide +kernel) rfl, wk_inS 25 (y := yX5_phase) (n := 24) (by decide +kernel) rfl, by decide +kernel⟩
theorem ok_X5_supply : wk_OkV RX5 yX5_supply cX5_supply 3 (some .int) 0 := ⟨wk_inT 531 (by decide +kernel) rfl, wk_inT 7 (by decide +kernel) rfl, wk_inT 530 (by decide +kernel) rfl, wk_inS 26 (y := yX5_supply) (n := 24) (by decide +kernel) rfl, by decide +kernel⟩
theorem ok_X5_isDirty : wk_OkS yX5_isDirty cX5_isDirty 1 (some .boolean) 1 := ⟨wk_inT 534 (by decide +kernel) rfl, wk_inT 7 (by decide +kernel) rfl, wk_inT 533 (by decide +kernel) rfl, by decide +kernel⟩
theorem ok_X5_writeBack : wk_OkV RX5 yX5_writeBack cX5_writeBack 3 none 1 := ⟨wk_inT 538 (by decide +kernel) rfl, wk_inT 7 (by decide +kernel) rfl, wk_inT 537 (by decide +kernel) rfl, wk_inS 27 (y := yX5_writeBack) (n := 24) (by decide +kernel) rfl, by decide +kernel⟩
theorem ok_X5_empty : wk_OkV RX5 yX5_empty cX5_empty 3 none 1 := ⟨wk_inT 542 (by decide +kernel) rfl, wk_inT 7 (by decide +kernel) rfl, wk_inT 541 (by decide +kernel) rfl, wk_inS 28 (y := yX5_empty) (n := 24) (by decide +kernel) rfl, by decide +kernel⟩
theorem ok_X5_snoop : wk_OkV RX5 yX5_snoop cX5_snoop 5 (some .int) 0 := ⟨wk_inT 546 (by decide +kernel) rfl, wk_inT 7 (by decide +kernel) rfl, wk_inT 545 (by decide +kernel) rfl, wk_inS 29 (y := yX5_snoop) (n := 24) (by decide +kernel) rfl, by decide +kernel⟩
theorem ok_X5_evict : wk_OkV RX5 yX5_evict cX5_evict 4 (some .int) 2 := ⟨wk_inT 550 (by decide +kernel) rfl, wk_inT 7 (by decide +kernel) rfl, wk_inT 548 (by decide +kernel) rfl, wk_inT 549 (by decide +kernel) rfl, by decide +kernel⟩
theorem ok_X5_register : wk_OkV RX5 yX5_register cX5_register 3 (some .int) 2 := ⟨wk_inT 554 (by decide +kernel) rfl, wk_inT 7 (by decide +kernel) rfl, wk_inT 552 (by decide +kernel) rfl, wk_inT 553 (by decide +kernel) rfl, by decide +kernel⟩
theorem ok_X5_cpu : wk_OkV RX5 yX5_cpu cX5_cpu 3 (some .int) 2 := ⟨wk_inT 558 (by decide +kernel) rfl, wk_inT 7 (by decide +kernel) rfl, wk_inT 556 (by decide +kernel) rfl, wk_inT 557 (by decide +kernel) rfl, by decide +kernel⟩
theorem ok_X5_slot : wk_OkV RX5 yX5_slot cX5_slot 5 (some .int) 3 := ⟨wk_inT 562 (by decide +kernel) rfl, wk_inT 7 (by decide +kernel) rfl, wk_inT 560 (by decide +kernel) rfl, wk_inT 561 (by decide +kernel) rfl, by decide +kernel⟩
theorem ok_X5_peek : wk_OkV RX5 yX5_peek cX5_peek 5 (some .int) 1 := ⟨wk_inT 566 (by decide +kernel) rfl, wk_inT 7 (by decide +kernel) rfl, wk_inT 564 (by decide +kernel) rfl, wk_inT 565 (by decide +kernel) rfl, by decide +kernel⟩
theorem ok_X5_memory : wk_OkV RX5 yX5_memory cX5_memory 2 (some .int) 1 := ⟨wk_inT 570 (by decide +kernel) rfl, wk_inT 7 (by decide +kernel) rfl, wk_inT 568 (by decide +kernel) rfl, wk_inT 569 (by decide +kernel) rfl, by decide +kernel⟩
theorem ok_X5_state : wk_OkV RX5 yX5_state cX5_state 2 (some .int) 1 := ⟨wk_inT 574 (by decide +kernel) rfl, wk_inT 7 (by decide +kernel) rfl, wk_inT 572 (by decide +kernel) rfl, wk_inT 573 (by decide +kernel) rfl, by decide +kernel⟩
end
section
def ms_X1_forgetRequest (P : Nat → Nat) (sg : wk_Sg) (i : Nat) : wk_Sg := (wk_up (wk_up sg (4, i, 0) 8 0) (4, i, 0) 9 (-1))
set_option maxHeartbeats 4000000 in
set_option maxRecDepth 100000 in
theorem mk_X1_forgetRequest {l : Launch} {D : va_G} {T : wk_T} {z0 : Nat} {ad : wk_K3 → Nat} {sh : wk_Sh} {P : Nat → Nat} (hSh : sc_Sh T P sh) (sg : wk_Sg) (i : Nat) (hi : i < P 0)  : wk_Mv l yX1_forgetRequest cX1_forgetRequest 1 none 0 0 D T z0 ad sh [.ref (ad (4, i, 0))] sg (ms_X1_forgetRequest P sg i) := by
  refine Met.ofW (cc := cX1_forgetRequest) (maxL := 1) (ret := none) (by decide) rfl ?_
  intro p e s m args below meth c s₁ B hml hv
  obtain ⟨rfl, hz, hH, hK⟩ := hv
  have hx := B.exec
  have hb := B.bytes
  have hr := B.returns
  have hlocks := B.notSynchronized
  have hts : ∀ w ∈ wk_B, w.before _ s = true := fun w hw => atoms_spec (ws := Cond.code yX1_forgetRequest cX1_forgetRequest 1 none :: wk_B) B.pre w (List.mem_cons_of_mem _ hw)
  have X : wk_C p m c cX1_forgetRequest 1 s _ RX1 D T := ⟨⟨hx, hb, hml, findClass_of_methodNamed B.named, hts⟩, hK⟩
  have hS : va_S (wk_A z0) s.heap s.heap [] := va_S.rf
  have hl := lv_entry ([.ref (ad (4, i, 0))]) (n := 1) (Nat.le_of_ble_eq_true rfl)
  rw [lg_entry_eq]
  generalize (lg_sl ([.ref (ad (4, i, 0))]) ++ List.replicate (1 - (lg_sl ([.ref (ad (4, i, 0))])).length) Slot.unset).toArray = ls at hl ⊢
  have hl : lv_has ls 1 [(0, .ref (ad (4, i, 0)))] := hl
  refine lv_aload_n (pc := 0) hx hb dX1_forgetRequest_0 rfl (lv_at hl 0 rfl) ?_
  refine lv_iconst (pc := 1) (v := 0) hx hb dX1_forgetRequest_1 (by decide) ?_
  refine wk_puti (pc := 2) X hH hS (4, i, 0) 8 tyX1_ok nmX1 (sc_4 hSh hi) rfl (by decide) rfl inX1 fl_X1_25 rfl rfl rfl dX1_forgetRequest_2 (fun H locs hH hS => ?_)
  refine lv_aload_n (pc := 5) hx hb dX1_forgetRequest_5 rfl (lv_at hl 0 rfl) ?_
  refine lv_iconst (pc := 6) (v := (-1)) hx hb dX1_forgetRequest_6 (by decide) ?_
  refine wk_puti (pc := 7) X hH hS (4, i, 0) 9 tyX1_ok nmX1 (sc_4 hSh hi) rfl (by decide) rfl inX1 fl_X1_28 rfl rfl rfl dX1_forgetRequest_7 (fun H locs hH hS => ?_)
  exact wk_vret (pc := 10) X hH hS hr hlocks (by rw [ms_X1_forgetRequest]) dX1_forgetRequest_10

def ms_X0_begin (P : Nat → Nat) (sg : wk_Sg) (i1 : Nat) : wk_Sg := (ms_X1_forgetRequest P (wk_up (wk_up (wk_up sg (10, 0, 0) 6 (sg (4, i1, 0) 0)) (10, 0, 0) 7 ((wk_up sg (10, 0, 0) 6 (sg (4, i1, 0) 0)) (4, i1, 0) 8)) (10, 0, 0) 8 ((wk_up (wk_up sg (10, 0, 0) 6 (sg (4, i1, 0) 0)) (10, 0, 0) 7 ((wk_up sg (10, 0, 0) 6 (sg (4, i1, 0) 0)) (4, i1, 0) 8)) (4, i1, 0) 9)) i1)
set_option maxHeartbeats 4000000 in
set_option maxRecDepth 100000 in
theorem mk_X0_begin {l : Launch} {D : va_G} {T : wk_T} {z0 : Nat} {ad : wk_K3 → Nat} {sh : wk_Sh} {P : Nat → Nat} (hSh : sc_Sh T P sh) (sg : wk_Sg) (i1 : Nat) (hi1 : i1 < P 0)  : wk_Mv l yX0_begin cX0_begin 2 none 1 20 D T z0 ad sh [.ref (ad (10, 0, 0)), .ref (ad (4, i1, 0))] sg (ms_X0_begin P sg i1) := by
  refine Met.ofW (cc := cX0_begin) (maxL := 2) (ret := none) (by decide) rfl ?_
  intro p e s m args below meth c s₁ B hml hv
  obtain ⟨rfl, hz, hH, hK⟩ := hv
  have hx := B.exec
  have hb := B.bytes
  have hr := B.returns
  have hlocks := B.notSynchronized
  have hts : ∀ w ∈ wk_B, w.before _ s = true := fun w hw => atoms_spec (ws := Cond.code yX0_begin cX0_begin 2 none :: wk_B) B.pre w (List.mem_cons_of_mem _ hw)
  have X : wk_C p m c cX0_begin 2 s _ RX0 D T := ⟨⟨hx, hb, hml, findClass_of_methodNamed B.named, hts⟩, hK⟩
  have hS : va_S (wk_A z0) s.heap s.heap [] := va_S.rf
  have hl := lv_entry ([.ref (ad (10, 0, 0)), .ref (ad (4, i1, 0))]) (n := 2) (Nat.le_of_ble_eq_true rfl)
  rw [lg_entry_eq]
  generalize (lg_sl ([.ref (ad (10, 0, 0)), .ref (ad (4, i1, 0))]) ++ List.replicate (2 - (lg_sl ([.ref (ad (10, 0, 0)), .ref (ad (4, i1, 0))])).length) Slot.unset).toArray = ls at hl ⊢
  have hl : lv_has ls 2 [(0, .ref (ad (10, 0, 0))), (1, .ref (ad (4, i1, 0)))] := hl
  refine lv_aload_n (pc := 0) hx hb dX0_begin_0 rfl (lv_at hl 0 rfl) ?_
  refine lv_aload_n (pc := 1) hx hb dX0_begin_1 rfl (lv_at hl 1 rfl) ?_
  refine wk_geti (pc := 2) X hH (4, i1, 0) 0 (sc_4 hSh hi1) rfl (by decide) rfl inX1 fl_X0_107 dX0_begin_2 ?_
  refine wk_puti (pc := 5) X hH hS (10, 0, 0) 6 tyX0_ok nmX0 (sc_10 hSh) rfl (by decide) rfl inX0 fl_X0_23 rfl rfl rfl dX0_begin_5 (fun H locs hH hS => ?_)
  refine lv_aload_n (pc := 8) hx hb dX0_begin_8 rfl (lv_at hl 0 rfl) ?_
  refine lv_aload_n (pc := 9) hx hb dX0_begin_9 rfl (lv_at hl 1 rfl) ?_
  refine wk_geti (pc := 10) X hH (4, i1, 0) 8 (sc_4 hSh hi1) rfl (by decide) rfl inX1 fl_X0_97 dX0_begin_10 ?_
  refine wk_puti (pc := 13) X hH hS (10, 0, 0) 7 tyX0_ok nmX0 (sc_10 hSh) rfl (by decide) rfl inX0 fl_X0_26 rfl rfl rfl dX0_begin_13 (fun H locs hH hS => ?_)
  refine lv_aload_n (pc := 16) hx hb dX0_begin_16 rfl (lv_at hl 0 rfl) ?_
  refine lv_aload_n (pc := 17) hx hb dX0_begin_17 rfl (lv_at hl 1 rfl) ?_
  refine wk_geti (pc := 18) X hH (4, i1, 0) 9 (sc_4 hSh hi1) rfl (by decide) rfl inX1 fl_X0_110 dX0_begin_18 ?_
  refine wk_puti (pc := 21) X hH hS (10, 0, 0) 8 tyX0_ok nmX0 (sc_10 hSh) rfl (by decide) rfl inX0 fl_X0_29 rfl rfl rfl dX0_begin_21 (fun H locs hH hS => ?_)
  refine lv_aload_n (pc := 24) hx hb dX0_begin_24 rfl (lv_at hl 1 rfl) ?_
  refine wk_cv (wk_rV (pc := 25) (As := []) (rest := []) X hH hS hz (sc_4 hSh hi1) rfl ok_X1_forgetRequest (mk_X1_forgetRequest (l := l) (P := P) hSh (wk_up (wk_up (wk_up sg (10, 0, 0) 6 (sg (4, i1, 0) 0)) (10, 0, 0) 7 ((wk_up sg (10, 0, 0) 6 (sg (4, i1, 0) 0)) (4, i1, 0) 8)) (10, 0, 0) 8 ((wk_up (wk_up sg (10, 0, 0) 6 (sg (4, i1, 0) 0)) (10, 0, 0) 7 ((wk_up sg (10, 0, 0) 6 (sg (4, i1, 0) 0)) (4, i1, 0) 8)) (4, i1, 0) 9)) i1 hi1 ) ml_X0_113 ⟨by decide, by decide, by decide, by decide⟩ rfl hl.1 rfl (by decide) dX0_begin_25) hS (fun H locs hH hS => ?_)
  exact wk_vret (pc := 28) X hH hS hr hlocks (by rw [ms_X0_begin]) dX0_begin_28

def mr_X0_lowestWithRequest_L2 : Nat → (Nat → Nat) → wk_Sg → Int32 → Int32
  | 0, _, _, _ => 0
  | n + 1, P, sg, v1 => (if (nI (P 0)) ≤ v1 then (-1) else (if (sg (4, (Int32.toNatClampNeg v1), 0) 8) = 0 then (mr_X0_lowestWithRequest_L2 n P sg  (v1 + 1)) else v1))
def mg_X0_lowestWithRequest_L2 : Nat → (Nat → Nat) → wk_Sg → Int32 → Prop
  | 0, _, _, _ => False
  | n + 1, P, sg, v1 => (((nI (P 0)) ≤ v1 → True) ∧ (¬ (nI (P 0)) ≤ v1 → (vp_in v1 (P 0) ∧ (((sg (4, (Int32.toNatClampNeg v1), 0) 8) = 0 → mg_X0_lowestWithRequest_L2 n P sg  (v1 + 1)) ∧ (¬ (sg (4, (Int32.toNatClampNeg v1), 0) 8) = 0 → True)))))
set_option maxHeartbeats 4000000 in
set_option maxRecDepth 100000 in
theorem mk_X0_lowestWithRequest_L2 {l : Launch} {D : va_G} {T : wk_T} {z0 : Nat} {ad : wk_K3 → Nat} {sh : wk_Sh} {P : Nat → Nat} (hSh : sc_Sh T P sh)   {p : Program} {e : Env} {s : State} {m : MethodId} {args : Array Value} {below : List Frame} {meth : Method} {c : Code} (X : wk_C p m c cX0_lowestWithRequest 2 s args RX0 D T) (hz : z0 ≤ s.heap.size) (hr : meth.sig.returnType = some .int) (hlocks : meth.locks = false) :
    ∀ (n : Nat) (sg : wk_Sg) (v1 : Int32) (r0 : Int32), mr_X0_lowestWithRequest_L2 n P sg  v1 = r0 → mg_X0_lowestWithRequest_L2 n P sg  v1 → ∀ (ls : Array Slot) (H : Heap) (locs : List Loc), lv_has ls 2 [(0, .ref (ad (10, 0, 0))), (1, .int v1)] → wk_H D z0 ad sh sg H → va_S (wk_A z0) s.heap H locs → W p l e (wk_rm 0 0) s m args below meth c H locs 0 0 (MQ below (wk_Qi D z0 ad sh r0 sg) args s 0 0 (wk_A z0)) (F0 m 2 ls []) := by
  have hx := X.1.1
  have hb := X.1.2.1
  have hts := X.1.2.2.2.2
  intro n
  induction n with
  | zero =>
    intro sg v1 r0 hr0 hg ls H locs hl hH hS
    exact (show False from hg).elim
  | succ n ih =>
    intro sg v1 r0 hr0 hg ls H locs hl hH hS
    rw [mg_X0_lowestWithRequest_L2] at hg
    refine lv_iload_n (pc := 2) hx hb dX0_lowestWithRequest_2 rfl (lv_at hl 1 rfl) ?_
    refine lv_aload_n (pc := 3) hx hb dX0_lowestWithRequest_3 rfl (lv_at hl 0 rfl) ?_
    refine wk_getr (pc := 4) X hH (10, 0, 0) 0 (3, 0, 0) (sc_10 hSh) rfl (by decide) rfl inX0 fl_X0_32 dX0_lowestWithRequest_4 ?_
    refine wk_alenR (pc := 7) X hH (3, 0, 0) 1 (sc_3 hSh) rfl dX0_lowestWithRequest_7 ?_
    refine lv_icmp_ge (pc := 8) (tgt := 31) hx hb dX0_lowestWithRequest_8 (by decide) (fun h1 => ?_) (fun h1 => ?_)
    · have hg := hg.1 h1
      refine lv_iconst (pc := 31) (v := (-1)) hx hb dX0_lowestWithRequest_31 (by decide) ?_
      exact wk_iret (pc := 32) X hH hS hr hlocks (by rw [← hr0, mr_X0_lowestWithRequest_L2, if_pos h1]) (rfl) dX0_lowestWithRequest_32
    · have hg := hg.2 h1
      refine lv_aload_n (pc := 11) hx hb dX0_lowestWithRequest_11 rfl (lv_at hl 0 rfl) ?_
      refine wk_getr (pc := 12) X hH (10, 0, 0) 0 (3, 0, 0) (sc_10 hSh) rfl (by decide) rfl inX0 fl_X0_32 dX0_lowestWithRequest_12 ?_
      refine lv_iload_n (pc := 15) hx hb dX0_lowestWithRequest_15 rfl (lv_at hl 1 rfl) ?_
      obtain ⟨o2, hg⟩ := hg
      have b3 := wk_inlt o2
      refine wk_aald (pc := 16) X hH (3, 0, 0) 1 (4, (Int32.toNatClampNeg v1), 0) (sc_3 hSh) rfl o2 (lk_3p b3) dX0_lowestWithRequest_16 ?_
      refine wk_geti (pc := 17) X hH (4, (Int32.toNatClampNeg v1), 0) 8 (sc_4 hSh b3) rfl (by decide) rfl inX1 fl_X0_97 dX0_lowestWithRequest_17 ?_
      refine lv_if_eq (pc := 20) (tgt := 25) hx hb dX0_lowestWithRequest_20 (by decide) (fun h4 => ?_) (fun h4 => ?_)
      · have hg := hg.1 h4
        refine lv_iinc (pc := 25) (k := 1) (v := (v1 + 1)) (lv' := [(1, .int (v1 + 1)), (0, .ref (ad (10, 0, 0)))]) hx hb dX0_lowestWithRequest_25 hl rfl rfl (by decide) rfl (fun ls hl => ?_)
        refine lv_goto (pc := 28) (tgt := 2) hx hb dX0_lowestWithRequest_28 (by decide) ?_
        exact ih sg (v1 + 1) _ (by rw [← hr0, mr_X0_lowestWithRequest_L2, if_neg h1, if_pos h4]) hg ls _ _ (lv_sub hl [1, 0] rfl) hH hS
      · have hg := hg.2 h4
        refine lv_iload_n (pc := 23) hx hb dX0_lowestWithRequest_23 rfl (lv_at hl 1 rfl) ?_
        exact wk_iret (pc := 24) X hH hS hr hlocks (by rw [← hr0, mr_X0_lowestWithRequest_L2, if_neg h1, if_neg h4]) (rfl) dX0_lowestWithRequest_24
def mr_X0_lowestWithRequest (P : Nat → Nat) (sg : wk_Sg)  : Int32 := (mr_X0_lowestWithRequest_L2 5 P sg  0)
def mg_X0_lowestWithRequest (P : Nat → Nat) (sg : wk_Sg)  : Prop := mg_X0_lowestWithRequest_L2 5 P sg  0
set_option maxHeartbeats 4000000 in
set_option maxRecDepth 100000 in
theorem mk_X0_lowestWithRequest {l : Launch} {D : va_G} {T : wk_T} {z0 : Nat} {ad : wk_K3 → Nat} {sh : wk_Sh} {P : Nat → Nat} (hSh : sc_Sh T P sh) (sg : wk_Sg)   (hg : mg_X0_lowestWithRequest P sg ) : wk_Mi l yX0_lowestWithRequest cX0_lowestWithRequest 2 (some .int) 0 0 D T z0 ad sh [.ref (ad (10, 0, 0))] sg (mr_X0_lowestWithRequest P sg ) sg := by
  refine Met.ofW (cc := cX0_lowestWithRequest) (maxL := 2) (ret := (some .int)) (by decide) rfl ?_
  intro p e s m args below meth c s₁ B hml hv
  obtain ⟨rfl, hz, hH, hK⟩ := hv
  have hx := B.exec
  have hb := B.bytes
  have hr := B.returns
  have hlocks := B.notSynchronized
  have hts : ∀ w ∈ wk_B, w.before _ s = true := fun w hw => atoms_spec (ws := Cond.code yX0_lowestWithRequest cX0_lowestWithRequest 2 (some .int) :: wk_B) B.pre w (List.mem_cons_of_mem _ hw)
  have X : wk_C p m c cX0_lowestWithRequest 2 s _ RX0 D T := ⟨⟨hx, hb, hml, findClass_of_methodNamed B.named, hts⟩, hK⟩
  have hS : va_S (wk_A z0) s.heap s.heap [] := va_S.rf
  have hl := lv_entry ([.ref (ad (10, 0, 0))]) (n := 2) (Nat.le_of_ble_eq_true rfl)
  rw [lg_entry_eq]
  generalize (lg_sl ([.ref (ad (10, 0, 0))]) ++ List.replicate (2 - (lg_sl ([.ref (ad (10, 0, 0))])).length) Slot.unset).toArray = ls at hl ⊢
  have hl : lv_has ls 2 [(0, .ref (ad (10, 0, 0)))] := hl
  unfold mg_X0_lowestWithRequest at hg
  refine lv_iconst (pc := 0) (v := 0) hx hb dX0_lowestWithRequest_0 (by decide) ?_
  refine lv_istore_n (pc := 1) (lv' := [(1, .int 0), (0, .ref (ad (10, 0, 0)))]) hx hb dX0_lowestWithRequest_1 rfl hl (by decide) rfl (fun ls hl => ?_)
  exact mk_X0_lowestWithRequest_L2 (P := P) hSh   X hz hr hlocks 5 sg 0 _ (by rw [mr_X0_lowestWithRequest]) hg ls _ _ (lv_sub hl [1, 0] rfl) hH hS

def mr_X4_within (P : Nat → Nat) (sg : wk_Sg) (a1 : Int32) (a2 : Int32) : Int32 := (if a1 < 0 then 0 else (if a2 ≤ a1 then 0 else 1))
theorem mz_X4_within (P : Nat → Nat) (sg : wk_Sg) (a1 : Int32) (a2 : Int32) : mr_X4_within P sg a1 a2 = 0 ∨ mr_X4_within P sg a1 a2 = 1 := by
  unfold mr_X4_within
  repeat' split
  all_goals first | exact Or.inl rfl | exact Or.inr rfl
set_option maxHeartbeats 4000000 in
set_option maxRecDepth 100000 in
theorem mk_X4_within {l : Launch} {D : va_G} {T : wk_T} {z0 : Nat} {ad : wk_K3 → Nat} {sh : wk_Sh} {P : Nat → Nat} (sg : wk_Sg) (a1 : Int32) (a2 : Int32)   : wk_Mi l yX4_within cX4_within 2 (some .boolean) 0 0 D T z0 ad sh [.int a1, .int a2] sg (mr_X4_within P sg a1 a2) sg := by
  refine Met.ofW (cc := cX4_within) (maxL := 2) (ret := (some .boolean)) (by decide) rfl ?_
  intro p e s m args below meth c s₁ B hml hv
  obtain ⟨rfl, hz, hH, hK⟩ := hv
  have hx := B.exec
  have hb := B.bytes
  have hr := B.returns
  have hlocks := B.notSynchronized
  have hts : ∀ w ∈ wk_B, w.before _ s = true := fun w hw => atoms_spec (ws := Cond.code yX4_within cX4_within 2 (some .boolean) :: wk_B) B.pre w (List.mem_cons_of_mem _ hw)
  have X : wk_C p m c cX4_within 2 s _ RX4 D T := ⟨⟨hx, hb, hml, findClass_of_methodNamed B.named, hts⟩, hK⟩
  have hS : va_S (wk_A z0) s.heap s.heap [] := va_S.rf
  have hl := lv_entry ([.int a1, .int a2]) (n := 2) (Nat.le_of_ble_eq_true rfl)
  rw [lg_entry_eq]
  generalize (lg_sl ([.int a1, .int a2]) ++ List.replicate (2 - (lg_sl ([.int a1, .int a2])).length) Slot.unset).toArray = ls at hl ⊢
  have hl : lv_has ls 2 [(0, .int a1), (1, .int a2)] := hl
  refine lv_iload_n (pc := 0) hx hb dX4_within_0 rfl (lv_at hl 0 rfl) ?_
  refine lv_if_lt (pc := 1) (tgt := 13) hx hb dX4_within_1 (by decide) (fun h1 => ?_) (fun h1 => ?_)
  · skip
    refine lv_iconst (pc := 13) (v := 0) hx hb dX4_within_13 (by decide) ?_
    exact wk_zret (pc := 14) X hH hS hr hlocks (Or.inl rfl) (by rw [mr_X4_within, if_pos h1]) (rfl) dX4_within_14
  · skip
    refine lv_iload_n (pc := 4) hx hb dX4_within_4 rfl (lv_at hl 0 rfl) ?_
    refine lv_iload_n (pc := 5) hx hb dX4_within_5 rfl (lv_at hl 1 rfl) ?_
    refine lv_icmp_ge (pc := 6) (tgt := 13) hx hb dX4_within_6 (by decide) (fun h2 => ?_) (fun h2 => ?_)
    · skip
      refine lv_iconst (pc := 13) (v := 0) hx hb dX4_within_13 (by decide) ?_
      exact wk_zret (pc := 14) X hH hS hr hlocks (Or.inl rfl) (by rw [mr_X4_within, if_neg h1, if_pos h2]) (rfl) dX4_within_14
    · skip
      refine lv_iconst (pc := 9) (v := 1) hx hb dX4_within_9 (by decide) ?_
      refine lv_goto (pc := 10) (tgt := 14) hx hb dX4_within_10 (by decide) ?_
      exact wk_zret (pc := 14) X hH hS hr hlocks (Or.inr rfl) (by rw [mr_X4_within, if_neg h1, if_neg h2]) (rfl) dX4_within_14

def mr_X1_indexFor (P : Nat → Nat) (sg : wk_Sg) (i : Nat) (a1 : Int32) : Int32 := (a1 - a1 / (nI (P 1)) * (nI (P 1)))
def mg_X1_indexFor (P : Nat → Nat) (sg : wk_Sg) (i : Nat) (a1 : Int32) : Prop := (¬ (nI (P 1)) = 0 ∧ True)
set_option maxHeartbeats 4000000 in
set_option maxRecDepth 100000 in
theorem mk_X1_indexFor {l : Launch} {D : va_G} {T : wk_T} {z0 : Nat} {ad : wk_K3 → Nat} {sh : wk_Sh} {P : Nat → Nat} (hSh : sc_Sh T P sh) (sg : wk_Sg) (i : Nat) (a1 : Int32) (hi : i < P 0) (hg : mg_X1_indexFor P sg i a1) : wk_Mi l yX1_indexFor cX1_indexFor 2 (some .int) 0 0 D T z0 ad sh [.ref (ad (4, i, 0)), .int a1] sg (mr_X1_indexFor P sg i a1) sg := by
  refine Met.ofW (cc := cX1_indexFor) (maxL := 2) (ret := (some .int)) (by decide) rfl ?_
  intro p e s m args below meth c s₁ B hml hv
  obtain ⟨rfl, hz, hH, hK⟩ := hv
  have hx := B.exec
  have hb := B.bytes
  have hr := B.returns
  have hlocks := B.notSynchronized
  have hts : ∀ w ∈ wk_B, w.before _ s = true := fun w hw => atoms_spec (ws := Cond.code yX1_indexFor cX1_indexFor 2 (some .int) :: wk_B) B.pre w (List.mem_cons_of_mem _ hw)
  have X : wk_C p m c cX1_indexFor 2 s _ RX1 D T := ⟨⟨hx, hb, hml, findClass_of_methodNamed B.named, hts⟩, hK⟩
  have hS : va_S (wk_A z0) s.heap s.heap [] := va_S.rf
  have hl := lv_entry ([.ref (ad (4, i, 0)), .int a1]) (n := 2) (Nat.le_of_ble_eq_true rfl)
  rw [lg_entry_eq]
  generalize (lg_sl ([.ref (ad (4, i, 0)), .int a1]) ++ List.replicate (2 - (lg_sl ([.ref (ad (4, i, 0)), .int a1])).length) Slot.unset).toArray = ls at hl ⊢
  have hl : lv_has ls 2 [(0, .ref (ad (4, i, 0))), (1, .int a1)] := hl
  unfold mg_X1_indexFor at hg
  refine lv_iload_n (pc := 0) hx hb dX1_indexFor_0 rfl (lv_at hl 1 rfl) ?_
  refine lv_aload_n (pc := 1) hx hb dX1_indexFor_1 rfl (lv_at hl 0 rfl) ?_
  refine wk_getr (pc := 2) X hH (4, i, 0) 4 (7, i, 0) (sc_4 hSh hi) rfl (by decide) rfl inX1 fl_X1_43 dX1_indexFor_2 ?_
  refine wk_alenR (pc := 5) X hH (7, i, 0) 2 (sc_7 hSh hi) rfl dX1_indexFor_5 ?_
  obtain ⟨o1, hg⟩ := hg
  refine lv_irem (pc := 6) hx hb dX1_indexFor_6 o1 ?_
  exact wk_iret (pc := 7) X hH hS hr hlocks (by rw [mr_X1_indexFor]) (rfl) dX1_indexFor_7

def mg_X1_slotFor (P : Nat → Nat) (sg : wk_Sg) (i : Nat) (a1 : Int32) : Prop := (mg_X1_indexFor P sg i a1 ∧ (vp_in (mr_X1_indexFor P sg i a1) (P 1) ∧ True))
set_option maxHeartbeats 4000000 in
set_option maxRecDepth 100000 in
theorem mk_X1_slotFor {l : Launch} {D : va_G} {T : wk_T} {z0 : Nat} {ad : wk_K3 → Nat} {sh : wk_Sh} {P : Nat → Nat} (hSh : sc_Sh T P sh) (sg : wk_Sg) (i : Nat) (a1 : Int32) (hi : i < P 0) (hg : mg_X1_slotFor P sg i a1) : wk_Mr l yX1_slotFor cX1_slotFor 2 (some (.object "SnoopingCores$Slot")) 1 21 D T z0 ad sh [.ref (ad (4, i, 0)), .int a1] sg (8, i, (Int32.toNatClampNeg (mr_X1_indexFor P sg i a1))) sg := by
  refine Met.ofW (cc := cX1_slotFor) (maxL := 2) (ret := (some (.object "SnoopingCores$Slot"))) (by decide) rfl ?_
  intro p e s m args below meth c s₁ B hml hv
  obtain ⟨rfl, hz, hH, hK⟩ := hv
  have hx := B.exec
  have hb := B.bytes
  have hr := B.returns
  have hlocks := B.notSynchronized
  have hts : ∀ w ∈ wk_B, w.before _ s = true := fun w hw => atoms_spec (ws := Cond.code yX1_slotFor cX1_slotFor 2 (some (.object "SnoopingCores$Slot")) :: wk_B) B.pre w (List.mem_cons_of_mem _ hw)
  have X : wk_C p m c cX1_slotFor 2 s _ RX1 D T := ⟨⟨hx, hb, hml, findClass_of_methodNamed B.named, hts⟩, hK⟩
  have hS : va_S (wk_A z0) s.heap s.heap [] := va_S.rf
  have hl := lv_entry ([.ref (ad (4, i, 0)), .int a1]) (n := 2) (Nat.le_of_ble_eq_true rfl)
  rw [lg_entry_eq]
  generalize (lg_sl ([.ref (ad (4, i, 0)), .int a1]) ++ List.replicate (2 - (lg_sl ([.ref (ad (4, i, 0)), .int a1])).length) Slot.unset).toArray = ls at hl ⊢
  have hl : lv_has ls 2 [(0, .ref (ad (4, i, 0))), (1, .int a1)] := hl
  unfold mg_X1_slotFor at hg
  refine lv_aload_n (pc := 0) hx hb dX1_slotFor_0 rfl (lv_at hl 0 rfl) ?_
  refine wk_getr (pc := 1) X hH (4, i, 0) 4 (7, i, 0) (sc_4 hSh hi) rfl (by decide) rfl inX1 fl_X1_43 dX1_slotFor_1 ?_
  refine lv_aload_n (pc := 4) hx hb dX1_slotFor_4 rfl (lv_at hl 0 rfl) ?_
  refine lv_iload_n (pc := 5) hx hb dX1_slotFor_5 rfl (lv_at hl 1 rfl) ?_
  obtain ⟨o1, hg⟩ := hg
  refine wk_ci (wk_rV (pc := 6) (As := [.int a1]) (rest := [.ref (ad (7, i, 0))]) X hH hS hz (sc_4 hSh hi) rfl ok_X1_indexFor (mk_X1_indexFor (l := l) (P := P) hSh sg i a1 hi o1) ml_X1_55 ⟨by decide, by decide, by decide, by decide⟩ rfl hl.1 rfl (by decide) dX1_slotFor_6) hS (fun H locs hH hS => ?_)
  obtain ⟨o2, hg⟩ := hg
  have b3 := wk_inlt o2
  refine wk_aald (pc := 9) X hH (7, i, 0) 2 (8, i, (Int32.toNatClampNeg (mr_X1_indexFor P sg i a1))) (sc_7 hSh hi) rfl o2 (lk_7p b3) dX1_slotFor_9 ?_
  exact wk_aret (pc := 10) X hH hS hr hlocks (rfl) (rfl) dX1_slotFor_10
theorem mb_X1_slotFor (P : Nat → Nat) (sg : wk_Sg) (i : Nat) (a1 : Int32) (h : mg_X1_slotFor P sg i a1) : (Int32.toNatClampNeg (mr_X1_indexFor P sg i a1)) < P 1 := by
  unfold mg_X1_slotFor at h
  exact wk_inlt h.2.1

def mr_X3_isNewerThanMemory (P : Nat → Nat) (sg : wk_Sg) (i : Nat) (j : Nat) : Int32 := (if (sg (8, i, j) 1) = 3 then 1 else (if (sg (8, i, j) 1) = 4 then 1 else 0))
theorem mz_X3_isNewerThanMemory (P : Nat → Nat) (sg : wk_Sg) (i : Nat) (j : Nat) : mr_X3_isNewerThanMemory P sg i j = 0 ∨ mr_X3_isNewerThanMemory P sg i j = 1 := by
  unfold mr_X3_isNewerThanMemory
  repeat' split
  all_goals first | exact Or.inl rfl | exact Or.inr rfl
set_option maxHeartbeats 4000000 in
set_option maxRecDepth 100000 in
theorem mk_X3_isNewerThanMemory {l : Launch} {D : va_G} {T : wk_T} {z0 : Nat} {ad : wk_K3 → Nat} {sh : wk_Sh} {P : Nat → Nat} (hSh : sc_Sh T P sh) (sg : wk_Sg) (i : Nat) (j : Nat) (hi : i < P 0) (hj : j < P 1)  : wk_Mi l yX3_isNewerThanMemory cX3_isNewerThanMemory 1 (some .boolean) 0 0 D T z0 ad sh [.ref (ad (8, i, j))] sg (mr_X3_isNewerThanMemory P sg i j) sg := by
  refine Met.ofW (cc := cX3_isNewerThanMemory) (maxL := 1) (ret := (some .boolean)) (by decide) rfl ?_
  intro p e s m args below meth c s₁ B hml hv
  obtain ⟨rfl, hz, hH, hK⟩ := hv
  have hx := B.exec
  have hb := B.bytes
  have hr := B.returns
  have hlocks := B.notSynchronized
  have hts : ∀ w ∈ wk_B, w.before _ s = true := fun w hw => atoms_spec (ws := Cond.code yX3_isNewerThanMemory cX3_isNewerThanMemory 1 (some .boolean) :: wk_B) B.pre w (List.mem_cons_of_mem _ hw)
  have X : wk_C p m c cX3_isNewerThanMemory 1 s _ RX3 D T := ⟨⟨hx, hb, hml, findClass_of_methodNamed B.named, hts⟩, hK⟩
  have hS : va_S (wk_A z0) s.heap s.heap [] := va_S.rf
  have hl := lv_entry ([.ref (ad (8, i, j))]) (n := 1) (Nat.le_of_ble_eq_true rfl)
  rw [lg_entry_eq]
  generalize (lg_sl ([.ref (ad (8, i, j))]) ++ List.replicate (1 - (lg_sl ([.ref (ad (8, i, j))])).length) Slot.unset).toArray = ls at hl ⊢
  have hl : lv_has ls 1 [(0, .ref (ad (8, i, j)))] := hl
  refine lv_aload_n (pc := 0) hx hb dX3_isNewerThanMemory_0 rfl (lv_at hl 0 rfl) ?_
  refine wk_geti (pc := 1) X hH (8, i, j) 1 (sc_8 hSh hi hj) rfl (by decide) rfl inX3 fl_X3_9 dX3_isNewerThanMemory_1 ?_
  refine lv_iconst (pc := 4) (v := 3) hx hb dX3_isNewerThanMemory_4 (by decide) ?_
  refine lv_icmp_eq (pc := 5) (tgt := 16) hx hb dX3_isNewerThanMemory_5 (by decide) (fun h1 => ?_) (fun h1 => ?_)
  · skip
    refine lv_iconst (pc := 16) (v := 1) hx hb dX3_isNewerThanMemory_16 (by decide) ?_
    refine lv_goto (pc := 17) (tgt := 21) hx hb dX3_isNewerThanMemory_17 (by decide) ?_
    exact wk_zret (pc := 21) X hH hS hr hlocks (Or.inr rfl) (by rw [mr_X3_isNewerThanMemory, if_pos h1]) (rfl) dX3_isNewerThanMemory_21
  · skip
    refine lv_aload_n (pc := 8) hx hb dX3_isNewerThanMemory_8 rfl (lv_at hl 0 rfl) ?_
    refine wk_geti (pc := 9) X hH (8, i, j) 1 (sc_8 hSh hi hj) rfl (by decide) rfl inX3 fl_X3_9 dX3_isNewerThanMemory_9 ?_
    refine lv_iconst (pc := 12) (v := 4) hx hb dX3_isNewerThanMemory_12 (by decide) ?_
    refine lv_icmp_ne (pc := 13) (tgt := 20) hx hb dX3_isNewerThanMemory_13 (by decide) (fun h2 => ?_) (fun h2 => ?_)
    · skip
      refine lv_iconst (pc := 20) (v := 0) hx hb dX3_isNewerThanMemory_20 (by decide) ?_
      exact wk_zret (pc := 21) X hH hS hr hlocks (Or.inl rfl) (by rw [mr_X3_isNewerThanMemory, if_neg h1, if_neg h2]) (rfl) dX3_isNewerThanMemory_21
    · skip
      refine lv_iconst (pc := 16) (v := 1) hx hb dX3_isNewerThanMemory_16 (by decide) ?_
      refine lv_goto (pc := 17) (tgt := 21) hx hb dX3_isNewerThanMemory_17 (by decide) ?_
      exact wk_zret (pc := 21) X hH hS hr hlocks (Or.inr rfl) (by rw [mr_X3_isNewerThanMemory, if_neg h1, if_pos h2]) (rfl) dX3_isNewerThanMemory_21

def mr_X0_mustWriteBack (P : Nat → Nat) (sg : wk_Sg) (i1 : Nat) (j1 : Nat) : Int32 := (if (mr_X3_isNewerThanMemory P sg i1 j1) = 0 then 0 else (if (sg (8, i1, j1) 2) = (sg (10, 0, 0) 8) then 0 else 1))
theorem mz_X0_mustWriteBack (P : Nat → Nat) (sg : wk_Sg) (i1 : Nat) (j1 : Nat) : mr_X0_mustWriteBack P sg i1 j1 = 0 ∨ mr_X0_mustWriteBack P sg i1 j1 = 1 := by
  unfold mr_X0_mustWriteBack
  repeat' split
  all_goals first | exact Or.inl rfl | exact Or.inr rfl | apply mz_X3_isNewerThanMemory
set_option maxHeartbeats 4000000 in
set_option maxRecDepth 100000 in
theorem mk_X0_mustWriteBack {l : Launch} {D : va_G} {T : wk_T} {z0 : Nat} {ad : wk_K3 → Nat} {sh : wk_Sh} {P : Nat → Nat} (hSh : sc_Sh T P sh) (sg : wk_Sg) (i1 : Nat) (j1 : Nat) (hi1 : i1 < P 0) (hj1 : j1 < P 1)  : wk_Mi l yX0_mustWriteBack cX0_mustWriteBack 2 (some .boolean) 1 20 D T z0 ad sh [.ref (ad (10, 0, 0)), .ref (ad (8, i1, j1))] sg (mr_X0_mustWriteBack P sg i1 j1) sg := by
  refine Met.ofW (cc := cX0_mustWriteBack) (maxL := 2) (ret := (some .boolean)) (by decide) rfl ?_
  intro p e s m args below meth c s₁ B hml hv
  obtain ⟨rfl, hz, hH, hK⟩ := hv
  have hx := B.exec
  have hb := B.bytes
  have hr := B.returns
  have hlocks := B.notSynchronized
  have hts : ∀ w ∈ wk_B, w.before _ s = true := fun w hw => atoms_spec (ws := Cond.code yX0_mustWriteBack cX0_mustWriteBack 2 (some .boolean) :: wk_B) B.pre w (List.mem_cons_of_mem _ hw)
  have X : wk_C p m c cX0_mustWriteBack 2 s _ RX0 D T := ⟨⟨hx, hb, hml, findClass_of_methodNamed B.named, hts⟩, hK⟩
  have hS : va_S (wk_A z0) s.heap s.heap [] := va_S.rf
  have hl := lv_entry ([.ref (ad (10, 0, 0)), .ref (ad (8, i1, j1))]) (n := 2) (Nat.le_of_ble_eq_true rfl)
  rw [lg_entry_eq]
  generalize (lg_sl ([.ref (ad (10, 0, 0)), .ref (ad (8, i1, j1))]) ++ List.replicate (2 - (lg_sl ([.ref (ad (10, 0, 0)), .ref (ad (8, i1, j1))])).length) Slot.unset).toArray = ls at hl ⊢
  have hl : lv_has ls 2 [(0, .ref (ad (10, 0, 0))), (1, .ref (ad (8, i1, j1)))] := hl
  refine lv_aload_n (pc := 0) hx hb dX0_mustWriteBack_0 rfl (lv_at hl 1 rfl) ?_
  refine wk_ci (wk_rV (pc := 1) (As := []) (rest := []) X hH hS hz (sc_8 hSh hi1 hj1) rfl ok_X3_isNewerThanMemory (mk_X3_isNewerThanMemory (l := l) (P := P) hSh sg i1 j1 hi1 hj1 ) ml_X0_102 ⟨by decide, by decide, by decide, by decide⟩ rfl hl.1 rfl (by decide) dX0_mustWriteBack_1) hS (fun H locs hH hS => ?_)
  refine lv_if_eq (pc := 4) (tgt := 22) hx hb dX0_mustWriteBack_4 (by decide) (fun h1 => ?_) (fun h1 => ?_)
  · skip
    refine lv_iconst (pc := 22) (v := 0) hx hb dX0_mustWriteBack_22 (by decide) ?_
    exact wk_zret (pc := 23) X hH hS hr hlocks (Or.inl rfl) (by rw [mr_X0_mustWriteBack, if_pos h1]) (rfl) dX0_mustWriteBack_23
  · skip
    refine lv_aload_n (pc := 7) hx hb dX0_mustWriteBack_7 rfl (lv_at hl 1 rfl) ?_
    refine wk_geti (pc := 8) X hH (8, i1, j1) 2 (sc_8 hSh hi1 hj1) rfl (by decide) rfl inX3 fl_X0_106 dX0_mustWriteBack_8 ?_
    refine lv_aload_n (pc := 11) hx hb dX0_mustWriteBack_11 rfl (lv_at hl 0 rfl) ?_
    refine wk_geti (pc := 12) X hH (10, 0, 0) 8 (sc_10 hSh) rfl (by decide) rfl inX0 fl_X0_29 dX0_mustWriteBack_12 ?_
    refine lv_icmp_eq (pc := 15) (tgt := 22) hx hb dX0_mustWriteBack_15 (by decide) (fun h2 => ?_) (fun h2 => ?_)
    · skip
      refine lv_iconst (pc := 22) (v := 0) hx hb dX0_mustWriteBack_22 (by decide) ?_
      exact wk_zret (pc := 23) X hH hS hr hlocks (Or.inl rfl) (by rw [mr_X0_mustWriteBack, if_neg h1, if_pos h2]) (rfl) dX0_mustWriteBack_23
    · skip
      refine lv_iconst (pc := 18) (v := 1) hx hb dX0_mustWriteBack_18 (by decide) ?_
      refine lv_goto (pc := 19) (tgt := 23) hx hb dX0_mustWriteBack_19 (by decide) ?_
      exact wk_zret (pc := 23) X hH hS hr hlocks (Or.inr rfl) (by rw [mr_X0_mustWriteBack, if_neg h1, if_neg h2]) (rfl) dX0_mustWriteBack_23

def mr_X0_phaseAfter (P : Nat → Nat) (sg : wk_Sg) (a1 : Int32) (i2 : Nat) : Int32 := (if a1 = 0 then 1 else (if a1 = 1 then (if (mr_X0_mustWriteBack P sg i2 (Int32.toNatClampNeg (mr_X1_indexFor P sg i2 (sg (10, 0, 0) 8)))) = 0 then 3 else 2) else (if a1 = 2 then 3 else 4)))
def mg_X0_phaseAfter (P : Nat → Nat) (sg : wk_Sg) (a1 : Int32) (i2 : Nat) : Prop := ((a1 = 0 → True) ∧ (¬ a1 = 0 → ((a1 = 1 → (mg_X1_slotFor P sg i2 (sg (10, 0, 0) 8) ∧ (((mr_X0_mustWriteBack P sg i2 (Int32.toNatClampNeg (mr_X1_indexFor P sg i2 (sg (10, 0, 0) 8)))) = 0 → True) ∧ (¬ (mr_X0_mustWriteBack P sg i2 (Int32.toNatClampNeg (mr_X1_indexFor P sg i2 (sg (10, 0, 0) 8)))) = 0 → True)))) ∧ (¬ a1 = 1 → ((a1 = 2 → True) ∧ (¬ a1 = 2 → True))))))
set_option maxHeartbeats 4000000 in
set_option maxRecDepth 100000 in
theorem mk_X0_phaseAfter {l : Launch} {D : va_G} {T : wk_T} {z0 : Nat} {ad : wk_K3 → Nat} {sh : wk_Sh} {P : Nat → Nat} (hSh : sc_Sh T P sh) (sg : wk_Sg) (a1 : Int32) (i2 : Nat) (hi2 : i2 < P 0) (hg : mg_X0_phaseAfter P sg a1 i2) : wk_Mi l yX0_phaseAfter cX0_phaseAfter 3 (some .int) 2 42 D T z0 ad sh [.ref (ad (10, 0, 0)), .int a1, .ref (ad (4, i2, 0))] sg (mr_X0_phaseAfter P sg a1 i2) sg := by
  refine Met.ofW (cc := cX0_phaseAfter) (maxL := 3) (ret := (some .int)) (by decide) rfl ?_
  intro p e s m args below meth c s₁ B hml hv
  obtain ⟨rfl, hz, hH, hK⟩ := hv
  have hx := B.exec
  have hb := B.bytes
  have hr := B.returns
  have hlocks := B.notSynchronized
  have hts : ∀ w ∈ wk_B, w.before _ s = true := fun w hw => atoms_spec (ws := Cond.code yX0_phaseAfter cX0_phaseAfter 3 (some .int) :: wk_B) B.pre w (List.mem_cons_of_mem _ hw)
  have X : wk_C p m c cX0_phaseAfter 3 s _ RX0 D T := ⟨⟨hx, hb, hml, findClass_of_methodNamed B.named, hts⟩, hK⟩
  have hS : va_S (wk_A z0) s.heap s.heap [] := va_S.rf
  have hl := lv_entry ([.ref (ad (10, 0, 0)), .int a1, .ref (ad (4, i2, 0))]) (n := 3) (Nat.le_of_ble_eq_true rfl)
  rw [lg_entry_eq]
  generalize (lg_sl ([.ref (ad (10, 0, 0)), .int a1, .ref (ad (4, i2, 0))]) ++ List.replicate (3 - (lg_sl ([.ref (ad (10, 0, 0)), .int a1, .ref (ad (4, i2, 0))])).length) Slot.unset).toArray = ls at hl ⊢
  have hl : lv_has ls 3 [(0, .ref (ad (10, 0, 0))), (1, .int a1), (2, .ref (ad (4, i2, 0)))] := hl
  unfold mg_X0_phaseAfter at hg
  refine lv_iload_n (pc := 0) hx hb dX0_phaseAfter_0 rfl (lv_at hl 1 rfl) ?_
  by_cases w1 : a1 = 0
  · have hg := hg.1 w1
    refine wk_tin (pc := 1) (off := 27) (tgt := 28) X w1 dX0_phaseAfter_1 (by decide) (by decide) (by decide) (by decide) ?_
    refine lv_iconst (pc := 28) (v := 1) hx hb dX0_phaseAfter_28 (by decide) ?_
    exact wk_iret (pc := 29) X hH hS hr hlocks (by rw [mr_X0_phaseAfter, if_pos w1]) (rfl) dX0_phaseAfter_29
  · have hg := hg.2 w1
    by_cases w2 : a1 = 1
    · have hg := hg.1 w2
      refine wk_tin (pc := 1) (off := 29) (tgt := 30) X w2 dX0_phaseAfter_1 (by decide) (by decide) (by decide) (by decide) ?_
      refine lv_aload_n (pc := 30) hx hb dX0_phaseAfter_30 rfl (lv_at hl 0 rfl) ?_
      refine lv_aload_n (pc := 31) hx hb dX0_phaseAfter_31 rfl (lv_at hl 2 rfl) ?_
      refine lv_aload_n (pc := 32) hx hb dX0_phaseAfter_32 rfl (lv_at hl 0 rfl) ?_
      refine wk_geti (pc := 33) X hH (10, 0, 0) 8 (sc_10 hSh) rfl (by decide) rfl inX0 fl_X0_29 dX0_phaseAfter_33 ?_
      obtain ⟨o3, hg⟩ := hg
      refine wk_cr (wk_rV (pc := 36) (As := [.int (sg (10, 0, 0) 8)]) (rest := [.ref (ad (10, 0, 0))]) X hH hS hz (sc_4 hSh hi2) rfl ok_X1_slotFor (mk_X1_slotFor (l := l) (P := P) hSh sg i2 (sg (10, 0, 0) 8) hi2 o3) ml_X0_80 ⟨by decide, by decide, by decide, by decide⟩ rfl hl.1 rfl (by decide) dX0_phaseAfter_36) hS (fun H locs hH hS => ?_)
      have b4 := mb_X1_slotFor P sg i2 (sg (10, 0, 0) 8) o3
      refine wk_ci (wk_rV (pc := 39) (As := [.ref (ad (8, i2, (Int32.toNatClampNeg (mr_X1_indexFor P sg i2 (sg (10, 0, 0) 8)))))]) (rest := []) X hH hS hz (sc_10 hSh) rfl ok_X0_mustWriteBack (mk_X0_mustWriteBack (l := l) (P := P) hSh sg i2 (Int32.toNatClampNeg (mr_X1_indexFor P sg i2 (sg (10, 0, 0) 8))) hi2 b4 ) ml_X0_98 ⟨by decide, by decide, by decide, by decide⟩ rfl hl.1 rfl (by decide) dX0_phaseAfter_39) hS (fun H locs hH hS => ?_)
      refine lv_if_eq (pc := 42) (tgt := 49) hx hb dX0_phaseAfter_42 (by decide) (fun h5 => ?_) (fun h5 => ?_)
      · have hg := hg.1 h5
        refine lv_iconst (pc := 49) (v := 3) hx hb dX0_phaseAfter_49 (by decide) ?_
        exact wk_iret (pc := 50) X hH hS hr hlocks (by rw [mr_X0_phaseAfter, if_neg w1, if_pos w2, if_pos h5]) (rfl) dX0_phaseAfter_50
      · have hg := hg.2 h5
        refine lv_iconst (pc := 45) (v := 2) hx hb dX0_phaseAfter_45 (by decide) ?_
        refine lv_goto (pc := 46) (tgt := 50) hx hb dX0_phaseAfter_46 (by decide) ?_
        exact wk_iret (pc := 50) X hH hS hr hlocks (by rw [mr_X0_phaseAfter, if_neg w1, if_pos w2, if_neg h5]) (rfl) dX0_phaseAfter_50
    · have hg := hg.2 w2
      by_cases w6 : a1 = 2
      · have hg := hg.1 w6
        refine wk_tin (pc := 1) (off := 50) (tgt := 51) X w6 dX0_phaseAfter_1 (by decide) (by decide) (by decide) (by decide) ?_
        refine lv_iconst (pc := 51) (v := 3) hx hb dX0_phaseAfter_51 (by decide) ?_
        exact wk_iret (pc := 52) X hH hS hr hlocks (by rw [mr_X0_phaseAfter, if_neg w1, if_neg w2, if_pos w6]) (rfl) dX0_phaseAfter_52
      · have hg := hg.2 w6
        refine lv_tableOut (pc := 1) (tgt := 53) hx hb dX0_phaseAfter_1 (wk_tout (fun v h1 h2 hv => ?_)) (by decide) ?_
        · have n0 := lv_neT w1 (show Int32.toInt 0 = 0 from by decide); have n1 := lv_neT w2 (show Int32.toInt 1 = 1 from by decide); have n2 := lv_neT w6 (show Int32.toInt 2 = 2 from by decide); omega
        refine lv_iconst (pc := 53) (v := 4) hx hb dX0_phaseAfter_53 (by decide) ?_
        exact wk_iret (pc := 54) X hH hS hr hlocks (by rw [mr_X0_phaseAfter, if_neg w1, if_neg w2, if_neg w6]) (rfl) dX0_phaseAfter_54

def ms_X2_giveUp (P : Nat → Nat) (sg : wk_Sg) (i1 : Nat) (j1 : Nat) : wk_Sg := (if (mr_X3_isNewerThanMemory P sg i1 j1) = 0 then (wk_up (wk_up sg (8, i1, j1) 1 0) (8, i1, j1) 2 (-1)) else (wk_up (wk_up (wk_su sg (2, 0, 0) (va_cpy (sg (9, i1, j1)) (sg (2, 0, 0)) (Int32.toNatClampNeg 0) (Int32.toNatClampNeg ((sg (8, i1, j1) 2) * (sg (1, 0, 0) 0))) (Int32.toNatClampNeg (sg (1, 0, 0) 0)))) (8, i1, j1) 1 0) (8, i1, j1) 2 (-1)))
def mg_X2_giveUp (P : Nat → Nat) (sg : wk_Sg) (i1 : Nat) (j1 : Nat) : Prop := (((mr_X3_isNewerThanMemory P sg i1 j1) = 0 → True) ∧ (¬ (mr_X3_isNewerThanMemory P sg i1 j1) = 0 → (wk_cp 0 ((sg (8, i1, j1) 2) * (sg (1, 0, 0) 0)) (sg (1, 0, 0) 0) (P 2) (P 3) ∧ True)))
set_option maxHeartbeats 4000000 in
set_option maxRecDepth 100000 in
theorem mk_X2_giveUp {l : Launch} {D : va_G} {T : wk_T} {z0 : Nat} {ad : wk_K3 → Nat} {sh : wk_Sh} {P : Nat → Nat} (hSh : sc_Sh T P sh) (sg : wk_Sg) (i1 : Nat) (j1 : Nat) (hi1 : i1 < P 0) (hj1 : j1 < P 1) (hg : mg_X2_giveUp P sg i1 j1) : wk_Mv l yX2_giveUp cX2_giveUp 2 none 1 26 D T z0 ad sh [.ref (ad (1, 0, 0)), .ref (ad (8, i1, j1))] sg (ms_X2_giveUp P sg i1 j1) := by
  refine Met.ofW (cc := cX2_giveUp) (maxL := 2) (ret := none) (by decide) rfl ?_
  intro p e s m args below meth c s₁ B hml hv
  obtain ⟨rfl, hz, hH, hK⟩ := hv
  have hx := B.exec
  have hb := B.bytes
  have hr := B.returns
  have hlocks := B.notSynchronized
  have hts : ∀ w ∈ wk_B, w.before _ s = true := fun w hw => atoms_spec (ws := Cond.code yX2_giveUp cX2_giveUp 2 none :: wk_B) B.pre w (List.mem_cons_of_mem _ hw)
  have X : wk_C p m c cX2_giveUp 2 s _ RX2 D T := ⟨⟨hx, hb, hml, findClass_of_methodNamed B.named, hts⟩, hK⟩
  have hS : va_S (wk_A z0) s.heap s.heap [] := va_S.rf
  have hl := lv_entry ([.ref (ad (1, 0, 0)), .ref (ad (8, i1, j1))]) (n := 2) (Nat.le_of_ble_eq_true rfl)
  rw [lg_entry_eq]
  generalize (lg_sl ([.ref (ad (1, 0, 0)), .ref (ad (8, i1, j1))]) ++ List.replicate (2 - (lg_sl ([.ref (ad (1, 0, 0)), .ref (ad (8, i1, j1))])).length) Slot.unset).toArray = ls at hl ⊢
  have hl : lv_has ls 2 [(0, .ref (ad (1, 0, 0))), (1, .ref (ad (8, i1, j1)))] := hl
  unfold mg_X2_giveUp at hg
  refine lv_aload_n (pc := 0) hx hb dX2_giveUp_0 rfl (lv_at hl 1 rfl) ?_
  refine wk_ci (wk_rV (pc := 1) (As := []) (rest := []) X hH hS hz (sc_8 hSh hi1 hj1) rfl ok_X3_isNewerThanMemory (mk_X3_isNewerThanMemory (l := l) (P := P) hSh sg i1 j1 hi1 hj1 ) ml_X2_29 ⟨by decide, by decide, by decide, by decide⟩ rfl hl.1 rfl (by decide) dX2_giveUp_1) hS (fun H locs hH hS => ?_)
  refine lv_if_eq (pc := 4) (tgt := 32) hx hb dX2_giveUp_4 (by decide) (fun h1 => ?_) (fun h1 => ?_)
  · have hg := hg.1 h1
    refine lv_aload_n (pc := 32) hx hb dX2_giveUp_32 rfl (lv_at hl 1 rfl) ?_
    refine lv_iconst (pc := 33) (v := 0) hx hb dX2_giveUp_33 (by decide) ?_
    refine wk_puti (pc := 34) X hH hS (8, i1, j1) 1 tyX3_ok nmX3 (sc_8 hSh hi1 hj1) rfl (by decide) rfl inX3 fl_X2_39 rfl rfl rfl dX2_giveUp_34 (fun H locs hH hS => ?_)
    refine lv_aload_n (pc := 37) hx hb dX2_giveUp_37 rfl (lv_at hl 1 rfl) ?_
    refine lv_iconst (pc := 38) (v := (-1)) hx hb dX2_giveUp_38 (by decide) ?_
    refine wk_puti (pc := 39) X hH hS (8, i1, j1) 2 tyX3_ok nmX3 (sc_8 hSh hi1 hj1) rfl (by decide) rfl inX3 fl_X2_36 rfl rfl rfl dX2_giveUp_39 (fun H locs hH hS => ?_)
    exact wk_vret (pc := 42) X hH hS hr hlocks (by rw [ms_X2_giveUp, if_pos h1]) dX2_giveUp_42
  · have hg := hg.2 h1
    refine lv_aload_n (pc := 7) hx hb dX2_giveUp_7 rfl (lv_at hl 1 rfl) ?_
    refine wk_getr (pc := 8) X hH (8, i1, j1) 0 (9, i1, j1) (sc_8 hSh hi1 hj1) rfl (by decide) rfl inX3 fl_X2_35 dX2_giveUp_8 ?_
    refine lv_iconst (pc := 11) (v := 0) hx hb dX2_giveUp_11 (by decide) ?_
    refine lv_aload_n (pc := 12) hx hb dX2_giveUp_12 rfl (lv_at hl 0 rfl) ?_
    refine wk_getr (pc := 13) X hH (1, 0, 0) 1 (2, 0, 0) (sc_1 hSh) rfl (by decide) rfl inX2 fl_X2_15 dX2_giveUp_13 ?_
    refine lv_aload_n (pc := 16) hx hb dX2_giveUp_16 rfl (lv_at hl 1 rfl) ?_
    refine wk_geti (pc := 17) X hH (8, i1, j1) 2 (sc_8 hSh hi1 hj1) rfl (by decide) rfl inX3 fl_X2_36 dX2_giveUp_17 ?_
    refine lv_aload_n (pc := 20) hx hb dX2_giveUp_20 rfl (lv_at hl 0 rfl) ?_
    refine wk_geti (pc := 21) X hH (1, 0, 0) 0 (sc_1 hSh) rfl (by decide) rfl inX2 fl_X2_9 dX2_giveUp_21 ?_
    refine lv_imul (pc := 24) hx hb dX2_giveUp_24 ?_
    refine lv_aload_n (pc := 25) hx hb dX2_giveUp_25 rfl (lv_at hl 0 rfl) ?_
    refine wk_geti (pc := 26) X hH (1, 0, 0) 0 (sc_1 hSh) rfl (by decide) rfl inX2 fl_X2_9 dX2_giveUp_26 ?_
    obtain ⟨o2, hg⟩ := hg
    refine wk_copy (pc := 29) (rest := []) X hl.1 hH hS ml_X2_23 ok_arraycopy (9, i1, j1) (2, 0, 0) (sc_9 hSh hi1 hj1) (sc_2 hSh) o2 ⟨by decide, by decide⟩ dX2_giveUp_29 (fun H locs hH hS => ?_)
    refine lv_aload_n (pc := 32) hx hb dX2_giveUp_32 rfl (lv_at hl 1 rfl) ?_
    refine lv_iconst (pc := 33) (v := 0) hx hb dX2_giveUp_33 (by decide) ?_
    refine wk_puti (pc := 34) X hH hS (8, i1, j1) 1 tyX3_ok nmX3 (sc_8 hSh hi1 hj1) rfl (by decide) rfl inX3 fl_X2_39 rfl rfl rfl dX2_giveUp_34 (fun H locs hH hS => ?_)
    refine lv_aload_n (pc := 37) hx hb dX2_giveUp_37 rfl (lv_at hl 1 rfl) ?_
    refine lv_iconst (pc := 38) (v := (-1)) hx hb dX2_giveUp_38 (by decide) ?_
    refine wk_puti (pc := 39) X hH hS (8, i1, j1) 2 tyX3_ok nmX3 (sc_8 hSh hi1 hj1) rfl (by decide) rfl inX3 fl_X2_36 rfl rfl rfl dX2_giveUp_39 (fun H locs hH hS => ?_)
    exact wk_vret (pc := 42) X hH hS hr hlocks (by rw [ms_X2_giveUp, if_neg h1]) dX2_giveUp_42

def ms_X2_readLine (P : Nat → Nat) (sg : wk_Sg) (a1 : Int32) : wk_Sg := (wk_su sg (12, 0, 0) (va_cpy (sg (2, 0, 0)) (sg (12, 0, 0)) (Int32.toNatClampNeg (a1 * (sg (1, 0, 0) 0))) (Int32.toNatClampNeg 0) (Int32.toNatClampNeg (sg (1, 0, 0) 0))))
def mg_X2_readLine (P : Nat → Nat) (sg : wk_Sg) (a1 : Int32) : Prop := (wk_cp (a1 * (sg (1, 0, 0) 0)) 0 (sg (1, 0, 0) 0) (P 3) (P 2) ∧ True)
set_option maxHeartbeats 4000000 in
set_option maxRecDepth 100000 in
theorem mk_X2_readLine {l : Launch} {D : va_G} {T : wk_T} {z0 : Nat} {ad : wk_K3 → Nat} {sh : wk_Sh} {P : Nat → Nat} (hSh : sc_Sh T P sh) (sg : wk_Sg) (a1 : Int32)  (hg : mg_X2_readLine P sg a1) : wk_Mv l yX2_readLine cX2_readLine 3 none 1 26 D T z0 ad sh [.ref (ad (1, 0, 0)), .int a1, .ref (ad (12, 0, 0))] sg (ms_X2_readLine P sg a1) := by
  refine Met.ofW (cc := cX2_readLine) (maxL := 3) (ret := none) (by decide) rfl ?_
  intro p e s m args below meth c s₁ B hml hv
  obtain ⟨rfl, hz, hH, hK⟩ := hv
  have hx := B.exec
  have hb := B.bytes
  have hr := B.returns
  have hlocks := B.notSynchronized
  have hts : ∀ w ∈ wk_B, w.before _ s = true := fun w hw => atoms_spec (ws := Cond.code yX2_readLine cX2_readLine 3 none :: wk_B) B.pre w (List.mem_cons_of_mem _ hw)
  have X : wk_C p m c cX2_readLine 3 s _ RX2 D T := ⟨⟨hx, hb, hml, findClass_of_methodNamed B.named, hts⟩, hK⟩
  have hS : va_S (wk_A z0) s.heap s.heap [] := va_S.rf
  have hl := lv_entry ([.ref (ad (1, 0, 0)), .int a1, .ref (ad (12, 0, 0))]) (n := 3) (Nat.le_of_ble_eq_true rfl)
  rw [lg_entry_eq]
  generalize (lg_sl ([.ref (ad (1, 0, 0)), .int a1, .ref (ad (12, 0, 0))]) ++ List.replicate (3 - (lg_sl ([.ref (ad (1, 0, 0)), .int a1, .ref (ad (12, 0, 0))])).length) Slot.unset).toArray = ls at hl ⊢
  have hl : lv_has ls 3 [(0, .ref (ad (1, 0, 0))), (1, .int a1), (2, .ref (ad (12, 0, 0)))] := hl
  unfold mg_X2_readLine at hg
  refine lv_aload_n (pc := 0) hx hb dX2_readLine_0 rfl (lv_at hl 0 rfl) ?_
  refine wk_getr (pc := 1) X hH (1, 0, 0) 1 (2, 0, 0) (sc_1 hSh) rfl (by decide) rfl inX2 fl_X2_15 dX2_readLine_1 ?_
  refine lv_iload_n (pc := 4) hx hb dX2_readLine_4 rfl (lv_at hl 1 rfl) ?_
  refine lv_aload_n (pc := 5) hx hb dX2_readLine_5 rfl (lv_at hl 0 rfl) ?_
  refine wk_geti (pc := 6) X hH (1, 0, 0) 0 (sc_1 hSh) rfl (by decide) rfl inX2 fl_X2_9 dX2_readLine_6 ?_
  refine lv_imul (pc := 9) hx hb dX2_readLine_9 ?_
  refine lv_aload_n (pc := 10) hx hb dX2_readLine_10 rfl (lv_at hl 2 rfl) ?_
  refine lv_iconst (pc := 11) (v := 0) hx hb dX2_readLine_11 (by decide) ?_
  refine lv_aload_n (pc := 12) hx hb dX2_readLine_12 rfl (lv_at hl 0 rfl) ?_
  refine wk_geti (pc := 13) X hH (1, 0, 0) 0 (sc_1 hSh) rfl (by decide) rfl inX2 fl_X2_9 dX2_readLine_13 ?_
  obtain ⟨o1, hg⟩ := hg
  refine wk_copy (pc := 16) (rest := []) X hl.1 hH hS ml_X2_23 ok_arraycopy (2, 0, 0) (12, 0, 0) (sc_2 hSh) (sc_12 hSh) o1 ⟨by decide, by decide⟩ dX2_readLine_16 (fun H locs hH hS => ?_)
  exact wk_vret (pc := 19) X hH hS hr hlocks (by rw [ms_X2_readLine]) dX2_readLine_19

def mr_X3_holds (P : Nat → Nat) (sg : wk_Sg) (i : Nat) (j : Nat) (a1 : Int32) : Int32 := (if (sg (8, i, j) 1) = 0 then 0 else (if (sg (8, i, j) 2) = a1 then 1 else 0))
theorem mz_X3_holds (P : Nat → Nat) (sg : wk_Sg) (i : Nat) (j : Nat) (a1 : Int32) : mr_X3_holds P sg i j a1 = 0 ∨ mr_X3_holds P sg i j a1 = 1 := by
  unfold mr_X3_holds
  repeat' split
  all_goals first | exact Or.inl rfl | exact Or.inr rfl
set_option maxHeartbeats 4000000 in
set_option maxRecDepth 100000 in
theorem mk_X3_holds {l : Launch} {D : va_G} {T : wk_T} {z0 : Nat} {ad : wk_K3 → Nat} {sh : wk_Sh} {P : Nat → Nat} (hSh : sc_Sh T P sh) (sg : wk_Sg) (i : Nat) (j : Nat) (a1 : Int32) (hi : i < P 0) (hj : j < P 1)  : wk_Mi l yX3_holds cX3_holds 2 (some .boolean) 0 0 D T z0 ad sh [.ref (ad (8, i, j)), .int a1] sg (mr_X3_holds P sg i j a1) sg := by
  refine Met.ofW (cc := cX3_holds) (maxL := 2) (ret := (some .boolean)) (by decide) rfl ?_
  intro p e s m args below meth c s₁ B hml hv
  obtain ⟨rfl, hz, hH, hK⟩ := hv
  have hx := B.exec
  have hb := B.bytes
  have hr := B.returns
  have hlocks := B.notSynchronized
  have hts : ∀ w ∈ wk_B, w.before _ s = true := fun w hw => atoms_spec (ws := Cond.code yX3_holds cX3_holds 2 (some .boolean) :: wk_B) B.pre w (List.mem_cons_of_mem _ hw)
  have X : wk_C p m c cX3_holds 2 s _ RX3 D T := ⟨⟨hx, hb, hml, findClass_of_methodNamed B.named, hts⟩, hK⟩
  have hS : va_S (wk_A z0) s.heap s.heap [] := va_S.rf
  have hl := lv_entry ([.ref (ad (8, i, j)), .int a1]) (n := 2) (Nat.le_of_ble_eq_true rfl)
  rw [lg_entry_eq]
  generalize (lg_sl ([.ref (ad (8, i, j)), .int a1]) ++ List.replicate (2 - (lg_sl ([.ref (ad (8, i, j)), .int a1])).length) Slot.unset).toArray = ls at hl ⊢
  have hl : lv_has ls 2 [(0, .ref (ad (8, i, j))), (1, .int a1)] := hl
  refine lv_aload_n (pc := 0) hx hb dX3_holds_0 rfl (lv_at hl 0 rfl) ?_
  refine wk_geti (pc := 1) X hH (8, i, j) 1 (sc_8 hSh hi hj) rfl (by decide) rfl inX3 fl_X3_9 dX3_holds_1 ?_
  refine lv_if_eq (pc := 4) (tgt := 19) hx hb dX3_holds_4 (by decide) (fun h1 => ?_) (fun h1 => ?_)
  · skip
    refine lv_iconst (pc := 19) (v := 0) hx hb dX3_holds_19 (by decide) ?_
    exact wk_zret (pc := 20) X hH hS hr hlocks (Or.inl rfl) (by rw [mr_X3_holds, if_pos h1]) (rfl) dX3_holds_20
  · skip
    refine lv_aload_n (pc := 7) hx hb dX3_holds_7 rfl (lv_at hl 0 rfl) ?_
    refine wk_geti (pc := 8) X hH (8, i, j) 2 (sc_8 hSh hi hj) rfl (by decide) rfl inX3 fl_X3_15 dX3_holds_8 ?_
    refine lv_iload_n (pc := 11) hx hb dX3_holds_11 rfl (lv_at hl 1 rfl) ?_
    refine lv_icmp_ne (pc := 12) (tgt := 19) hx hb dX3_holds_12 (by decide) (fun h2 => ?_) (fun h2 => ?_)
    · skip
      refine lv_iconst (pc := 19) (v := 0) hx hb dX3_holds_19 (by decide) ?_
      exact wk_zret (pc := 20) X hH hS hr hlocks (Or.inl rfl) (by rw [mr_X3_holds, if_neg h1, if_neg h2]) (rfl) dX3_holds_20
    · skip
      refine lv_iconst (pc := 15) (v := 1) hx hb dX3_holds_15 (by decide) ?_
      refine lv_goto (pc := 16) (tgt := 20) hx hb dX3_holds_16 (by decide) ?_
      exact wk_zret (pc := 20) X hH hS hr hlocks (Or.inr rfl) (by rw [mr_X3_holds, if_neg h1, if_pos h2]) (rfl) dX3_holds_20
end
