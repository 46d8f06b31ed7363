section
-- ===== PART A: goes FIRST, ahead of the names: the tables' words, and 'selects' of the private methods out of them =====
/-- a private method of a class that the tables say can be made, by its rows of tables_1 -/
def lw_okq (q : MethodName × Nat) : Prop := (q.1.cls ≠ "java/lang/invoke/MethodHandle" ∧ q.1.cls ≠ "java/lang/invoke/VarHandle") ∧ Cond.instantiable q.1.cls q.2 ∈ tables_1 ∧ Cond.privateMethod q.1 ∈ tables_1 ∧ Cond.instanceMethod q.1 ∈ tables_1
theorem lw_p0 : lw_okq (⟨"DoughRoom", "knead", "(II)LDoughRoom$Dough;"⟩, 7) := ⟨⟨by decide +kernel, by decide +kernel⟩, List.mem_of_getElem? (i := 13) (by decide +kernel), List.mem_of_getElem? (i := 69) (by decide +kernel), List.mem_of_getElem? (i := 70) (by decide +kernel)⟩
theorem lw_p1 : lw_okq (⟨"DoughRoom", "find", "(I)LDoughRoom$Dough;"⟩, 7) := ⟨⟨by decide +kernel, by decide +kernel⟩, List.mem_of_getElem? (i := 13) (by decide +kernel), List.mem_of_getElem? (i := 214) (by decide +kernel), List.mem_of_getElem? (i := 215) (by decide +kernel)⟩
theorem lw_p2 : lw_okq (⟨"DoughRoom", "isOven", "(I)Z"⟩, 7) := ⟨⟨by decide +kernel, by decide +kernel⟩, List.mem_of_getElem? (i := 13) (by decide +kernel), List.mem_of_getElem? (i := 377) (by decide +kernel), List.mem_of_getElem? (i := 378) (by decide +kernel)⟩
theorem lw_p3 : lw_okq (⟨"DoughRoom", "howMany", "(I)I"⟩, 7) := ⟨⟨by decide +kernel, by decide +kernel⟩, List.mem_of_getElem? (i := 13) (by decide +kernel), List.mem_of_getElem? (i := 385) (by decide +kernel), List.mem_of_getElem? (i := 386) (by decide +kernel)⟩
theorem lw_p4 : lw_okq (⟨"DoughRoom", "heatOf", "(I)I"⟩, 7) := ⟨⟨by decide +kernel, by decide +kernel⟩, List.mem_of_getElem? (i := 13) (by decide +kernel), List.mem_of_getElem? (i := 402) (by decide +kernel), List.mem_of_getElem? (i := 403) (by decide +kernel)⟩
theorem lw_p5 : lw_okq (⟨"DoughRoom", "massIn", "(I)I"⟩, 7) := ⟨⟨by decide +kernel, by decide +kernel⟩, List.mem_of_getElem? (i := 13) (by decide +kernel), List.mem_of_getElem? (i := 422) (by decide +kernel), List.mem_of_getElem? (i := 423) (by decide +kernel)⟩
theorem lw_p6 : lw_okq (⟨"DoughRoomModel", "isBatch", "(I)Z"⟩, 15) := ⟨⟨by decide +kernel, by decide +kernel⟩, List.mem_of_getElem? (i := 449) (by decide +kernel), List.mem_of_getElem? (i := 512) (by decide +kernel), List.mem_of_getElem? (i := 513) (by decide +kernel)⟩
theorem lw_p7 : lw_okq (⟨"DoughRoomModel", "answer", "(III)I"⟩, 15) := ⟨⟨by decide +kernel, by decide +kernel⟩, List.mem_of_getElem? (i := 449) (by decide +kernel), List.mem_of_getElem? (i := 516) (by decide +kernel), List.mem_of_getElem? (i := 517) (by decide +kernel)⟩
theorem lw_p8 : lw_okq (⟨"DoughRoomModel", "rise", "(II)I"⟩, 15) := ⟨⟨by decide +kernel, by decide +kernel⟩, List.mem_of_getElem? (i := 449) (by decide +kernel), List.mem_of_getElem? (i := 520) (by decide +kernel), List.mem_of_getElem? (i := 521) (by decide +kernel)⟩
theorem lw_p9 : lw_okq (⟨"DoughRoomModel", "began", "(I)V"⟩, 15) := ⟨⟨by decide +kernel, by decide +kernel⟩, List.mem_of_getElem? (i := 449) (by decide +kernel), List.mem_of_getElem? (i := 524) (by decide +kernel), List.mem_of_getElem? (i := 525) (by decide +kernel)⟩
theorem lw_p10 : lw_okq (⟨"DoughRoomModel", "need", "(I)I"⟩, 15) := ⟨⟨by decide +kernel, by decide +kernel⟩, List.mem_of_getElem? (i := 449) (by decide +kernel), List.mem_of_getElem? (i := 528) (by decide +kernel), List.mem_of_getElem? (i := 529) (by decide +kernel)⟩
theorem lw_p11 : lw_okq (⟨"DoughRoomModel", "brown", "(II)I"⟩, 15) := ⟨⟨by decide +kernel, by decide +kernel⟩, List.mem_of_getElem? (i := 449) (by decide +kernel), List.mem_of_getElem? (i := 532) (by decide +kernel), List.mem_of_getElem? (i := 533) (by decide +kernel)⟩
theorem lw_p12 : lw_okq (⟨"DoughRoomModel", "price", "(I)I"⟩, 15) := ⟨⟨by decide +kernel, by decide +kernel⟩, List.mem_of_getElem? (i := 449) (by decide +kernel), List.mem_of_getElem? (i := 536) (by decide +kernel), List.mem_of_getElem? (i := 537) (by decide +kernel)⟩
theorem lw_p13 : lw_okq (⟨"DoughRoomModel", "keeps", "(I)I"⟩, 15) := ⟨⟨by decide +kernel, by decide +kernel⟩, List.mem_of_getElem? (i := 449) (by decide +kernel), List.mem_of_getElem? (i := 543) (by decide +kernel), List.mem_of_getElem? (i := 544) (by decide +kernel)⟩
theorem lw_p14 : lw_okq (⟨"DoughRoomModel", "glaze", "(I)I"⟩, 15) := ⟨⟨by decide +kernel, by decide +kernel⟩, List.mem_of_getElem? (i := 449) (by decide +kernel), List.mem_of_getElem? (i := 550) (by decide +kernel), List.mem_of_getElem? (i := 551) (by decide +kernel)⟩
theorem lw_p15 : lw_okq (⟨"DoughRoomModel", "minute", "()I"⟩, 15) := ⟨⟨by decide +kernel, by decide +kernel⟩, List.mem_of_getElem? (i := 449) (by decide +kernel), List.mem_of_getElem? (i := 570) (by decide +kernel), List.mem_of_getElem? (i := 571) (by decide +kernel)⟩
def lw_privs_1 : List (MethodName × Nat) := [(⟨"DoughRoom", "knead", "(II)LDoughRoom$Dough;"⟩, 7), (⟨"DoughRoom", "find", "(I)LDoughRoom$Dough;"⟩, 7), (⟨"DoughRoom", "isOven", "(I)Z"⟩, 7), (⟨"DoughRoom", "howMany", "(I)I"⟩, 7), (⟨"DoughRoom", "heatOf", "(I)I"⟩, 7), (⟨"DoughRoom", "massIn", "(I)I"⟩, 7), (⟨"DoughRoomModel", "isBatch", "(I)Z"⟩, 15), (⟨"DoughRoomModel", "answer", "(III)I"⟩, 15), (⟨"DoughRoomModel", "rise", "(II)I"⟩, 15), (⟨"DoughRoomModel", "began", "(I)V"⟩, 15), (⟨"DoughRoomModel", "need", "(I)I"⟩, 15), (⟨"DoughRoomModel", "brown", "(II)I"⟩, 15), (⟨"DoughRoomModel", "price", "(I)I"⟩, 15), (⟨"DoughRoomModel", "keeps", "(I)I"⟩, 15), (⟨"DoughRoomModel", "glaze", "(I)I"⟩, 15), (⟨"DoughRoomModel", "minute", "()I"⟩, 15)]
theorem lw_r1 : ∀ q ∈ lw_privs_1, lw_okq q := List.forall_mem_cons.mpr ⟨lw_p0, List.forall_mem_cons.mpr ⟨lw_p1, List.forall_mem_cons.mpr ⟨lw_p2, List.forall_mem_cons.mpr ⟨lw_p3, List.forall_mem_cons.mpr ⟨lw_p4, List.forall_mem_cons.mpr ⟨lw_p5, List.forall_mem_cons.mpr ⟨lw_p6, List.forall_mem_cons.mpr ⟨lw_p7, List.forall_mem_cons.mpr ⟨lw_p8, List.forall_mem_cons.mpr ⟨lw_p9, List.forall_mem_cons.mpr ⟨lw_p10, List.forall_mem_cons.mpr ⟨lw_p11, List.forall_mem_cons.mpr ⟨lw_p12, List.forall_mem_cons.mpr ⟨lw_p13, List.forall_mem_cons.mpr ⟨lw_p14, List.forall_mem_cons.mpr ⟨lw_p15, fun _ h => absurd h List.not_mem_nil⟩⟩⟩⟩⟩⟩⟩⟩⟩⟩⟩⟩⟩⟩⟩⟩
theorem lw_p16 : lw_okq (⟨"DoughRoomModel", "massIn", "(I)I"⟩, 15) := ⟨⟨by decide +kernel, by decide +kernel⟩, List.mem_of_getElem? (i := 449) (by decide +kernel), List.mem_of_getElem? (i := 578) (by decide +kernel), List.mem_of_getElem? (i := 579) (by decide +kernel)⟩
def lw_privs_2 : List (MethodName × Nat) := [(⟨"DoughRoomModel", "massIn", "(I)I"⟩, 15)]
theorem lw_r2 : ∀ q ∈ lw_privs_2, lw_okq q := List.forall_mem_cons.mpr ⟨lw_p16, fun _ h => absurd h List.not_mem_nil⟩
def lw_privs : List (MethodName × Nat) := lw_privs_1 ++ (lw_privs_2)
def lw_tbl : List Cond := k2_sels lw_privs ++ tables_1
theorem lw_privs_ok : ∀ q ∈ lw_privs, lw_okq q := by
  show ∀ q ∈ lw_privs_1 ++ (lw_privs_2), lw_okq q
  exact List.forall_mem_append.mpr ⟨lw_r1, lw_r2⟩

def RX0 : String := "DoughRoom$Black"
def TX0 : u_T := fun k => match k with
  | 0 => ("DoughRoom$Dough", "kind", "I", true)
  | 1 => ("DoughRoom$Dough", "mass", "I", true)
  | 2 => ("DoughRoom$Dough", "trace", "LDoughRoom$Trace;", true)
  | 3 => ("DoughRoom$Dough", "state", "I", false)
  | 4 => ("DoughRoom$Dough", "risen", "I", false)
  | 5 => ("DoughRoom$Dough", "browned", "I", false)
  | 6 => ("DoughRoom$Dough", "oven", "I", false)
  | _ => ("DoughRoom$Dough", "doneSince", "I", false)
def tyX0 : Nat → FieldType := fun k => match k with
  | 0 => .int
  | 1 => .int
  | 2 => .object "DoughRoom$Trace"
  | 3 => .int
  | 4 => .int
  | 5 => .int
  | 6 => .int
  | _ => .int
abbrev wsX00 : List Cond := u_ws RX0 TX0 8
theorem nmX0 : ∀ a, a < 8 → ∀ b, b < 8 → a ≠ b → (TX0 a).2.1 ≠ (TX0 b).2.1 := by decide +kernel
theorem tyX0_ok : ∀ k, k < 8 → parseFieldDescriptor (TX0 k).2.2.1 = some (tyX0 k) := by decide +kernel
abbrev cX0_init : ByteArray := prog_2_method_1_code
def yX0_init : MethodName := ⟨RX0, "<init>", "(IILDoughRoom$Trace;)V"⟩
abbrev cX0_rise : ByteArray := prog_2_method_2_code
def yX0_rise : MethodName := ⟨RX0, "rise", "(I)I"⟩
abbrev cX0_brown : ByteArray := prog_2_method_3_code
def yX0_brown : MethodName := ⟨RX0, "brown", "(I)I"⟩
abbrev cX0_price : ByteArray := prog_2_method_4_code
def yX0_price : MethodName := ⟨RX0, "price", "()I"⟩
abbrev cX0_keeps : ByteArray := prog_2_method_5_code
def yX0_keeps : MethodName := ⟨RX0, "keeps", "()I"⟩
def RX1 : String := "DoughRoom$Butter"
def TX1 : u_T := fun k => match k with
  | 0 => ("DoughRoom$Dough", "kind", "I", true)
  | 1 => ("DoughRoom$Dough", "mass", "I", true)
  | 2 => ("DoughRoom$Dough", "trace", "LDoughRoom$Trace;", true)
  | 3 => ("DoughRoom$Dough", "state", "I", false)
  | 4 => ("DoughRoom$Dough", "risen", "I", false)
  | 5 => ("DoughRoom$Dough", "browned", "I", false)
  | 6 => ("DoughRoom$Dough", "oven", "I", false)
  | _ => ("DoughRoom$Dough", "doneSince", "I", false)
def tyX1 : Nat → FieldType := fun k => match k with
  | 0 => .int
  | 1 => .int
  | 2 => .object "DoughRoom$Trace"
  | 3 => .int
  | 4 => .int
  | 5 => .int
  | 6 => .int
  | _ => .int
abbrev wsX10 : List Cond := u_ws RX1 TX1 8
theorem nmX1 : ∀ a, a < 8 → ∀ b, b < 8 → a ≠ b → (TX1 a).2.1 ≠ (TX1 b).2.1 := by decide +kernel
theorem tyX1_ok : ∀ k, k < 8 → parseFieldDescriptor (TX1 k).2.2.1 = some (tyX1 k) := by decide +kernel
abbrev cX1_init : ByteArray := prog_3_method_1_code
def yX1_init : MethodName := ⟨RX1, "<init>", "(IILDoughRoom$Trace;)V"⟩
abbrev cX1_rise : ByteArray := prog_3_method_2_code
def yX1_rise : MethodName := ⟨RX1, "rise", "(I)I"⟩
abbrev cX1_price : ByteArray := prog_3_method_3_code
def yX1_price : MethodName := ⟨RX1, "price", "()I"⟩
abbrev cX1_glaze : ByteArray := prog_3_method_4_code
def yX1_glaze : MethodName := ⟨RX1, "glaze", "()I"⟩
def RX2 : String := "DoughRoom$Dough"
def TX2 : u_T := fun k => match k with
  | 0 => ("DoughRoom$Dough", "kind", "I", true)
  | 1 => ("DoughRoom$Dough", "mass", "I", true)
  | 2 => ("DoughRoom$Dough", "trace", "LDoughRoom$Trace;", true)
  | 3 => ("DoughRoom$Dough", "state", "I", false)
  | 4 => ("DoughRoom$Dough", "risen", "I", false)
  | 5 => ("DoughRoom$Dough", "browned", "I", false)
  | 6 => ("DoughRoom$Dough", "oven", "I", false)
  | _ => ("DoughRoom$Dough", "doneSince", "I", false)
def tyX2 : Nat → FieldType := fun k => match k with
  | 0 => .int
  | 1 => .int
  | 2 => .object "DoughRoom$Trace"
  | 3 => .int
  | 4 => .int
  | 5 => .int
  | 6 => .int
  | _ => .int
abbrev wsX20 : List Cond := u_ws RX2 TX2 8
theorem nmX2 : ∀ a, a < 8 → ∀ b, b < 8 → a ≠ b → (TX2 a).2.1 ≠ (TX2 b).2.1 := by decide +kernel
theorem tyX2_ok : ∀ k, k < 8 → parseFieldDescriptor (TX2 k).2.2.1 = some (tyX2 k) := by decide +kernel
abbrev cX2_init : ByteArray := prog_4_method_1_code
def yX2_init : MethodName := ⟨RX2, "<init>", "(IILDoughRoom$Trace;)V"⟩
abbrev cX2_rise : ByteArray := prog_4_method_2_code
def yX2_rise : MethodName := ⟨RX2, "rise", "(I)I"⟩
abbrev cX2_need : ByteArray := prog_4_method_3_code
def yX2_need : MethodName := ⟨RX2, "need", "()I"⟩
abbrev cX2_brown : ByteArray := prog_4_method_4_code
def yX2_brown : MethodName := ⟨RX2, "brown", "(I)I"⟩
abbrev cX2_price : ByteArray := prog_4_method_5_code
def yX2_price : MethodName := ⟨RX2, "price", "()I"⟩
abbrev cX2_riseFor : ByteArray := prog_4_method_6_code
def yX2_riseFor : MethodName := ⟨RX2, "riseFor", "(II)V"⟩
abbrev cX2_brownFor : ByteArray := prog_4_method_7_code
def yX2_brownFor : MethodName := ⟨RX2, "brownFor", "(II)V"⟩
def RX3 : String := "DoughRoom$Rye"
def TX3 : u_T := fun k => match k with
  | 0 => ("DoughRoom$Dough", "kind", "I", true)
  | 1 => ("DoughRoom$Dough", "mass", "I", true)
  | 2 => ("DoughRoom$Dough", "trace", "LDoughRoom$Trace;", true)
  | 3 => ("DoughRoom$Dough", "state", "I", false)
  | 4 => ("DoughRoom$Dough", "risen", "I", false)
  | 5 => ("DoughRoom$Dough", "browned", "I", false)
  | 6 => ("DoughRoom$Dough", "oven", "I", false)
  | _ => ("DoughRoom$Dough", "doneSince", "I", false)
def tyX3 : Nat → FieldType := fun k => match k with
  | 0 => .int
  | 1 => .int
  | 2 => .object "DoughRoom$Trace"
  | 3 => .int
  | 4 => .int
  | 5 => .int
  | 6 => .int
  | _ => .int
abbrev wsX30 : List Cond := u_ws RX3 TX3 8
theorem nmX3 : ∀ a, a < 8 → ∀ b, b < 8 → a ≠ b → (TX3 a).2.1 ≠ (TX3 b).2.1 := by decide +kernel
theorem tyX3_ok : ∀ k, k < 8 → parseFieldDescriptor (TX3 k).2.2.1 = some (tyX3 k) := by decide +kernel
abbrev cX3_init : ByteArray := prog_5_method_1_code
def yX3_init : MethodName := ⟨RX3, "<init>", "(IILDoughRoom$Trace;)V"⟩
abbrev cX3_need : ByteArray := prog_5_method_2_code
def yX3_need : MethodName := ⟨RX3, "need", "()I"⟩
abbrev cX3_price : ByteArray := prog_5_method_3_code
def yX3_price : MethodName := ⟨RX3, "price", "()I"⟩
def RX4 : String := "DoughRoom$Sour"
def TX4 : u_T := fun k => match k with
  | 0 => ("DoughRoom$Dough", "kind", "I", true)
  | 1 => ("DoughRoom$Dough", "mass", "I", true)
  | 2 => ("DoughRoom$Dough", "trace", "LDoughRoom$Trace;", true)
  | 3 => ("DoughRoom$Dough", "state", "I", false)
  | 4 => ("DoughRoom$Dough", "risen", "I", false)
  | 5 => ("DoughRoom$Dough", "browned", "I", false)
  | 6 => ("DoughRoom$Dough", "oven", "I", false)
  | _ => ("DoughRoom$Dough", "doneSince", "I", false)
def tyX4 : Nat → FieldType := fun k => match k with
  | 0 => .int
  | 1 => .int
  | 2 => .object "DoughRoom$Trace"
  | 3 => .int
  | 4 => .int
  | 5 => .int
  | 6 => .int
  | _ => .int
abbrev wsX40 : List Cond := u_ws RX4 TX4 8
theorem nmX4 : ∀ a, a < 8 → ∀ b, b < 8 → a ≠ b → (TX4 a).2.1 ≠ (TX4 b).2.1 := by decide +kernel
theorem tyX4_ok : ∀ k, k < 8 → parseFieldDescriptor (TX4 k).2.2.1 = some (tyX4 k) := by decide +kernel
abbrev cX4_init : ByteArray := prog_6_method_1_code
def yX4_init : MethodName := ⟨RX4, "<init>", "(IILDoughRoom$Trace;)V"⟩
abbrev cX4_rise : ByteArray := prog_6_method_2_code
def yX4_rise : MethodName := ⟨RX4, "rise", "(I)I"⟩
abbrev cX4_keeps : ByteArray := prog_6_method_3_code
def yX4_keeps : MethodName := ⟨RX4, "keeps", "()I"⟩
def RX5 : String := "DoughRoom$Sweet"
def TX5 : u_T := fun k => match k with
  | 0 => ("DoughRoom$Dough", "kind", "I", true)
  | 1 => ("DoughRoom$Dough", "mass", "I", true)
  | 2 => ("DoughRoom$Dough", "trace", "LDoughRoom$Trace;", true)
  | 3 => ("DoughRoom$Dough", "state", "I", false)
  | 4 => ("DoughRoom$Dough", "risen", "I", false)
  | 5 => ("DoughRoom$Dough", "browned", "I", false)
  | 6 => ("DoughRoom$Dough", "oven", "I", false)
  | _ => ("DoughRoom$Dough", "doneSince", "I", false)
def tyX5 : Nat → FieldType := fun k => match k with
  | 0 => .int
  | 1 => .int
  | 2 => .object "DoughRoom$Trace"
  | 3 => .int
  | 4 => .int
  | 5 => .int
  | 6 => .int
  | _ => .int
abbrev wsX50 : List Cond := u_ws RX5 TX5 8
theorem nmX5 : ∀ a, a < 8 → ∀ b, b < 8 → a ≠ b → (TX5 a).2.1 ≠ (TX5 b).2.1 := by decide +kernel
theorem tyX5_ok : ∀ k, k < 8 → parseFieldDescriptor (TX5 k).2.2.1 = some (tyX5 k) := by decide +kernel
abbrev cX5_init : ByteArray := prog_7_method_1_code
def yX5_init : MethodName := ⟨RX5, "<init>", "(IILDoughRoom$Trace;)V"⟩
abbrev cX5_brown : ByteArray := prog_7_method_2_code
def yX5_brown : MethodName := ⟨RX5, "brown", "(I)I"⟩
abbrev cX5_glaze : ByteArray := prog_7_method_3_code
def yX5_glaze : MethodName := ⟨RX5, "glaze", "()I"⟩
def RX6 : String := "DoughRoom$Trace"
def TX6 : u_T := fun k => match k with
  | 0 => ("DoughRoom$Trace", "numbers", "[I", true)
  | 1 => ("DoughRoom$Trace", "length", "I", false)
  | _ => ("DoughRoom$Trace", "running", "Z", false)
def tyX6 : Nat → FieldType := fun k => match k with
  | 0 => .array .int
  | 1 => .int
  | _ => .boolean
abbrev wsX60 : List Cond := u_ws RX6 TX6 3
theorem nmX6 : ∀ a, a < 3 → ∀ b, b < 3 → a ≠ b → (TX6 a).2.1 ≠ (TX6 b).2.1 := by decide +kernel
theorem tyX6_ok : ∀ k, k < 3 → parseFieldDescriptor (TX6 k).2.2.1 = some (tyX6 k) := by decide +kernel
abbrev cX6_init : ByteArray := prog_8_method_1_code
def yX6_init : MethodName := ⟨RX6, "<init>", "()V"⟩
abbrev cX6_start : ByteArray := prog_8_method_2_code
def yX6_start : MethodName := ⟨RX6, "start", "()V"⟩
abbrev cX6_stop : ByteArray := prog_8_method_3_code
def yX6_stop : MethodName := ⟨RX6, "stop", "()V"⟩
abbrev cX6_leave : ByteArray := prog_8_method_4_code
def yX6_leave : MethodName := ⟨RX6, "leave", "(I)V"⟩
abbrev cX6_at : ByteArray := prog_8_method_5_code
def yX6_at : MethodName := ⟨RX6, "at", "(I)I"⟩
def RX7 : String := "DoughRoom$Yeast"
def TX7 : u_T := fun k => match k with
  | 0 => ("DoughRoom$Dough", "kind", "I", true)
  | 1 => ("DoughRoom$Dough", "mass", "I", true)
  | 2 => ("DoughRoom$Dough", "trace", "LDoughRoom$Trace;", true)
  | 3 => ("DoughRoom$Dough", "state", "I", false)
  | 4 => ("DoughRoom$Dough", "risen", "I", false)
  | 5 => ("DoughRoom$Dough", "browned", "I", false)
  | 6 => ("DoughRoom$Dough", "oven", "I", false)
  | _ => ("DoughRoom$Dough", "doneSince", "I", false)
def tyX7 : Nat → FieldType := fun k => match k with
  | 0 => .int
  | 1 => .int
  | 2 => .object "DoughRoom$Trace"
  | 3 => .int
  | 4 => .int
  | 5 => .int
  | 6 => .int
  | _ => .int
abbrev wsX70 : List Cond := u_ws RX7 TX7 8
theorem nmX7 : ∀ a, a < 8 → ∀ b, b < 8 → a ≠ b → (TX7 a).2.1 ≠ (TX7 b).2.1 := by decide +kernel
theorem tyX7_ok : ∀ k, k < 8 → parseFieldDescriptor (TX7 k).2.2.1 = some (tyX7 k) := by decide +kernel
abbrev cX7_init : ByteArray := prog_9_method_1_code
def yX7_init : MethodName := ⟨RX7, "<init>", "(IILDoughRoom$Trace;)V"⟩
abbrev cX7_need : ByteArray := prog_9_method_2_code
def yX7_need : MethodName := ⟨RX7, "need", "()I"⟩
def RX8 : String := "DoughRoom"
def TX8 : u_T := fun k => match k with
  | 0 => ("DoughRoom", "batches", "[LDoughRoom$Dough;", true)
  | 1 => ("DoughRoom", "heats", "[I", true)
  | 2 => ("DoughRoom", "trace", "LDoughRoom$Trace;", true)
  | 3 => ("DoughRoom", "made", "I", false)
  | 4 => ("DoughRoom", "warmth", "I", false)
  | 5 => ("DoughRoom", "days", "I", false)
  | _ => ("DoughRoom", "till", "I", false)
def tyX8 : Nat → FieldType := fun k => match k with
  | 0 => .array (.object "DoughRoom$Dough")
  | 1 => .array .int
  | 2 => .object "DoughRoom$Trace"
  | 3 => .int
  | 4 => .int
  | 5 => .int
  | _ => .int
abbrev wsX80 : List Cond := u_ws RX8 TX8 7
theorem nmX8 : ∀ a, a < 7 → ∀ b, b < 7 → a ≠ b → (TX8 a).2.1 ≠ (TX8 b).2.1 := by decide +kernel
theorem tyX8_ok : ∀ k, k < 7 → parseFieldDescriptor (TX8 k).2.2.1 = some (tyX8 k) := by decide +kernel
abbrev cX8_init : ByteArray := prog_1_method_1_code
def yX8_init : MethodName := ⟨RX8, "<init>", "()V"⟩
abbrev cX8_batch : ByteArray := prog_1_method_2_code
def yX8_batch : MethodName := ⟨RX8, "batch", "(II)I"⟩
abbrev cX8_ask : ByteArray := prog_1_method_3_code
def yX8_ask : MethodName := ⟨RX8, "ask", "(III)I"⟩
abbrev cX8_trace : ByteArray := prog_1_method_4_code
def yX8_trace : MethodName := ⟨RX8, "trace", "(I)I"⟩
abbrev cX8_room : ByteArray := prog_1_method_5_code
def yX8_room : MethodName := ⟨RX8, "room", "(I)I"⟩
abbrev cX8_heat : ByteArray := prog_1_method_6_code
def yX8_heat : MethodName := ⟨RX8, "heat", "(II)I"⟩
abbrev cX8_minutes : ByteArray := prog_1_method_7_code
def yX8_minutes : MethodName := ⟨RX8, "minutes", "(I)I"⟩
abbrev cX8_bake : ByteArray := prog_1_method_8_code
def yX8_bake : MethodName := ⟨RX8, "bake", "(II)I"⟩
abbrev cX8_out : ByteArray := prog_1_method_9_code
def yX8_out : MethodName := ⟨RX8, "out", "(I)I"⟩
abbrev cX8_sell : ByteArray := prog_1_method_10_code
def yX8_sell : MethodName := ⟨RX8, "sell", "(I)I"⟩
abbrev cX8_day : ByteArray := prog_1_method_11_code
def yX8_day : MethodName := ⟨RX8, "day", "()I"⟩
abbrev cX8_told : ByteArray := prog_1_method_12_code
def yX8_told : MethodName := ⟨RX8, "told", "(II)I"⟩
abbrev cX8_count : ByteArray := prog_1_method_13_code
def yX8_count : MethodName := ⟨RX8, "count", "(I)I"⟩
abbrev cX8_within : ByteArray := prog_1_method_14_code
def yX8_within : MethodName := ⟨RX8, "within", "(III)Z"⟩
abbrev cX8_isQuestion : ByteArray := prog_1_method_15_code
def yX8_isQuestion : MethodName := ⟨RX8, "isQuestion", "(II)Z"⟩
abbrev cX8_isOven : ByteArray := prog_1_method_16_code
def yX8_isOven : MethodName := ⟨RX8, "isOven", "(I)Z"⟩
abbrev cX8_heatOf : ByteArray := prog_1_method_17_code
def yX8_heatOf : MethodName := ⟨RX8, "heatOf", "(I)I"⟩
abbrev cX8_find : ByteArray := prog_1_method_18_code
def yX8_find : MethodName := ⟨RX8, "find", "(I)LDoughRoom$Dough;"⟩
abbrev cX8_knead : ByteArray := prog_1_method_19_code
def yX8_knead : MethodName := ⟨RX8, "knead", "(II)LDoughRoom$Dough;"⟩
abbrev cX8_howMany : ByteArray := prog_1_method_20_code
def yX8_howMany : MethodName := ⟨RX8, "howMany", "(I)I"⟩
abbrev cX8_massIn : ByteArray := prog_1_method_21_code
def yX8_massIn : MethodName := ⟨RX8, "massIn", "(I)I"⟩
def RX9 : String := "DoughRoomModel"
def TX9 : u_T := fun k => match k with
  | 0 => ("DoughRoomModel", "batches", "I", false)
  | 1 => ("DoughRoomModel", "kind", "[I", true)
  | 2 => ("DoughRoomModel", "mass", "[I", true)
  | 3 => ("DoughRoomModel", "state", "[I", true)
  | 4 => ("DoughRoomModel", "risen", "[I", true)
  | 5 => ("DoughRoomModel", "browned", "[I", true)
  | 6 => ("DoughRoomModel", "oven", "[I", true)
  | 7 => ("DoughRoomModel", "since", "[I", true)
  | 8 => ("DoughRoomModel", "warmth", "I", false)
  | 9 => ("DoughRoomModel", "heats", "[I", true)
  | 10 => ("DoughRoomModel", "days", "I", false)
  | 11 => ("DoughRoomModel", "till", "I", false)
  | 12 => ("DoughRoomModel", "trace", "[I", true)
  | 13 => ("DoughRoomModel", "traced", "I", false)
  | _ => ("DoughRoomModel", "isTold", "Z", false)
def tyX9 : Nat → FieldType := fun k => match k with
  | 0 => .int
  | 1 => .array .int
  | 2 => .array .int
  | 3 => .array .int
  | 4 => .array .int
  | 5 => .array .int
  | 6 => .array .int
  | 7 => .array .int
  | 8 => .int
  | 9 => .array .int
  | 10 => .int
  | 11 => .int
  | 12 => .array .int
  | 13 => .int
  | _ => .boolean
abbrev wsX90 : List Cond := u_ws RX9 TX9 15
theorem nmX9 : ∀ a, a < 15 → ∀ b, b < 15 → a ≠ b → (TX9 a).2.1 ≠ (TX9 b).2.1 := by decide +kernel
theorem tyX9_ok : ∀ k, k < 15 → parseFieldDescriptor (TX9 k).2.2.1 = some (tyX9 k) := by decide +kernel
abbrev cX9_init : ByteArray := prog_11_method_1_code
def yX9_init : MethodName := ⟨RX9, "<init>", "()V"⟩
abbrev cX9_in : ByteArray := prog_11_method_3_code
def yX9_in : MethodName := ⟨RX9, "in", "(III)Z"⟩
abbrev cX9_isBatch : ByteArray := prog_11_method_4_code
def yX9_isBatch : MethodName := ⟨RX9, "isBatch", "(I)Z"⟩
abbrev cX9_batch : ByteArray := prog_11_method_5_code
def yX9_batch : MethodName := ⟨RX9, "batch", "(II)I"⟩
abbrev cX9_began : ByteArray := prog_11_method_6_code
def yX9_began : MethodName := ⟨RX9, "began", "(I)V"⟩
abbrev cX9_rise : ByteArray := prog_11_method_7_code
def yX9_rise : MethodName := ⟨RX9, "rise", "(II)I"⟩
abbrev cX9_need : ByteArray := prog_11_method_8_code
def yX9_need : MethodName := ⟨RX9, "need", "(I)I"⟩
abbrev cX9_brown : ByteArray := prog_11_method_9_code
def yX9_brown : MethodName := ⟨RX9, "brown", "(II)I"⟩
abbrev cX9_price : ByteArray := prog_11_method_10_code
def yX9_price : MethodName := ⟨RX9, "price", "(I)I"⟩
abbrev cX9_isKeeping : ByteArray := prog_11_method_11_code
def yX9_isKeeping : MethodName := ⟨RX9, "isKeeping", "(I)Z"⟩
abbrev cX9_isGlazed : ByteArray := prog_11_method_12_code
def yX9_isGlazed : MethodName := ⟨RX9, "isGlazed", "(I)Z"⟩
abbrev cX9_keeps : ByteArray := prog_11_method_13_code
def yX9_keeps : MethodName := ⟨RX9, "keeps", "(I)I"⟩
abbrev cX9_glaze : ByteArray := prog_11_method_14_code
def yX9_glaze : MethodName := ⟨RX9, "glaze", "(I)I"⟩
abbrev cX9_answer : ByteArray := prog_11_method_15_code
def yX9_answer : MethodName := ⟨RX9, "answer", "(III)I"⟩
abbrev cX9_ask : ByteArray := prog_11_method_16_code
def yX9_ask : MethodName := ⟨RX9, "ask", "(III)I"⟩
abbrev cX9_trace : ByteArray := prog_11_method_17_code
def yX9_trace : MethodName := ⟨RX9, "trace", "(I)I"⟩
abbrev cX9_room : ByteArray := prog_11_method_18_code
def yX9_room : MethodName := ⟨RX9, "room", "(I)I"⟩
abbrev cX9_heat : ByteArray := prog_11_method_19_code
def yX9_heat : MethodName := ⟨RX9, "heat", "(II)I"⟩
abbrev cX9_minute : ByteArray := prog_11_method_20_code
def yX9_minute : MethodName := ⟨RX9, "minute", "()I"⟩
abbrev cX9_minutes : ByteArray := prog_11_method_21_code
def yX9_minutes : MethodName := ⟨RX9, "minutes", "(I)I"⟩
abbrev cX9_massIn : ByteArray := prog_11_method_22_code
def yX9_massIn : MethodName := ⟨RX9, "massIn", "(I)I"⟩
abbrev cX9_bake : ByteArray := prog_11_method_23_code
def yX9_bake : MethodName := ⟨RX9, "bake", "(II)I"⟩
abbrev cX9_out : ByteArray := prog_11_method_24_code
def yX9_out : MethodName := ⟨RX9, "out", "(I)I"⟩
abbrev cX9_sell : ByteArray := prog_11_method_25_code
def yX9_sell : MethodName := ⟨RX9, "sell", "(I)I"⟩
abbrev cX9_day : ByteArray := prog_11_method_26_code
def yX9_day : MethodName := ⟨RX9, "day", "()I"⟩
abbrev cX9_told : ByteArray := prog_11_method_27_code
def yX9_told : MethodName := ⟨RX9, "told", "(II)I"⟩
abbrev cX9_count : ByteArray := prog_11_method_28_code
def yX9_count : MethodName := ⟨RX9, "count", "(I)I"⟩
def RJ9 : String := "java/lang/Math"
def TJ9 : u_T := fun k => match k with
  | _ => ("", "", "", false)
def tyJ9 : Nat → FieldType := fun k => match k with
  | _ => .int
abbrev wsJ90 : List Cond := u_ws RJ9 TJ9 0
theorem nmJ9 : ∀ a, a < 0 → ∀ b, b < 0 → a ≠ b → (TJ9 a).2.1 ≠ (TJ9 b).2.1 := by decide +kernel
theorem tyJ9_ok : ∀ k, k < 0 → parseFieldDescriptor (TJ9 k).2.2.1 = some (tyJ9 k) := by decide +kernel
abbrev cJ9_max_7cf53 : ByteArray := prog_12_method_65_code
def yJ9_max_7cf53 : MethodName := ⟨RJ9, "max", "(II)I"⟩
def RL : String := "DoughRoomLaw"
abbrev cL_law : ByteArray := code
def yL_law : MethodName := ⟨RL, "law", "([I)Z"⟩
/-- the good words: what every method of the system may ask of the tables -/
def G : List Cond := lw_tbl.filter goodWord
theorem G_tbl : ∀ w ∈ G, w ∈ lw_tbl := fun _ h => (List.mem_filter.mp h).1
theorem G_ok : ∀ w ∈ G, (w.onTables && w.keeps) = true ∨ ∃ ty, w = .arrayClass ty := fun _ h => good_of_word (List.mem_filter.mp h).2
theorem kw_0 : (Cond.selects RX8 yX8_knead yX8_knead) ∈ G := List.mem_filter.mpr ⟨List.mem_of_getElem? (i := 0) (by decide +kernel), by decide +kernel⟩
theorem kw_1 : (Cond.selects RX8 yX8_find yX8_find) ∈ G := List.mem_filter.mpr ⟨List.mem_of_getElem? (i := 1) (by decide +kernel), by decide +kernel⟩
theorem kw_2 : (Cond.selects RX8 yX8_isOven yX8_isOven) ∈ G := List.mem_filter.mpr ⟨List.mem_of_getElem? (i := 2) (by decide +kernel), by decide +kernel⟩
theorem kw_3 : (Cond.selects RX8 yX8_howMany yX8_howMany) ∈ G := List.mem_filter.mpr ⟨List.mem_of_getElem? (i := 3) (by decide +kernel), by decide +kernel⟩
theorem kw_4 : (Cond.selects RX8 yX8_heatOf yX8_heatOf) ∈ G := List.mem_filter.mpr ⟨List.mem_of_getElem? (i := 4) (by decide +kernel), by decide +kernel⟩
theorem kw_5 : (Cond.selects RX8 yX8_massIn yX8_massIn) ∈ G := List.mem_filter.mpr ⟨List.mem_of_getElem? (i := 5) (by decide +kernel), by decide +kernel⟩
theorem kw_6 : (Cond.selects RX9 yX9_isBatch yX9_isBatch) ∈ G := List.mem_filter.mpr ⟨List.mem_of_getElem? (i := 6) (by decide +kernel), by decide +kernel⟩
theorem kw_7 : (Cond.selects RX9 yX9_answer yX9_answer) ∈ G := List.mem_filter.mpr ⟨List.mem_of_getElem? (i := 7) (by decide +kernel), by decide +kernel⟩
theorem kw_8 : (Cond.selects RX9 yX9_rise yX9_rise) ∈ G := List.mem_filter.mpr ⟨List.mem_of_getElem? (i := 8) (by decide +kernel), by decide +kernel⟩
theorem kw_9 : (Cond.selects RX9 yX9_began yX9_began) ∈ G := List.mem_filter.mpr ⟨List.mem_of_getElem? (i := 9) (by decide +kernel), by decide +kernel⟩
theorem kw_10 : (Cond.selects RX9 yX9_need yX9_need) ∈ G := List.mem_filter.mpr ⟨List.mem_of_getElem? (i := 10) (by decide +kernel), by decide +kernel⟩
theorem kw_11 : (Cond.selects RX9 yX9_brown yX9_brown) ∈ G := List.mem_filter.mpr ⟨List.mem_of_getElem? (i := 11) (by decide +kernel), by decide +kernel⟩
theorem kw_12 : (Cond.selects RX9 yX9_price yX9_price) ∈ G := List.mem_filter.mpr ⟨List.mem_of_getElem? (i := 12) (by decide +kernel), by decide +kernel⟩
theorem kw_13 : (Cond.selects RX9 yX9_keeps yX9_keeps) ∈ G := List.mem_filter.mpr ⟨List.mem_of_getElem? (i := 13) (by decide +kernel), by decide +kernel⟩
theorem kw_14 : (Cond.selects RX9 yX9_glaze yX9_glaze) ∈ G := List.mem_filter.mpr ⟨List.mem_of_getElem? (i := 14) (by decide +kernel), by decide +kernel⟩
theorem kw_15 : (Cond.selects RX9 yX9_minute yX9_minute) ∈ G := List.mem_filter.mpr ⟨List.mem_of_getElem? (i := 15) (by decide +kernel), by decide +kernel⟩
theorem kw_16 : (Cond.selects RX9 yX9_massIn yX9_massIn) ∈ G := List.mem_filter.mpr ⟨List.mem_of_getElem? (i := 16) (by decide +kernel), by decide +kernel⟩
theorem kw_17 : (Cond.initialized RL) ∈ G := List.mem_filter.mpr ⟨List.mem_of_getElem? (i := 17) (by decide +kernel), by decide +kernel⟩
theorem kw_18 : (Cond.initialized RX8) ∈ G := List.mem_filter.mpr ⟨List.mem_of_getElem? (i := 18) (by decide +kernel), by decide +kernel⟩
theorem kw_19 : (Cond.initialized RX6) ∈ G := List.mem_filter.mpr ⟨List.mem_of_getElem? (i := 19) (by decide +kernel), by decide +kernel⟩
theorem kw_20 : (Cond.initialized RX9) ∈ G := List.mem_filter.mpr ⟨List.mem_of_getElem? (i := 20) (by decide +kernel), by decide +kernel⟩
theorem kw_21 : (Cond.initialized RX2) ∈ G := List.mem_filter.mpr ⟨List.mem_of_getElem? (i := 21) (by decide +kernel), by decide +kernel⟩
theorem kw_22 : (Cond.initialized RX7) ∈ G := List.mem_filter.mpr ⟨List.mem_of_getElem? (i := 22) (by decide +kernel), by decide +kernel⟩
theorem kw_23 : (Cond.initialized RX4) ∈ G := List.mem_filter.mpr ⟨List.mem_of_getElem? (i := 23) (by decide +kernel), by decide +kernel⟩
theorem kw_24 : (Cond.initialized RX3) ∈ G := List.mem_filter.mpr ⟨List.mem_of_getElem? (i := 24) (by decide +kernel), by decide +kernel⟩
theorem kw_25 : (Cond.initialized RX0) ∈ G := List.mem_filter.mpr ⟨List.mem_of_getElem? (i := 25) (by decide +kernel), by decide +kernel⟩
theorem kw_26 : (Cond.initialized RX5) ∈ G := List.mem_filter.mpr ⟨List.mem_of_getElem? (i := 26) (by decide +kernel), by decide +kernel⟩
theorem kw_27 : (Cond.initialized RX1) ∈ G := List.mem_filter.mpr ⟨List.mem_of_getElem? (i := 27) (by decide +kernel), by decide +kernel⟩
theorem kw_28 : (Cond.initialized RJ9) ∈ G := List.mem_filter.mpr ⟨List.mem_of_getElem? (i := 28) (by decide +kernel), by decide +kernel⟩
theorem kw_29 : (Cond.classLink RL 7 RX8) ∈ G := List.mem_filter.mpr ⟨List.mem_of_getElem? (i := 29) (by decide +kernel), by decide +kernel⟩
theorem kw_30 : (Cond.instantiable RX8 7) ∈ G := List.mem_filter.mpr ⟨List.mem_of_getElem? (i := 30) (by decide +kernel), by decide +kernel⟩
theorem kw_31 : (Cond.methodLink RL 9 yX8_init) ∈ G := List.mem_filter.mpr ⟨List.mem_of_getElem? (i := 31) (by decide +kernel), by decide +kernel⟩
theorem kw_32 : (Cond.instanceMethod yX8_init) ∈ G := List.mem_filter.mpr ⟨List.mem_of_getElem? (i := 32) (by decide +kernel), by decide +kernel⟩
theorem kw_33 : (Cond.code yX8_init cX8_init 1 none) ∈ G := List.mem_filter.mpr ⟨List.mem_of_getElem? (i := 33) (by decide +kernel), by decide +kernel⟩
theorem kw_34 : (Cond.methodLink RX8 1 objectInit) ∈ G := List.mem_filter.mpr ⟨List.mem_of_getElem? (i := 34) (by decide +kernel), by decide +kernel⟩
theorem kw_35 : (Cond.instanceMethod objectInit) ∈ G := List.mem_filter.mpr ⟨List.mem_of_getElem? (i := 35) (by decide +kernel), by decide +kernel⟩
theorem kw_36 : (Cond.code objectInit object_method_1_code 1 none) ∈ G := List.mem_filter.mpr ⟨List.mem_of_getElem? (i := 36) (by decide +kernel), by decide +kernel⟩
theorem kw_37 : (Cond.classLink RX8 9 RX2) ∈ G := List.mem_filter.mpr ⟨List.mem_of_getElem? (i := 37) (by decide +kernel), by decide +kernel⟩
theorem kw_39 : (Cond.classLink RX8 19 RX6) ∈ G := List.mem_filter.mpr ⟨List.mem_of_getElem? (i := 39) (by decide +kernel), by decide +kernel⟩
theorem kw_40 : (Cond.instantiable RX6 3) ∈ G := List.mem_filter.mpr ⟨List.mem_of_getElem? (i := 40) (by decide +kernel), by decide +kernel⟩
theorem kw_41 : (Cond.methodLink RX8 21 yX6_init) ∈ G := List.mem_filter.mpr ⟨List.mem_of_getElem? (i := 41) (by decide +kernel), by decide +kernel⟩
theorem kw_42 : (Cond.instanceMethod yX6_init) ∈ G := List.mem_filter.mpr ⟨List.mem_of_getElem? (i := 42) (by decide +kernel), by decide +kernel⟩
theorem kw_43 : (Cond.code yX6_init cX6_init 1 none) ∈ G := List.mem_filter.mpr ⟨List.mem_of_getElem? (i := 43) (by decide +kernel), by decide +kernel⟩
theorem kw_44 : (Cond.methodLink RX6 3 objectInit) ∈ G := List.mem_filter.mpr ⟨List.mem_of_getElem? (i := 44) (by decide +kernel), by decide +kernel⟩
theorem kw_45 : (Cond.fieldLink RX6 11 "DoughRoom$Trace" "numbers" "[I") ∈ G := List.mem_filter.mpr ⟨List.mem_of_getElem? (i := 45) (by decide +kernel), by decide +kernel⟩
theorem kw_46 : (Cond.fieldLink RX6 15 "DoughRoom$Trace" "length" "I") ∈ G := List.mem_filter.mpr ⟨List.mem_of_getElem? (i := 46) (by decide +kernel), by decide +kernel⟩
theorem kw_47 : (Cond.fieldLink RX6 19 "DoughRoom$Trace" "running" "Z") ∈ G := List.mem_filter.mpr ⟨List.mem_of_getElem? (i := 47) (by decide +kernel), by decide +kernel⟩
theorem kw_48 : (Cond.laysFinal RX6 "DoughRoom$Trace" "numbers" "[I") ∈ G := List.mem_filter.mpr ⟨List.mem_of_getElem? (i := 48) (by decide +kernel), by decide +kernel⟩
theorem kw_50 : (Cond.lays RX6 "DoughRoom$Trace" "length" "I") ∈ G := List.mem_filter.mpr ⟨List.mem_of_getElem? (i := 50) (by decide +kernel), by decide +kernel⟩
theorem kw_52 : (Cond.lays RX6 "DoughRoom$Trace" "running" "Z") ∈ G := List.mem_filter.mpr ⟨List.mem_of_getElem? (i := 52) (by decide +kernel), by decide +kernel⟩
theorem kw_54 : (Cond.superclass RX6 "java/lang/Object") ∈ G := List.mem_filter.mpr ⟨List.mem_of_getElem? (i := 54) (by decide +kernel), by decide +kernel⟩
theorem kw_55 : (Cond.arrayClass .int) ∈ G := List.mem_filter.mpr ⟨List.mem_of_getElem? (i := 55) (by decide +kernel), by decide +kernel⟩
theorem kw_56 : (Cond.fieldLink RX8 11 "DoughRoom" "batches" "[LDoughRoom$Dough;") ∈ G := List.mem_filter.mpr ⟨List.mem_of_getElem? (i := 56) (by decide +kernel), by decide +kernel⟩
theorem kw_57 : (Cond.fieldLink RX8 15 "DoughRoom" "heats" "[I") ∈ G := List.mem_filter.mpr ⟨List.mem_of_getElem? (i := 57) (by decide +kernel), by decide +kernel⟩
theorem kw_58 : (Cond.fieldLink RX8 22 "DoughRoom" "trace" "LDoughRoom$Trace;") ∈ G := List.mem_filter.mpr ⟨List.mem_of_getElem? (i := 58) (by decide +kernel), by decide +kernel⟩
theorem kw_59 : (Cond.fieldLink RX8 34 "DoughRoom" "made" "I") ∈ G := List.mem_filter.mpr ⟨List.mem_of_getElem? (i := 59) (by decide +kernel), by decide +kernel⟩
theorem kw_60 : (Cond.fieldLink RX8 26 "DoughRoom" "warmth" "I") ∈ G := List.mem_filter.mpr ⟨List.mem_of_getElem? (i := 60) (by decide +kernel), by decide +kernel⟩
theorem kw_61 : (Cond.fieldLink RX8 117 "DoughRoom" "days" "I") ∈ G := List.mem_filter.mpr ⟨List.mem_of_getElem? (i := 61) (by decide +kernel), by decide +kernel⟩
theorem kw_62 : (Cond.fieldLink RX8 129 "DoughRoom" "till" "I") ∈ G := List.mem_filter.mpr ⟨List.mem_of_getElem? (i := 62) (by decide +kernel), by decide +kernel⟩
theorem kw_63 : (Cond.laysFinal RX8 "DoughRoom" "batches" "[LDoughRoom$Dough;") ∈ G := List.mem_filter.mpr ⟨List.mem_of_getElem? (i := 63) (by decide +kernel), by decide +kernel⟩
theorem kw_65 : (Cond.laysFinal RX8 "DoughRoom" "heats" "[I") ∈ G := List.mem_filter.mpr ⟨List.mem_of_getElem? (i := 65) (by decide +kernel), by decide +kernel⟩
theorem kw_67 : (Cond.laysFinal RX8 "DoughRoom" "trace" "LDoughRoom$Trace;") ∈ G := List.mem_filter.mpr ⟨List.mem_of_getElem? (i := 67) (by decide +kernel), by decide +kernel⟩
theorem kw_69 : (Cond.lays RX8 "DoughRoom" "made" "I") ∈ G := List.mem_filter.mpr ⟨List.mem_of_getElem? (i := 69) (by decide +kernel), by decide +kernel⟩
theorem kw_71 : (Cond.lays RX8 "DoughRoom" "warmth" "I") ∈ G := List.mem_filter.mpr ⟨List.mem_of_getElem? (i := 71) (by decide +kernel), by decide +kernel⟩
theorem kw_73 : (Cond.lays RX8 "DoughRoom" "days" "I") ∈ G := List.mem_filter.mpr ⟨List.mem_of_getElem? (i := 73) (by decide +kernel), by decide +kernel⟩
theorem kw_75 : (Cond.lays RX8 "DoughRoom" "till" "I") ∈ G := List.mem_filter.mpr ⟨List.mem_of_getElem? (i := 75) (by decide +kernel), by decide +kernel⟩
theorem kw_77 : (Cond.superclass RX8 "java/lang/Object") ∈ G := List.mem_filter.mpr ⟨List.mem_of_getElem? (i := 77) (by decide +kernel), by decide +kernel⟩
theorem kw_78 : (Cond.methodLink RL 13 yX8_batch) ∈ G := List.mem_filter.mpr ⟨List.mem_of_getElem? (i := 78) (by decide +kernel), by decide +kernel⟩
theorem kw_79 : (Cond.instanceMethod yX8_batch) ∈ G := List.mem_filter.mpr ⟨List.mem_of_getElem? (i := 79) (by decide +kernel), by decide +kernel⟩
theorem kw_80 : (Cond.selects RX8 yX8_batch yX8_batch) ∈ G := List.mem_filter.mpr ⟨List.mem_of_getElem? (i := 80) (by decide +kernel), by decide +kernel⟩
theorem kw_81 : (Cond.code yX8_batch cX8_batch 3 (some .int)) ∈ G := List.mem_filter.mpr ⟨List.mem_of_getElem? (i := 81) (by decide +kernel), by decide +kernel⟩
theorem kw_82 : (Cond.methodLink RX8 30 yX8_within) ∈ G := List.mem_filter.mpr ⟨List.mem_of_getElem? (i := 82) (by decide +kernel), by decide +kernel⟩
theorem kw_83 : (Cond.static yX8_within) ∈ G := List.mem_filter.mpr ⟨List.mem_of_getElem? (i := 83) (by decide +kernel), by decide +kernel⟩
theorem kw_84 : (Cond.code yX8_within cX8_within 3 (some .boolean)) ∈ G := List.mem_filter.mpr ⟨List.mem_of_getElem? (i := 84) (by decide +kernel), by decide +kernel⟩
theorem kw_85 : (Cond.methodLink RX8 37 yX8_knead) ∈ G := List.mem_filter.mpr ⟨List.mem_of_getElem? (i := 85) (by decide +kernel), by decide +kernel⟩
theorem kw_87 : (Cond.instanceMethod yX8_knead) ∈ G := List.mem_filter.mpr ⟨List.mem_of_getElem? (i := 87) (by decide +kernel), by decide +kernel⟩
theorem kw_88 : (Cond.code yX8_knead cX8_knead 3 (some (.object "DoughRoom$Dough"))) ∈ G := List.mem_filter.mpr ⟨List.mem_of_getElem? (i := 88) (by decide +kernel), by decide +kernel⟩
theorem kw_89 : (Cond.classLink RX8 135 RX7) ∈ G := List.mem_filter.mpr ⟨List.mem_of_getElem? (i := 89) (by decide +kernel), by decide +kernel⟩
theorem kw_90 : (Cond.instantiable RX7 8) ∈ G := List.mem_filter.mpr ⟨List.mem_of_getElem? (i := 90) (by decide +kernel), by decide +kernel⟩
theorem kw_91 : (Cond.methodLink RX8 137 yX7_init) ∈ G := List.mem_filter.mpr ⟨List.mem_of_getElem? (i := 91) (by decide +kernel), by decide +kernel⟩
theorem kw_92 : (Cond.instanceMethod yX7_init) ∈ G := List.mem_filter.mpr ⟨List.mem_of_getElem? (i := 92) (by decide +kernel), by decide +kernel⟩
theorem kw_93 : (Cond.code yX7_init cX7_init 4 none) ∈ G := List.mem_filter.mpr ⟨List.mem_of_getElem? (i := 93) (by decide +kernel), by decide +kernel⟩
theorem kw_94 : (Cond.methodLink RX7 1 yX2_init) ∈ G := List.mem_filter.mpr ⟨List.mem_of_getElem? (i := 94) (by decide +kernel), by decide +kernel⟩
theorem kw_95 : (Cond.instanceMethod yX2_init) ∈ G := List.mem_filter.mpr ⟨List.mem_of_getElem? (i := 95) (by decide +kernel), by decide +kernel⟩
theorem kw_96 : (Cond.code yX2_init cX2_init 4 none) ∈ G := List.mem_filter.mpr ⟨List.mem_of_getElem? (i := 96) (by decide +kernel), by decide +kernel⟩
theorem kw_97 : (Cond.methodLink RX2 3 objectInit) ∈ G := List.mem_filter.mpr ⟨List.mem_of_getElem? (i := 97) (by decide +kernel), by decide +kernel⟩
theorem kw_98 : (Cond.fieldLink RX2 9 "DoughRoom$Dough" "kind" "I") ∈ G := List.mem_filter.mpr ⟨List.mem_of_getElem? (i := 98) (by decide +kernel), by decide +kernel⟩
theorem kw_99 : (Cond.fieldLink RX8 132 "DoughRoom$Dough" "kind" "I") ∈ G := List.mem_filter.mpr ⟨List.mem_of_getElem? (i := 99) (by decide +kernel), by decide +kernel⟩
theorem kw_100 : (Cond.fieldLink RX2 15 "DoughRoom$Dough" "mass" "I") ∈ G := List.mem_filter.mpr ⟨List.mem_of_getElem? (i := 100) (by decide +kernel), by decide +kernel⟩
theorem kw_101 : (Cond.fieldLink RX8 111 "DoughRoom$Dough" "mass" "I") ∈ G := List.mem_filter.mpr ⟨List.mem_of_getElem? (i := 101) (by decide +kernel), by decide +kernel⟩
theorem kw_102 : (Cond.fieldLink RX2 18 "DoughRoom$Dough" "trace" "LDoughRoom$Trace;") ∈ G := List.mem_filter.mpr ⟨List.mem_of_getElem? (i := 102) (by decide +kernel), by decide +kernel⟩
theorem kw_103 : (Cond.fieldLink RX0 7 "DoughRoom$Black" "trace" "LDoughRoom$Trace;") ∈ G := List.mem_filter.mpr ⟨List.mem_of_getElem? (i := 103) (by decide +kernel), by decide +kernel⟩
theorem kw_104 : (Cond.sameField "DoughRoom$Black" "DoughRoom$Dough" "trace" "LDoughRoom$Trace;") ∈ G := List.mem_filter.mpr ⟨List.mem_of_getElem? (i := 104) (by decide +kernel), by decide +kernel⟩
theorem kw_105 : (Cond.fieldLink RX4 7 "DoughRoom$Sour" "trace" "LDoughRoom$Trace;") ∈ G := List.mem_filter.mpr ⟨List.mem_of_getElem? (i := 105) (by decide +kernel), by decide +kernel⟩
theorem kw_106 : (Cond.sameField "DoughRoom$Sour" "DoughRoom$Dough" "trace" "LDoughRoom$Trace;") ∈ G := List.mem_filter.mpr ⟨List.mem_of_getElem? (i := 106) (by decide +kernel), by decide +kernel⟩
theorem kw_107 : (Cond.fieldLink RX1 7 "DoughRoom$Butter" "trace" "LDoughRoom$Trace;") ∈ G := List.mem_filter.mpr ⟨List.mem_of_getElem? (i := 107) (by decide +kernel), by decide +kernel⟩
theorem kw_108 : (Cond.sameField "DoughRoom$Butter" "DoughRoom$Dough" "trace" "LDoughRoom$Trace;") ∈ G := List.mem_filter.mpr ⟨List.mem_of_getElem? (i := 108) (by decide +kernel), by decide +kernel⟩
theorem kw_109 : (Cond.fieldLink RX3 7 "DoughRoom$Rye" "trace" "LDoughRoom$Trace;") ∈ G := List.mem_filter.mpr ⟨List.mem_of_getElem? (i := 109) (by decide +kernel), by decide +kernel⟩
theorem kw_110 : (Cond.sameField "DoughRoom$Rye" "DoughRoom$Dough" "trace" "LDoughRoom$Trace;") ∈ G := List.mem_filter.mpr ⟨List.mem_of_getElem? (i := 110) (by decide +kernel), by decide +kernel⟩
theorem kw_111 : (Cond.fieldLink RX7 7 "DoughRoom$Yeast" "trace" "LDoughRoom$Trace;") ∈ G := List.mem_filter.mpr ⟨List.mem_of_getElem? (i := 111) (by decide +kernel), by decide +kernel⟩
theorem kw_112 : (Cond.sameField "DoughRoom$Yeast" "DoughRoom$Dough" "trace" "LDoughRoom$Trace;") ∈ G := List.mem_filter.mpr ⟨List.mem_of_getElem? (i := 112) (by decide +kernel), by decide +kernel⟩
theorem kw_113 : (Cond.fieldLink RX5 7 "DoughRoom$Sweet" "trace" "LDoughRoom$Trace;") ∈ G := List.mem_filter.mpr ⟨List.mem_of_getElem? (i := 113) (by decide +kernel), by decide +kernel⟩
theorem kw_114 : (Cond.sameField "DoughRoom$Sweet" "DoughRoom$Dough" "trace" "LDoughRoom$Trace;") ∈ G := List.mem_filter.mpr ⟨List.mem_of_getElem? (i := 114) (by decide +kernel), by decide +kernel⟩
theorem kw_115 : (Cond.fieldLink RX2 22 "DoughRoom$Dough" "state" "I") ∈ G := List.mem_filter.mpr ⟨List.mem_of_getElem? (i := 115) (by decide +kernel), by decide +kernel⟩
theorem kw_116 : (Cond.fieldLink RX8 89 "DoughRoom$Dough" "state" "I") ∈ G := List.mem_filter.mpr ⟨List.mem_of_getElem? (i := 116) (by decide +kernel), by decide +kernel⟩
theorem kw_117 : (Cond.fieldLink RX2 39 "DoughRoom$Dough" "risen" "I") ∈ G := List.mem_filter.mpr ⟨List.mem_of_getElem? (i := 117) (by decide +kernel), by decide +kernel⟩
theorem kw_118 : (Cond.fieldLink RX8 105 "DoughRoom$Dough" "risen" "I") ∈ G := List.mem_filter.mpr ⟨List.mem_of_getElem? (i := 118) (by decide +kernel), by decide +kernel⟩
theorem kw_119 : (Cond.fieldLink RX2 45 "DoughRoom$Dough" "browned" "I") ∈ G := List.mem_filter.mpr ⟨List.mem_of_getElem? (i := 119) (by decide +kernel), by decide +kernel⟩
theorem kw_120 : (Cond.fieldLink RX8 114 "DoughRoom$Dough" "browned" "I") ∈ G := List.mem_filter.mpr ⟨List.mem_of_getElem? (i := 120) (by decide +kernel), by decide +kernel⟩
theorem kw_121 : (Cond.fieldLink RX8 96 "DoughRoom$Dough" "oven" "I") ∈ G := List.mem_filter.mpr ⟨List.mem_of_getElem? (i := 121) (by decide +kernel), by decide +kernel⟩
theorem kw_122 : (Cond.fieldLink RX8 120 "DoughRoom$Dough" "doneSince" "I") ∈ G := List.mem_filter.mpr ⟨List.mem_of_getElem? (i := 122) (by decide +kernel), by decide +kernel⟩
theorem kw_123 : (Cond.laysFinal RX7 "DoughRoom$Dough" "kind" "I") ∈ G := List.mem_filter.mpr ⟨List.mem_of_getElem? (i := 123) (by decide +kernel), by decide +kernel⟩
theorem kw_125 : (Cond.laysFinal RX7 "DoughRoom$Dough" "mass" "I") ∈ G := List.mem_filter.mpr ⟨List.mem_of_getElem? (i := 125) (by decide +kernel), by decide +kernel⟩
theorem kw_127 : (Cond.laysFinal RX7 "DoughRoom$Dough" "trace" "LDoughRoom$Trace;") ∈ G := List.mem_filter.mpr ⟨List.mem_of_getElem? (i := 127) (by decide +kernel), by decide +kernel⟩
theorem kw_129 : (Cond.lays RX7 "DoughRoom$Dough" "state" "I") ∈ G := List.mem_filter.mpr ⟨List.mem_of_getElem? (i := 129) (by decide +kernel), by decide +kernel⟩
theorem kw_131 : (Cond.lays RX7 "DoughRoom$Dough" "risen" "I") ∈ G := List.mem_filter.mpr ⟨List.mem_of_getElem? (i := 131) (by decide +kernel), by decide +kernel⟩
theorem kw_133 : (Cond.lays RX7 "DoughRoom$Dough" "browned" "I") ∈ G := List.mem_filter.mpr ⟨List.mem_of_getElem? (i := 133) (by decide +kernel), by decide +kernel⟩
theorem kw_135 : (Cond.lays RX7 "DoughRoom$Dough" "oven" "I") ∈ G := List.mem_filter.mpr ⟨List.mem_of_getElem? (i := 135) (by decide +kernel), by decide +kernel⟩
theorem kw_137 : (Cond.lays RX7 "DoughRoom$Dough" "doneSince" "I") ∈ G := List.mem_filter.mpr ⟨List.mem_of_getElem? (i := 137) (by decide +kernel), by decide +kernel⟩
theorem kw_139 : (Cond.superclass RX7 RX2) ∈ G := List.mem_filter.mpr ⟨List.mem_of_getElem? (i := 139) (by decide +kernel), by decide +kernel⟩
theorem kw_140 : (Cond.classLink RX8 66 RX4) ∈ G := List.mem_filter.mpr ⟨List.mem_of_getElem? (i := 140) (by decide +kernel), by decide +kernel⟩
theorem kw_141 : (Cond.instantiable RX4 8) ∈ G := List.mem_filter.mpr ⟨List.mem_of_getElem? (i := 141) (by decide +kernel), by decide +kernel⟩
theorem kw_142 : (Cond.methodLink RX8 140 yX4_init) ∈ G := List.mem_filter.mpr ⟨List.mem_of_getElem? (i := 142) (by decide +kernel), by decide +kernel⟩
theorem kw_143 : (Cond.instanceMethod yX4_init) ∈ G := List.mem_filter.mpr ⟨List.mem_of_getElem? (i := 143) (by decide +kernel), by decide +kernel⟩
theorem kw_144 : (Cond.code yX4_init cX4_init 4 none) ∈ G := List.mem_filter.mpr ⟨List.mem_of_getElem? (i := 144) (by decide +kernel), by decide +kernel⟩
theorem kw_145 : (Cond.methodLink RX4 1 yX7_init) ∈ G := List.mem_filter.mpr ⟨List.mem_of_getElem? (i := 145) (by decide +kernel), by decide +kernel⟩
theorem kw_146 : (Cond.laysFinal RX4 "DoughRoom$Dough" "kind" "I") ∈ G := List.mem_filter.mpr ⟨List.mem_of_getElem? (i := 146) (by decide +kernel), by decide +kernel⟩
theorem kw_147 : (Cond.laysFinal RX4 "DoughRoom$Dough" "mass" "I") ∈ G := List.mem_filter.mpr ⟨List.mem_of_getElem? (i := 147) (by decide +kernel), by decide +kernel⟩
theorem kw_148 : (Cond.laysFinal RX4 "DoughRoom$Dough" "trace" "LDoughRoom$Trace;") ∈ G := List.mem_filter.mpr ⟨List.mem_of_getElem? (i := 148) (by decide +kernel), by decide +kernel⟩
theorem kw_149 : (Cond.lays RX4 "DoughRoom$Dough" "state" "I") ∈ G := List.mem_filter.mpr ⟨List.mem_of_getElem? (i := 149) (by decide +kernel), by decide +kernel⟩
theorem kw_150 : (Cond.lays RX4 "DoughRoom$Dough" "risen" "I") ∈ G := List.mem_filter.mpr ⟨List.mem_of_getElem? (i := 150) (by decide +kernel), by decide +kernel⟩
theorem kw_151 : (Cond.lays RX4 "DoughRoom$Dough" "browned" "I") ∈ G := List.mem_filter.mpr ⟨List.mem_of_getElem? (i := 151) (by decide +kernel), by decide +kernel⟩
theorem kw_152 : (Cond.lays RX4 "DoughRoom$Dough" "oven" "I") ∈ G := List.mem_filter.mpr ⟨List.mem_of_getElem? (i := 152) (by decide +kernel), by decide +kernel⟩
theorem kw_153 : (Cond.lays RX4 "DoughRoom$Dough" "doneSince" "I") ∈ G := List.mem_filter.mpr ⟨List.mem_of_getElem? (i := 153) (by decide +kernel), by decide +kernel⟩
theorem kw_154 : (Cond.superclass RX4 RX7) ∈ G := List.mem_filter.mpr ⟨List.mem_of_getElem? (i := 154) (by decide +kernel), by decide +kernel⟩
theorem kw_155 : (Cond.classLink RX8 141 RX3) ∈ G := List.mem_filter.mpr ⟨List.mem_of_getElem? (i := 155) (by decide +kernel), by decide +kernel⟩
theorem kw_156 : (Cond.instantiable RX3 8) ∈ G := List.mem_filter.mpr ⟨List.mem_of_getElem? (i := 156) (by decide +kernel), by decide +kernel⟩
theorem kw_157 : (Cond.methodLink RX8 143 yX3_init) ∈ G := List.mem_filter.mpr ⟨List.mem_of_getElem? (i := 157) (by decide +kernel), by decide +kernel⟩
theorem kw_158 : (Cond.instanceMethod yX3_init) ∈ G := List.mem_filter.mpr ⟨List.mem_of_getElem? (i := 158) (by decide +kernel), by decide +kernel⟩
theorem kw_159 : (Cond.code yX3_init cX3_init 4 none) ∈ G := List.mem_filter.mpr ⟨List.mem_of_getElem? (i := 159) (by decide +kernel), by decide +kernel⟩
theorem kw_160 : (Cond.methodLink RX3 1 yX4_init) ∈ G := List.mem_filter.mpr ⟨List.mem_of_getElem? (i := 160) (by decide +kernel), by decide +kernel⟩
theorem kw_161 : (Cond.laysFinal RX3 "DoughRoom$Dough" "kind" "I") ∈ G := List.mem_filter.mpr ⟨List.mem_of_getElem? (i := 161) (by decide +kernel), by decide +kernel⟩
theorem kw_162 : (Cond.laysFinal RX3 "DoughRoom$Dough" "mass" "I") ∈ G := List.mem_filter.mpr ⟨List.mem_of_getElem? (i := 162) (by decide +kernel), by decide +kernel⟩
theorem kw_163 : (Cond.laysFinal RX3 "DoughRoom$Dough" "trace" "LDoughRoom$Trace;") ∈ G := List.mem_filter.mpr ⟨List.mem_of_getElem? (i := 163) (by decide +kernel), by decide +kernel⟩
theorem kw_164 : (Cond.lays RX3 "DoughRoom$Dough" "state" "I") ∈ G := List.mem_filter.mpr ⟨List.mem_of_getElem? (i := 164) (by decide +kernel), by decide +kernel⟩
theorem kw_165 : (Cond.lays RX3 "DoughRoom$Dough" "risen" "I") ∈ G := List.mem_filter.mpr ⟨List.mem_of_getElem? (i := 165) (by decide +kernel), by decide +kernel⟩
theorem kw_166 : (Cond.lays RX3 "DoughRoom$Dough" "browned" "I") ∈ G := List.mem_filter.mpr ⟨List.mem_of_getElem? (i := 166) (by decide +kernel), by decide +kernel⟩
theorem kw_167 : (Cond.lays RX3 "DoughRoom$Dough" "oven" "I") ∈ G := List.mem_filter.mpr ⟨List.mem_of_getElem? (i := 167) (by decide +kernel), by decide +kernel⟩
theorem kw_168 : (Cond.lays RX3 "DoughRoom$Dough" "doneSince" "I") ∈ G := List.mem_filter.mpr ⟨List.mem_of_getElem? (i := 168) (by decide +kernel), by decide +kernel⟩
theorem kw_169 : (Cond.superclass RX3 RX4) ∈ G := List.mem_filter.mpr ⟨List.mem_of_getElem? (i := 169) (by decide +kernel), by decide +kernel⟩
theorem kw_170 : (Cond.classLink RX8 144 RX0) ∈ G := List.mem_filter.mpr ⟨List.mem_of_getElem? (i := 170) (by decide +kernel), by decide +kernel⟩
theorem kw_171 : (Cond.instantiable RX0 8) ∈ G := List.mem_filter.mpr ⟨List.mem_of_getElem? (i := 171) (by decide +kernel), by decide +kernel⟩
theorem kw_172 : (Cond.methodLink RX8 146 yX0_init) ∈ G := List.mem_filter.mpr ⟨List.mem_of_getElem? (i := 172) (by decide +kernel), by decide +kernel⟩
theorem kw_173 : (Cond.instanceMethod yX0_init) ∈ G := List.mem_filter.mpr ⟨List.mem_of_getElem? (i := 173) (by decide +kernel), by decide +kernel⟩
theorem kw_174 : (Cond.code yX0_init cX0_init 4 none) ∈ G := List.mem_filter.mpr ⟨List.mem_of_getElem? (i := 174) (by decide +kernel), by decide +kernel⟩
theorem kw_175 : (Cond.methodLink RX0 1 yX3_init) ∈ G := List.mem_filter.mpr ⟨List.mem_of_getElem? (i := 175) (by decide +kernel), by decide +kernel⟩
theorem kw_176 : (Cond.laysFinal RX0 "DoughRoom$Dough" "kind" "I") ∈ G := List.mem_filter.mpr ⟨List.mem_of_getElem? (i := 176) (by decide +kernel), by decide +kernel⟩
theorem kw_177 : (Cond.laysFinal RX0 "DoughRoom$Dough" "mass" "I") ∈ G := List.mem_filter.mpr ⟨List.mem_of_getElem? (i := 177) (by decide +kernel), by decide +kernel⟩
theorem kw_178 : (Cond.laysFinal RX0 "DoughRoom$Dough" "trace" "LDoughRoom$Trace;") ∈ G := List.mem_filter.mpr ⟨List.mem_of_getElem? (i := 178) (by decide +kernel), by decide +kernel⟩
theorem kw_179 : (Cond.lays RX0 "DoughRoom$Dough" "state" "I") ∈ G := List.mem_filter.mpr ⟨List.mem_of_getElem? (i := 179) (by decide +kernel), by decide +kernel⟩
theorem kw_180 : (Cond.lays RX0 "DoughRoom$Dough" "risen" "I") ∈ G := List.mem_filter.mpr ⟨List.mem_of_getElem? (i := 180) (by decide +kernel), by decide +kernel⟩
theorem kw_181 : (Cond.lays RX0 "DoughRoom$Dough" "browned" "I") ∈ G := List.mem_filter.mpr ⟨List.mem_of_getElem? (i := 181) (by decide +kernel), by decide +kernel⟩
theorem kw_182 : (Cond.lays RX0 "DoughRoom$Dough" "oven" "I") ∈ G := List.mem_filter.mpr ⟨List.mem_of_getElem? (i := 182) (by decide +kernel), by decide +kernel⟩
theorem kw_183 : (Cond.lays RX0 "DoughRoom$Dough" "doneSince" "I") ∈ G := List.mem_filter.mpr ⟨List.mem_of_getElem? (i := 183) (by decide +kernel), by decide +kernel⟩
theorem kw_184 : (Cond.superclass RX0 RX3) ∈ G := List.mem_filter.mpr ⟨List.mem_of_getElem? (i := 184) (by decide +kernel), by decide +kernel⟩
theorem kw_185 : (Cond.classLink RX8 71 RX5) ∈ G := List.mem_filter.mpr ⟨List.mem_of_getElem? (i := 185) (by decide +kernel), by decide +kernel⟩
theorem kw_186 : (Cond.instantiable RX5 8) ∈ G := List.mem_filter.mpr ⟨List.mem_of_getElem? (i := 186) (by decide +kernel), by decide +kernel⟩
theorem kw_187 : (Cond.methodLink RX8 147 yX5_init) ∈ G := List.mem_filter.mpr ⟨List.mem_of_getElem? (i := 187) (by decide +kernel), by decide +kernel⟩
theorem kw_188 : (Cond.instanceMethod yX5_init) ∈ G := List.mem_filter.mpr ⟨List.mem_of_getElem? (i := 188) (by decide +kernel), by decide +kernel⟩
theorem kw_189 : (Cond.code yX5_init cX5_init 4 none) ∈ G := List.mem_filter.mpr ⟨List.mem_of_getElem? (i := 189) (by decide +kernel), by decide +kernel⟩
theorem kw_190 : (Cond.methodLink RX5 1 yX2_init) ∈ G := List.mem_filter.mpr ⟨List.mem_of_getElem? (i := 190) (by decide +kernel), by decide +kernel⟩
theorem kw_191 : (Cond.laysFinal RX5 "DoughRoom$Dough" "kind" "I") ∈ G := List.mem_filter.mpr ⟨List.mem_of_getElem? (i := 191) (by decide +kernel), by decide +kernel⟩
theorem kw_192 : (Cond.laysFinal RX5 "DoughRoom$Dough" "mass" "I") ∈ G := List.mem_filter.mpr ⟨List.mem_of_getElem? (i := 192) (by decide +kernel), by decide +kernel⟩
theorem kw_193 : (Cond.laysFinal RX5 "DoughRoom$Dough" "trace" "LDoughRoom$Trace;") ∈ G := List.mem_filter.mpr ⟨List.mem_of_getElem? (i := 193) (by decide +kernel), by decide +kernel⟩
theorem kw_194 : (Cond.lays RX5 "DoughRoom$Dough" "state" "I") ∈ G := List.mem_filter.mpr ⟨List.mem_of_getElem? (i := 194) (by decide +kernel), by decide +kernel⟩
theorem kw_195 : (Cond.lays RX5 "DoughRoom$Dough" "risen" "I") ∈ G := List.mem_filter.mpr ⟨List.mem_of_getElem? (i := 195) (by decide +kernel), by decide +kernel⟩
theorem kw_196 : (Cond.lays RX5 "DoughRoom$Dough" "browned" "I") ∈ G := List.mem_filter.mpr ⟨List.mem_of_getElem? (i := 196) (by decide +kernel), by decide +kernel⟩
theorem kw_197 : (Cond.lays RX5 "DoughRoom$Dough" "oven" "I") ∈ G := List.mem_filter.mpr ⟨List.mem_of_getElem? (i := 197) (by decide +kernel), by decide +kernel⟩
theorem kw_198 : (Cond.lays RX5 "DoughRoom$Dough" "doneSince" "I") ∈ G := List.mem_filter.mpr ⟨List.mem_of_getElem? (i := 198) (by decide +kernel), by decide +kernel⟩
theorem kw_199 : (Cond.superclass RX5 RX2) ∈ G := List.mem_filter.mpr ⟨List.mem_of_getElem? (i := 199) (by decide +kernel), by decide +kernel⟩
theorem kw_200 : (Cond.classLink RX8 148 RX1) ∈ G := List.mem_filter.mpr ⟨List.mem_of_getElem? (i := 200) (by decide +kernel), by decide +kernel⟩
theorem kw_201 : (Cond.instantiable RX1 8) ∈ G := List.mem_filter.mpr ⟨List.mem_of_getElem? (i := 201) (by decide +kernel), by decide +kernel⟩
theorem kw_202 : (Cond.methodLink RX8 150 yX1_init) ∈ G := List.mem_filter.mpr ⟨List.mem_of_getElem? (i := 202) (by decide +kernel), by decide +kernel⟩
theorem kw_203 : (Cond.instanceMethod yX1_init) ∈ G := List.mem_filter.mpr ⟨List.mem_of_getElem? (i := 203) (by decide +kernel), by decide +kernel⟩
theorem kw_204 : (Cond.code yX1_init cX1_init 4 none) ∈ G := List.mem_filter.mpr ⟨List.mem_of_getElem? (i := 204) (by decide +kernel), by decide +kernel⟩
theorem kw_205 : (Cond.methodLink RX1 1 yX5_init) ∈ G := List.mem_filter.mpr ⟨List.mem_of_getElem? (i := 205) (by decide +kernel), by decide +kernel⟩
theorem kw_206 : (Cond.laysFinal RX1 "DoughRoom$Dough" "kind" "I") ∈ G := List.mem_filter.mpr ⟨List.mem_of_getElem? (i := 206) (by decide +kernel), by decide +kernel⟩
theorem kw_207 : (Cond.laysFinal RX1 "DoughRoom$Dough" "mass" "I") ∈ G := List.mem_filter.mpr ⟨List.mem_of_getElem? (i := 207) (by decide +kernel), by decide +kernel⟩
theorem kw_208 : (Cond.laysFinal RX1 "DoughRoom$Dough" "trace" "LDoughRoom$Trace;") ∈ G := List.mem_filter.mpr ⟨List.mem_of_getElem? (i := 208) (by decide +kernel), by decide +kernel⟩
theorem kw_209 : (Cond.lays RX1 "DoughRoom$Dough" "state" "I") ∈ G := List.mem_filter.mpr ⟨List.mem_of_getElem? (i := 209) (by decide +kernel), by decide +kernel⟩
theorem kw_210 : (Cond.lays RX1 "DoughRoom$Dough" "risen" "I") ∈ G := List.mem_filter.mpr ⟨List.mem_of_getElem? (i := 210) (by decide +kernel), by decide +kernel⟩
theorem kw_211 : (Cond.lays RX1 "DoughRoom$Dough" "browned" "I") ∈ G := List.mem_filter.mpr ⟨List.mem_of_getElem? (i := 211) (by decide +kernel), by decide +kernel⟩
theorem kw_212 : (Cond.lays RX1 "DoughRoom$Dough" "oven" "I") ∈ G := List.mem_filter.mpr ⟨List.mem_of_getElem? (i := 212) (by decide +kernel), by decide +kernel⟩
theorem kw_213 : (Cond.lays RX1 "DoughRoom$Dough" "doneSince" "I") ∈ G := List.mem_filter.mpr ⟨List.mem_of_getElem? (i := 213) (by decide +kernel), by decide +kernel⟩
theorem kw_214 : (Cond.superclass RX1 RX5) ∈ G := List.mem_filter.mpr ⟨List.mem_of_getElem? (i := 214) (by decide +kernel), by decide +kernel⟩
theorem kw_215 : (Cond.instantiable RX2 8) ∈ G := List.mem_filter.mpr ⟨List.mem_of_getElem? (i := 215) (by decide +kernel), by decide +kernel⟩
theorem kw_216 : (Cond.methodLink RX8 151 yX2_init) ∈ G := List.mem_filter.mpr ⟨List.mem_of_getElem? (i := 216) (by decide +kernel), by decide +kernel⟩
theorem kw_217 : (Cond.laysFinal RX2 "DoughRoom$Dough" "kind" "I") ∈ G := List.mem_filter.mpr ⟨List.mem_of_getElem? (i := 217) (by decide +kernel), by decide +kernel⟩
theorem kw_218 : (Cond.laysFinal RX2 "DoughRoom$Dough" "mass" "I") ∈ G := List.mem_filter.mpr ⟨List.mem_of_getElem? (i := 218) (by decide +kernel), by decide +kernel⟩
theorem kw_219 : (Cond.laysFinal RX2 "DoughRoom$Dough" "trace" "LDoughRoom$Trace;") ∈ G := List.mem_filter.mpr ⟨List.mem_of_getElem? (i := 219) (by decide +kernel), by decide +kernel⟩
theorem kw_220 : (Cond.lays RX2 "DoughRoom$Dough" "state" "I") ∈ G := List.mem_filter.mpr ⟨List.mem_of_getElem? (i := 220) (by decide +kernel), by decide +kernel⟩
theorem kw_221 : (Cond.lays RX2 "DoughRoom$Dough" "risen" "I") ∈ G := List.mem_filter.mpr ⟨List.mem_of_getElem? (i := 221) (by decide +kernel), by decide +kernel⟩
theorem kw_222 : (Cond.lays RX2 "DoughRoom$Dough" "browned" "I") ∈ G := List.mem_filter.mpr ⟨List.mem_of_getElem? (i := 222) (by decide +kernel), by decide +kernel⟩
theorem kw_223 : (Cond.lays RX2 "DoughRoom$Dough" "oven" "I") ∈ G := List.mem_filter.mpr ⟨List.mem_of_getElem? (i := 223) (by decide +kernel), by decide +kernel⟩
theorem kw_224 : (Cond.lays RX2 "DoughRoom$Dough" "doneSince" "I") ∈ G := List.mem_filter.mpr ⟨List.mem_of_getElem? (i := 224) (by decide +kernel), by decide +kernel⟩
theorem kw_225 : (Cond.superclass RX2 "java/lang/Object") ∈ G := List.mem_filter.mpr ⟨List.mem_of_getElem? (i := 225) (by decide +kernel), by decide +kernel⟩
theorem kw_226 : (Cond.methodLink RL 18 yX8_ask) ∈ G := List.mem_filter.mpr ⟨List.mem_of_getElem? (i := 226) (by decide +kernel), by decide +kernel⟩
theorem kw_227 : (Cond.instanceMethod yX8_ask) ∈ G := List.mem_filter.mpr ⟨List.mem_of_getElem? (i := 227) (by decide +kernel), by decide +kernel⟩
theorem kw_228 : (Cond.selects RX8 yX8_ask yX8_ask) ∈ G := List.mem_filter.mpr ⟨List.mem_of_getElem? (i := 228) (by decide +kernel), by decide +kernel⟩
theorem kw_229 : (Cond.code yX8_ask cX8_ask 7 (some .int)) ∈ G := List.mem_filter.mpr ⟨List.mem_of_getElem? (i := 229) (by decide +kernel), by decide +kernel⟩
theorem kw_230 : (Cond.methodLink RX8 41 yX8_find) ∈ G := List.mem_filter.mpr ⟨List.mem_of_getElem? (i := 230) (by decide +kernel), by decide +kernel⟩
theorem kw_232 : (Cond.instanceMethod yX8_find) ∈ G := List.mem_filter.mpr ⟨List.mem_of_getElem? (i := 232) (by decide +kernel), by decide +kernel⟩
theorem kw_233 : (Cond.code yX8_find cX8_find 2 (some (.object "DoughRoom$Dough"))) ∈ G := List.mem_filter.mpr ⟨List.mem_of_getElem? (i := 233) (by decide +kernel), by decide +kernel⟩
theorem kw_234 : (Cond.methodLink RX8 45 yX8_isQuestion) ∈ G := List.mem_filter.mpr ⟨List.mem_of_getElem? (i := 234) (by decide +kernel), by decide +kernel⟩
theorem kw_235 : (Cond.static yX8_isQuestion) ∈ G := List.mem_filter.mpr ⟨List.mem_of_getElem? (i := 235) (by decide +kernel), by decide +kernel⟩
theorem kw_236 : (Cond.code yX8_isQuestion cX8_isQuestion 2 (some .boolean)) ∈ G := List.mem_filter.mpr ⟨List.mem_of_getElem? (i := 236) (by decide +kernel), by decide +kernel⟩
theorem kw_237 : (Cond.methodLink RX8 49 yX6_start) ∈ G := List.mem_filter.mpr ⟨List.mem_of_getElem? (i := 237) (by decide +kernel), by decide +kernel⟩
theorem kw_238 : (Cond.instanceMethod yX6_start) ∈ G := List.mem_filter.mpr ⟨List.mem_of_getElem? (i := 238) (by decide +kernel), by decide +kernel⟩
theorem kw_239 : (Cond.selects RX6 yX6_start yX6_start) ∈ G := List.mem_filter.mpr ⟨List.mem_of_getElem? (i := 239) (by decide +kernel), by decide +kernel⟩
theorem kw_240 : (Cond.code yX6_start cX6_start 1 none) ∈ G := List.mem_filter.mpr ⟨List.mem_of_getElem? (i := 240) (by decide +kernel), by decide +kernel⟩
theorem kw_241 : (Cond.methodLink RX8 52 yX2_rise) ∈ G := List.mem_filter.mpr ⟨List.mem_of_getElem? (i := 241) (by decide +kernel), by decide +kernel⟩
theorem kw_242 : (Cond.instanceMethod yX2_rise) ∈ G := List.mem_filter.mpr ⟨List.mem_of_getElem? (i := 242) (by decide +kernel), by decide +kernel⟩
theorem kw_243 : (Cond.selects RX2 yX2_rise yX2_rise) ∈ G := List.mem_filter.mpr ⟨List.mem_of_getElem? (i := 243) (by decide +kernel), by decide +kernel⟩
theorem kw_244 : (Cond.sameMethod "DoughRoom$Dough" "DoughRoom$Dough" "rise" "(I)I") ∈ G := List.mem_filter.mpr ⟨List.mem_of_getElem? (i := 244) (by decide +kernel), by decide +kernel⟩
theorem kw_245 : (Cond.selects RX0 yX2_rise yX0_rise) ∈ G := List.mem_filter.mpr ⟨List.mem_of_getElem? (i := 245) (by decide +kernel), by decide +kernel⟩
theorem kw_246 : (Cond.instanceMethod yX0_rise) ∈ G := List.mem_filter.mpr ⟨List.mem_of_getElem? (i := 246) (by decide +kernel), by decide +kernel⟩
theorem kw_247 : (Cond.code yX0_rise cX0_rise 2 (some .int)) ∈ G := List.mem_filter.mpr ⟨List.mem_of_getElem? (i := 247) (by decide +kernel), by decide +kernel⟩
theorem kw_248 : (Cond.methodLink RX0 13 yX6_leave) ∈ G := List.mem_filter.mpr ⟨List.mem_of_getElem? (i := 248) (by decide +kernel), by decide +kernel⟩
theorem kw_249 : (Cond.instanceMethod yX6_leave) ∈ G := List.mem_filter.mpr ⟨List.mem_of_getElem? (i := 249) (by decide +kernel), by decide +kernel⟩
theorem kw_250 : (Cond.selects RX6 yX6_leave yX6_leave) ∈ G := List.mem_filter.mpr ⟨List.mem_of_getElem? (i := 250) (by decide +kernel), by decide +kernel⟩
theorem kw_251 : (Cond.code yX6_leave cX6_leave 2 none) ∈ G := List.mem_filter.mpr ⟨List.mem_of_getElem? (i := 251) (by decide +kernel), by decide +kernel⟩
theorem kw_252 : (Cond.methodLink RX0 19 ⟨RX3, "rise", "(I)I"⟩) ∈ G := List.mem_filter.mpr ⟨List.mem_of_getElem? (i := 252) (by decide +kernel), by decide +kernel⟩
theorem kw_253 : (Cond.sameMethod "DoughRoom$Rye" "DoughRoom$Sour" "rise" "(I)I") ∈ G := List.mem_filter.mpr ⟨List.mem_of_getElem? (i := 253) (by decide +kernel), by decide +kernel⟩
theorem kw_255 : (Cond.instanceMethod yX4_rise) ∈ G := List.mem_filter.mpr ⟨List.mem_of_getElem? (i := 255) (by decide +kernel), by decide +kernel⟩
theorem kw_256 : (Cond.code yX4_rise cX4_rise 2 (some .int)) ∈ G := List.mem_filter.mpr ⟨List.mem_of_getElem? (i := 256) (by decide +kernel), by decide +kernel⟩
theorem kw_257 : (Cond.methodLink RX4 13 yX6_leave) ∈ G := List.mem_filter.mpr ⟨List.mem_of_getElem? (i := 257) (by decide +kernel), by decide +kernel⟩
theorem kw_258 : (Cond.methodLink RX4 19 ⟨RX7, "rise", "(I)I"⟩) ∈ G := List.mem_filter.mpr ⟨List.mem_of_getElem? (i := 258) (by decide +kernel), by decide +kernel⟩
theorem kw_259 : (Cond.sameMethod "DoughRoom$Yeast" "DoughRoom$Dough" "rise" "(I)I") ∈ G := List.mem_filter.mpr ⟨List.mem_of_getElem? (i := 259) (by decide +kernel), by decide +kernel⟩
theorem kw_261 : (Cond.selects RX1 yX2_rise yX1_rise) ∈ G := List.mem_filter.mpr ⟨List.mem_of_getElem? (i := 261) (by decide +kernel), by decide +kernel⟩
theorem kw_262 : (Cond.instanceMethod yX1_rise) ∈ G := List.mem_filter.mpr ⟨List.mem_of_getElem? (i := 262) (by decide +kernel), by decide +kernel⟩
theorem kw_263 : (Cond.code yX1_rise cX1_rise 2 (some .int)) ∈ G := List.mem_filter.mpr ⟨List.mem_of_getElem? (i := 263) (by decide +kernel), by decide +kernel⟩
theorem kw_264 : (Cond.methodLink RX1 13 yX6_leave) ∈ G := List.mem_filter.mpr ⟨List.mem_of_getElem? (i := 264) (by decide +kernel), by decide +kernel⟩
theorem kw_265 : (Cond.methodLink RX1 19 ⟨RX5, "rise", "(I)I"⟩) ∈ G := List.mem_filter.mpr ⟨List.mem_of_getElem? (i := 265) (by decide +kernel), by decide +kernel⟩
theorem kw_266 : (Cond.sameMethod "DoughRoom$Sweet" "DoughRoom$Dough" "rise" "(I)I") ∈ G := List.mem_filter.mpr ⟨List.mem_of_getElem? (i := 266) (by decide +kernel), by decide +kernel⟩
theorem kw_267 : (Cond.selects RX3 yX2_rise yX4_rise) ∈ G := List.mem_filter.mpr ⟨List.mem_of_getElem? (i := 267) (by decide +kernel), by decide +kernel⟩
theorem kw_268 : (Cond.selects RX4 yX2_rise yX4_rise) ∈ G := List.mem_filter.mpr ⟨List.mem_of_getElem? (i := 268) (by decide +kernel), by decide +kernel⟩
theorem kw_269 : (Cond.selects RX5 yX2_rise yX2_rise) ∈ G := List.mem_filter.mpr ⟨List.mem_of_getElem? (i := 269) (by decide +kernel), by decide +kernel⟩
theorem kw_270 : (Cond.selects RX7 yX2_rise yX2_rise) ∈ G := List.mem_filter.mpr ⟨List.mem_of_getElem? (i := 270) (by decide +kernel), by decide +kernel⟩
theorem kw_271 : (Cond.code yX2_rise cX2_rise 2 (some .int)) ∈ G := List.mem_filter.mpr ⟨List.mem_of_getElem? (i := 271) (by decide +kernel), by decide +kernel⟩
theorem kw_272 : (Cond.methodLink RX2 25 yX6_leave) ∈ G := List.mem_filter.mpr ⟨List.mem_of_getElem? (i := 272) (by decide +kernel), by decide +kernel⟩
theorem kw_273 : (Cond.methodLink RX8 56 yX2_need) ∈ G := List.mem_filter.mpr ⟨List.mem_of_getElem? (i := 273) (by decide +kernel), by decide +kernel⟩
theorem kw_274 : (Cond.instanceMethod yX2_need) ∈ G := List.mem_filter.mpr ⟨List.mem_of_getElem? (i := 274) (by decide +kernel), by decide +kernel⟩
theorem kw_275 : (Cond.selects RX2 yX2_need yX2_need) ∈ G := List.mem_filter.mpr ⟨List.mem_of_getElem? (i := 275) (by decide +kernel), by decide +kernel⟩
theorem kw_276 : (Cond.sameMethod "DoughRoom$Dough" "DoughRoom$Dough" "need" "()I") ∈ G := List.mem_filter.mpr ⟨List.mem_of_getElem? (i := 276) (by decide +kernel), by decide +kernel⟩
theorem kw_277 : (Cond.selects RX0 yX2_need yX3_need) ∈ G := List.mem_filter.mpr ⟨List.mem_of_getElem? (i := 277) (by decide +kernel), by decide +kernel⟩
theorem kw_278 : (Cond.instanceMethod yX3_need) ∈ G := List.mem_filter.mpr ⟨List.mem_of_getElem? (i := 278) (by decide +kernel), by decide +kernel⟩
theorem kw_279 : (Cond.code yX3_need cX3_need 2 (some .int)) ∈ G := List.mem_filter.mpr ⟨List.mem_of_getElem? (i := 279) (by decide +kernel), by decide +kernel⟩
theorem kw_280 : (Cond.methodLink RX3 13 yX6_leave) ∈ G := List.mem_filter.mpr ⟨List.mem_of_getElem? (i := 280) (by decide +kernel), by decide +kernel⟩
theorem kw_281 : (Cond.methodLink RX3 19 ⟨RX4, "need", "()I"⟩) ∈ G := List.mem_filter.mpr ⟨List.mem_of_getElem? (i := 281) (by decide +kernel), by decide +kernel⟩
theorem kw_282 : (Cond.sameMethod "DoughRoom$Sour" "DoughRoom$Yeast" "need" "()I") ∈ G := List.mem_filter.mpr ⟨List.mem_of_getElem? (i := 282) (by decide +kernel), by decide +kernel⟩
theorem kw_284 : (Cond.instanceMethod yX7_need) ∈ G := List.mem_filter.mpr ⟨List.mem_of_getElem? (i := 284) (by decide +kernel), by decide +kernel⟩
theorem kw_285 : (Cond.code yX7_need cX7_need 1 (some .int)) ∈ G := List.mem_filter.mpr ⟨List.mem_of_getElem? (i := 285) (by decide +kernel), by decide +kernel⟩
theorem kw_286 : (Cond.methodLink RX7 13 yX6_leave) ∈ G := List.mem_filter.mpr ⟨List.mem_of_getElem? (i := 286) (by decide +kernel), by decide +kernel⟩
theorem kw_287 : (Cond.methodLink RX7 19 yX2_need) ∈ G := List.mem_filter.mpr ⟨List.mem_of_getElem? (i := 287) (by decide +kernel), by decide +kernel⟩
theorem kw_288 : (Cond.methodLink RX3 23 ⟨RX3, "rise", "(I)I"⟩) ∈ G := List.mem_filter.mpr ⟨List.mem_of_getElem? (i := 288) (by decide +kernel), by decide +kernel⟩
theorem kw_289 : (Cond.selects RX0 ⟨RX3, "rise", "(I)I"⟩ yX0_rise) ∈ G := List.mem_filter.mpr ⟨List.mem_of_getElem? (i := 289) (by decide +kernel), by decide +kernel⟩
theorem kw_290 : (Cond.selects RX3 ⟨RX3, "rise", "(I)I"⟩ yX4_rise) ∈ G := List.mem_filter.mpr ⟨List.mem_of_getElem? (i := 290) (by decide +kernel), by decide +kernel⟩
theorem kw_291 : (Cond.selects RX1 yX2_need yX2_need) ∈ G := List.mem_filter.mpr ⟨List.mem_of_getElem? (i := 291) (by decide +kernel), by decide +kernel⟩
theorem kw_292 : (Cond.selects RX3 yX2_need yX3_need) ∈ G := List.mem_filter.mpr ⟨List.mem_of_getElem? (i := 292) (by decide +kernel), by decide +kernel⟩
theorem kw_293 : (Cond.selects RX4 yX2_need yX7_need) ∈ G := List.mem_filter.mpr ⟨List.mem_of_getElem? (i := 293) (by decide +kernel), by decide +kernel⟩
theorem kw_294 : (Cond.selects RX5 yX2_need yX2_need) ∈ G := List.mem_filter.mpr ⟨List.mem_of_getElem? (i := 294) (by decide +kernel), by decide +kernel⟩
theorem kw_295 : (Cond.selects RX7 yX2_need yX7_need) ∈ G := List.mem_filter.mpr ⟨List.mem_of_getElem? (i := 295) (by decide +kernel), by decide +kernel⟩
theorem kw_296 : (Cond.code yX2_need cX2_need 1 (some .int)) ∈ G := List.mem_filter.mpr ⟨List.mem_of_getElem? (i := 296) (by decide +kernel), by decide +kernel⟩
theorem kw_297 : (Cond.methodLink RX8 60 yX2_brown) ∈ G := List.mem_filter.mpr ⟨List.mem_of_getElem? (i := 297) (by decide +kernel), by decide +kernel⟩
theorem kw_298 : (Cond.instanceMethod yX2_brown) ∈ G := List.mem_filter.mpr ⟨List.mem_of_getElem? (i := 298) (by decide +kernel), by decide +kernel⟩
theorem kw_299 : (Cond.selects RX2 yX2_brown yX2_brown) ∈ G := List.mem_filter.mpr ⟨List.mem_of_getElem? (i := 299) (by decide +kernel), by decide +kernel⟩
theorem kw_300 : (Cond.sameMethod "DoughRoom$Dough" "DoughRoom$Dough" "brown" "(I)I") ∈ G := List.mem_filter.mpr ⟨List.mem_of_getElem? (i := 300) (by decide +kernel), by decide +kernel⟩
theorem kw_301 : (Cond.selects RX0 yX2_brown yX0_brown) ∈ G := List.mem_filter.mpr ⟨List.mem_of_getElem? (i := 301) (by decide +kernel), by decide +kernel⟩
theorem kw_302 : (Cond.instanceMethod yX0_brown) ∈ G := List.mem_filter.mpr ⟨List.mem_of_getElem? (i := 302) (by decide +kernel), by decide +kernel⟩
theorem kw_303 : (Cond.code yX0_brown cX0_brown 2 (some .int)) ∈ G := List.mem_filter.mpr ⟨List.mem_of_getElem? (i := 303) (by decide +kernel), by decide +kernel⟩
theorem kw_304 : (Cond.methodLink RX0 23 ⟨RX3, "brown", "(I)I"⟩) ∈ G := List.mem_filter.mpr ⟨List.mem_of_getElem? (i := 304) (by decide +kernel), by decide +kernel⟩
theorem kw_305 : (Cond.sameMethod "DoughRoom$Rye" "DoughRoom$Dough" "brown" "(I)I") ∈ G := List.mem_filter.mpr ⟨List.mem_of_getElem? (i := 305) (by decide +kernel), by decide +kernel⟩
theorem kw_307 : (Cond.selects RX1 yX2_brown yX5_brown) ∈ G := List.mem_filter.mpr ⟨List.mem_of_getElem? (i := 307) (by decide +kernel), by decide +kernel⟩
theorem kw_308 : (Cond.instanceMethod yX5_brown) ∈ G := List.mem_filter.mpr ⟨List.mem_of_getElem? (i := 308) (by decide +kernel), by decide +kernel⟩
theorem kw_309 : (Cond.code yX5_brown cX5_brown 2 (some .int)) ∈ G := List.mem_filter.mpr ⟨List.mem_of_getElem? (i := 309) (by decide +kernel), by decide +kernel⟩
theorem kw_310 : (Cond.methodLink RX5 13 yX6_leave) ∈ G := List.mem_filter.mpr ⟨List.mem_of_getElem? (i := 310) (by decide +kernel), by decide +kernel⟩
theorem kw_311 : (Cond.methodLink RX5 19 yX2_brown) ∈ G := List.mem_filter.mpr ⟨List.mem_of_getElem? (i := 311) (by decide +kernel), by decide +kernel⟩
theorem kw_312 : (Cond.selects RX3 yX2_brown yX2_brown) ∈ G := List.mem_filter.mpr ⟨List.mem_of_getElem? (i := 312) (by decide +kernel), by decide +kernel⟩
theorem kw_313 : (Cond.selects RX4 yX2_brown yX2_brown) ∈ G := List.mem_filter.mpr ⟨List.mem_of_getElem? (i := 313) (by decide +kernel), by decide +kernel⟩
theorem kw_314 : (Cond.selects RX5 yX2_brown yX5_brown) ∈ G := List.mem_filter.mpr ⟨List.mem_of_getElem? (i := 314) (by decide +kernel), by decide +kernel⟩
theorem kw_315 : (Cond.selects RX7 yX2_brown yX2_brown) ∈ G := List.mem_filter.mpr ⟨List.mem_of_getElem? (i := 315) (by decide +kernel), by decide +kernel⟩
theorem kw_316 : (Cond.code yX2_brown cX2_brown 2 (some .int)) ∈ G := List.mem_filter.mpr ⟨List.mem_of_getElem? (i := 316) (by decide +kernel), by decide +kernel⟩
theorem kw_317 : (Cond.methodLink RX8 63 yX2_price) ∈ G := List.mem_filter.mpr ⟨List.mem_of_getElem? (i := 317) (by decide +kernel), by decide +kernel⟩
theorem kw_318 : (Cond.instanceMethod yX2_price) ∈ G := List.mem_filter.mpr ⟨List.mem_of_getElem? (i := 318) (by decide +kernel), by decide +kernel⟩
theorem kw_319 : (Cond.selects RX2 yX2_price yX2_price) ∈ G := List.mem_filter.mpr ⟨List.mem_of_getElem? (i := 319) (by decide +kernel), by decide +kernel⟩
theorem kw_320 : (Cond.sameMethod "DoughRoom$Dough" "DoughRoom$Dough" "price" "()I") ∈ G := List.mem_filter.mpr ⟨List.mem_of_getElem? (i := 320) (by decide +kernel), by decide +kernel⟩
theorem kw_321 : (Cond.selects RX0 yX2_price yX0_price) ∈ G := List.mem_filter.mpr ⟨List.mem_of_getElem? (i := 321) (by decide +kernel), by decide +kernel⟩
theorem kw_322 : (Cond.instanceMethod yX0_price) ∈ G := List.mem_filter.mpr ⟨List.mem_of_getElem? (i := 322) (by decide +kernel), by decide +kernel⟩
theorem kw_323 : (Cond.code yX0_price cX0_price 2 (some .int)) ∈ G := List.mem_filter.mpr ⟨List.mem_of_getElem? (i := 323) (by decide +kernel), by decide +kernel⟩
theorem kw_324 : (Cond.methodLink RX0 26 yX3_price) ∈ G := List.mem_filter.mpr ⟨List.mem_of_getElem? (i := 324) (by decide +kernel), by decide +kernel⟩
theorem kw_325 : (Cond.instanceMethod yX3_price) ∈ G := List.mem_filter.mpr ⟨List.mem_of_getElem? (i := 325) (by decide +kernel), by decide +kernel⟩
theorem kw_326 : (Cond.code yX3_price cX3_price 1 (some .int)) ∈ G := List.mem_filter.mpr ⟨List.mem_of_getElem? (i := 326) (by decide +kernel), by decide +kernel⟩
theorem kw_327 : (Cond.methodLink RX3 27 ⟨RX4, "price", "()I"⟩) ∈ G := List.mem_filter.mpr ⟨List.mem_of_getElem? (i := 327) (by decide +kernel), by decide +kernel⟩
theorem kw_328 : (Cond.sameMethod "DoughRoom$Sour" "DoughRoom$Dough" "price" "()I") ∈ G := List.mem_filter.mpr ⟨List.mem_of_getElem? (i := 328) (by decide +kernel), by decide +kernel⟩
theorem kw_330 : (Cond.methodLink RX0 30 ⟨RX0, "need", "()I"⟩) ∈ G := List.mem_filter.mpr ⟨List.mem_of_getElem? (i := 330) (by decide +kernel), by decide +kernel⟩
theorem kw_331 : (Cond.sameMethod "DoughRoom$Black" "DoughRoom$Rye" "need" "()I") ∈ G := List.mem_filter.mpr ⟨List.mem_of_getElem? (i := 331) (by decide +kernel), by decide +kernel⟩
theorem kw_333 : (Cond.selects RX0 ⟨RX0, "need", "()I"⟩ yX3_need) ∈ G := List.mem_filter.mpr ⟨List.mem_of_getElem? (i := 333) (by decide +kernel), by decide +kernel⟩
theorem kw_334 : (Cond.selects RX1 yX2_price yX1_price) ∈ G := List.mem_filter.mpr ⟨List.mem_of_getElem? (i := 334) (by decide +kernel), by decide +kernel⟩
theorem kw_335 : (Cond.instanceMethod yX1_price) ∈ G := List.mem_filter.mpr ⟨List.mem_of_getElem? (i := 335) (by decide +kernel), by decide +kernel⟩
theorem kw_336 : (Cond.code yX1_price cX1_price 1 (some .int)) ∈ G := List.mem_filter.mpr ⟨List.mem_of_getElem? (i := 336) (by decide +kernel), by decide +kernel⟩
theorem kw_337 : (Cond.methodLink RX1 23 ⟨RX5, "price", "()I"⟩) ∈ G := List.mem_filter.mpr ⟨List.mem_of_getElem? (i := 337) (by decide +kernel), by decide +kernel⟩
theorem kw_338 : (Cond.sameMethod "DoughRoom$Sweet" "DoughRoom$Dough" "price" "()I") ∈ G := List.mem_filter.mpr ⟨List.mem_of_getElem? (i := 338) (by decide +kernel), by decide +kernel⟩
theorem kw_339 : (Cond.selects RX3 yX2_price yX3_price) ∈ G := List.mem_filter.mpr ⟨List.mem_of_getElem? (i := 339) (by decide +kernel), by decide +kernel⟩
theorem kw_340 : (Cond.selects RX4 yX2_price yX2_price) ∈ G := List.mem_filter.mpr ⟨List.mem_of_getElem? (i := 340) (by decide +kernel), by decide +kernel⟩
theorem kw_341 : (Cond.selects RX5 yX2_price yX2_price) ∈ G := List.mem_filter.mpr ⟨List.mem_of_getElem? (i := 341) (by decide +kernel), by decide +kernel⟩
theorem kw_342 : (Cond.selects RX7 yX2_price yX2_price) ∈ G := List.mem_filter.mpr ⟨List.mem_of_getElem? (i := 342) (by decide +kernel), by decide +kernel⟩
theorem kw_343 : (Cond.code yX2_price cX2_price 1 (some .int)) ∈ G := List.mem_filter.mpr ⟨List.mem_of_getElem? (i := 343) (by decide +kernel), by decide +kernel⟩
theorem kw_344 : (Cond.methodLink RX8 68 yX4_keeps) ∈ G := List.mem_filter.mpr ⟨List.mem_of_getElem? (i := 344) (by decide +kernel), by decide +kernel⟩
theorem kw_345 : (Cond.instanceMethod yX4_keeps) ∈ G := List.mem_filter.mpr ⟨List.mem_of_getElem? (i := 345) (by decide +kernel), by decide +kernel⟩
theorem kw_346 : (Cond.selects RX4 yX4_keeps yX4_keeps) ∈ G := List.mem_filter.mpr ⟨List.mem_of_getElem? (i := 346) (by decide +kernel), by decide +kernel⟩
theorem kw_347 : (Cond.sameMethod "DoughRoom$Sour" "DoughRoom$Sour" "keeps" "()I") ∈ G := List.mem_filter.mpr ⟨List.mem_of_getElem? (i := 347) (by decide +kernel), by decide +kernel⟩
theorem kw_348 : (Cond.selects RX0 yX4_keeps yX0_keeps) ∈ G := List.mem_filter.mpr ⟨List.mem_of_getElem? (i := 348) (by decide +kernel), by decide +kernel⟩
theorem kw_349 : (Cond.instanceMethod yX0_keeps) ∈ G := List.mem_filter.mpr ⟨List.mem_of_getElem? (i := 349) (by decide +kernel), by decide +kernel⟩
theorem kw_350 : (Cond.code yX0_keeps cX0_keeps 1 (some .int)) ∈ G := List.mem_filter.mpr ⟨List.mem_of_getElem? (i := 350) (by decide +kernel), by decide +kernel⟩
theorem kw_351 : (Cond.methodLink RX0 33 yX0_price) ∈ G := List.mem_filter.mpr ⟨List.mem_of_getElem? (i := 351) (by decide +kernel), by decide +kernel⟩
theorem kw_352 : (Cond.selects RX3 yX4_keeps yX4_keeps) ∈ G := List.mem_filter.mpr ⟨List.mem_of_getElem? (i := 352) (by decide +kernel), by decide +kernel⟩
theorem kw_353 : (Cond.code yX4_keeps cX4_keeps 1 (some .int)) ∈ G := List.mem_filter.mpr ⟨List.mem_of_getElem? (i := 353) (by decide +kernel), by decide +kernel⟩
theorem kw_354 : (Cond.methodLink RX4 23 ⟨RX4, "need", "()I"⟩) ∈ G := List.mem_filter.mpr ⟨List.mem_of_getElem? (i := 354) (by decide +kernel), by decide +kernel⟩
theorem kw_355 : (Cond.selects RX0 ⟨RX4, "need", "()I"⟩ yX3_need) ∈ G := List.mem_filter.mpr ⟨List.mem_of_getElem? (i := 355) (by decide +kernel), by decide +kernel⟩
theorem kw_356 : (Cond.selects RX3 ⟨RX4, "need", "()I"⟩ yX3_need) ∈ G := List.mem_filter.mpr ⟨List.mem_of_getElem? (i := 356) (by decide +kernel), by decide +kernel⟩
theorem kw_357 : (Cond.selects RX4 ⟨RX4, "need", "()I"⟩ yX7_need) ∈ G := List.mem_filter.mpr ⟨List.mem_of_getElem? (i := 357) (by decide +kernel), by decide +kernel⟩
theorem kw_358 : (Cond.methodLink RX8 73 yX5_glaze) ∈ G := List.mem_filter.mpr ⟨List.mem_of_getElem? (i := 358) (by decide +kernel), by decide +kernel⟩
theorem kw_359 : (Cond.instanceMethod yX5_glaze) ∈ G := List.mem_filter.mpr ⟨List.mem_of_getElem? (i := 359) (by decide +kernel), by decide +kernel⟩
theorem kw_360 : (Cond.selects RX5 yX5_glaze yX5_glaze) ∈ G := List.mem_filter.mpr ⟨List.mem_of_getElem? (i := 360) (by decide +kernel), by decide +kernel⟩
theorem kw_361 : (Cond.sameMethod "DoughRoom$Sweet" "DoughRoom$Sweet" "glaze" "()I") ∈ G := List.mem_filter.mpr ⟨List.mem_of_getElem? (i := 361) (by decide +kernel), by decide +kernel⟩
theorem kw_362 : (Cond.selects RX1 yX5_glaze yX1_glaze) ∈ G := List.mem_filter.mpr ⟨List.mem_of_getElem? (i := 362) (by decide +kernel), by decide +kernel⟩
theorem kw_363 : (Cond.instanceMethod yX1_glaze) ∈ G := List.mem_filter.mpr ⟨List.mem_of_getElem? (i := 363) (by decide +kernel), by decide +kernel⟩
theorem kw_364 : (Cond.code yX1_glaze cX1_glaze 1 (some .int)) ∈ G := List.mem_filter.mpr ⟨List.mem_of_getElem? (i := 364) (by decide +kernel), by decide +kernel⟩
theorem kw_365 : (Cond.methodLink RX1 27 ⟨RX1, "brown", "(I)I"⟩) ∈ G := List.mem_filter.mpr ⟨List.mem_of_getElem? (i := 365) (by decide +kernel), by decide +kernel⟩
theorem kw_366 : (Cond.sameMethod "DoughRoom$Butter" "DoughRoom$Sweet" "brown" "(I)I") ∈ G := List.mem_filter.mpr ⟨List.mem_of_getElem? (i := 366) (by decide +kernel), by decide +kernel⟩
theorem kw_368 : (Cond.selects RX1 ⟨RX1, "brown", "(I)I"⟩ yX5_brown) ∈ G := List.mem_filter.mpr ⟨List.mem_of_getElem? (i := 368) (by decide +kernel), by decide +kernel⟩
theorem kw_369 : (Cond.code yX5_glaze cX5_glaze 1 (some .int)) ∈ G := List.mem_filter.mpr ⟨List.mem_of_getElem? (i := 369) (by decide +kernel), by decide +kernel⟩
theorem kw_370 : (Cond.methodLink RX5 23 ⟨RX5, "price", "()I"⟩) ∈ G := List.mem_filter.mpr ⟨List.mem_of_getElem? (i := 370) (by decide +kernel), by decide +kernel⟩
theorem kw_371 : (Cond.selects RX1 ⟨RX5, "price", "()I"⟩ yX1_price) ∈ G := List.mem_filter.mpr ⟨List.mem_of_getElem? (i := 371) (by decide +kernel), by decide +kernel⟩
theorem kw_372 : (Cond.selects RX5 ⟨RX5, "price", "()I"⟩ yX2_price) ∈ G := List.mem_filter.mpr ⟨List.mem_of_getElem? (i := 372) (by decide +kernel), by decide +kernel⟩
theorem kw_373 : (Cond.methodLink RX8 76 yX6_stop) ∈ G := List.mem_filter.mpr ⟨List.mem_of_getElem? (i := 373) (by decide +kernel), by decide +kernel⟩
theorem kw_374 : (Cond.instanceMethod yX6_stop) ∈ G := List.mem_filter.mpr ⟨List.mem_of_getElem? (i := 374) (by decide +kernel), by decide +kernel⟩
theorem kw_375 : (Cond.selects RX6 yX6_stop yX6_stop) ∈ G := List.mem_filter.mpr ⟨List.mem_of_getElem? (i := 375) (by decide +kernel), by decide +kernel⟩
theorem kw_376 : (Cond.code yX6_stop cX6_stop 1 none) ∈ G := List.mem_filter.mpr ⟨List.mem_of_getElem? (i := 376) (by decide +kernel), by decide +kernel⟩
theorem kw_377 : (Cond.methodLink RL 23 yX8_trace) ∈ G := List.mem_filter.mpr ⟨List.mem_of_getElem? (i := 377) (by decide +kernel), by decide +kernel⟩
theorem kw_378 : (Cond.instanceMethod yX8_trace) ∈ G := List.mem_filter.mpr ⟨List.mem_of_getElem? (i := 378) (by decide +kernel), by decide +kernel⟩
theorem kw_379 : (Cond.selects RX8 yX8_trace yX8_trace) ∈ G := List.mem_filter.mpr ⟨List.mem_of_getElem? (i := 379) (by decide +kernel), by decide +kernel⟩
theorem kw_380 : (Cond.code yX8_trace cX8_trace 2 (some .int)) ∈ G := List.mem_filter.mpr ⟨List.mem_of_getElem? (i := 380) (by decide +kernel), by decide +kernel⟩
theorem kw_381 : (Cond.methodLink RX8 79 yX6_at) ∈ G := List.mem_filter.mpr ⟨List.mem_of_getElem? (i := 381) (by decide +kernel), by decide +kernel⟩
theorem kw_382 : (Cond.instanceMethod yX6_at) ∈ G := List.mem_filter.mpr ⟨List.mem_of_getElem? (i := 382) (by decide +kernel), by decide +kernel⟩
theorem kw_383 : (Cond.selects RX6 yX6_at yX6_at) ∈ G := List.mem_filter.mpr ⟨List.mem_of_getElem? (i := 383) (by decide +kernel), by decide +kernel⟩
theorem kw_384 : (Cond.code yX6_at cX6_at 2 (some .int)) ∈ G := List.mem_filter.mpr ⟨List.mem_of_getElem? (i := 384) (by decide +kernel), by decide +kernel⟩
theorem kw_385 : (Cond.methodLink RL 28 yX8_room) ∈ G := List.mem_filter.mpr ⟨List.mem_of_getElem? (i := 385) (by decide +kernel), by decide +kernel⟩
theorem kw_386 : (Cond.instanceMethod yX8_room) ∈ G := List.mem_filter.mpr ⟨List.mem_of_getElem? (i := 386) (by decide +kernel), by decide +kernel⟩
theorem kw_387 : (Cond.selects RX8 yX8_room yX8_room) ∈ G := List.mem_filter.mpr ⟨List.mem_of_getElem? (i := 387) (by decide +kernel), by decide +kernel⟩
theorem kw_388 : (Cond.code yX8_room cX8_room 3 (some .int)) ∈ G := List.mem_filter.mpr ⟨List.mem_of_getElem? (i := 388) (by decide +kernel), by decide +kernel⟩
theorem kw_389 : (Cond.methodLink RL 32 yX8_heat) ∈ G := List.mem_filter.mpr ⟨List.mem_of_getElem? (i := 389) (by decide +kernel), by decide +kernel⟩
theorem kw_390 : (Cond.instanceMethod yX8_heat) ∈ G := List.mem_filter.mpr ⟨List.mem_of_getElem? (i := 390) (by decide +kernel), by decide +kernel⟩
theorem kw_391 : (Cond.selects RX8 yX8_heat yX8_heat) ∈ G := List.mem_filter.mpr ⟨List.mem_of_getElem? (i := 391) (by decide +kernel), by decide +kernel⟩
theorem kw_392 : (Cond.code yX8_heat cX8_heat 4 (some .int)) ∈ G := List.mem_filter.mpr ⟨List.mem_of_getElem? (i := 392) (by decide +kernel), by decide +kernel⟩
theorem kw_393 : (Cond.methodLink RX8 82 yX8_isOven) ∈ G := List.mem_filter.mpr ⟨List.mem_of_getElem? (i := 393) (by decide +kernel), by decide +kernel⟩
theorem kw_395 : (Cond.instanceMethod yX8_isOven) ∈ G := List.mem_filter.mpr ⟨List.mem_of_getElem? (i := 395) (by decide +kernel), by decide +kernel⟩
theorem kw_396 : (Cond.code yX8_isOven cX8_isOven 2 (some .boolean)) ∈ G := List.mem_filter.mpr ⟨List.mem_of_getElem? (i := 396) (by decide +kernel), by decide +kernel⟩
theorem kw_397 : (Cond.methodLink RL 36 yX8_minutes) ∈ G := List.mem_filter.mpr ⟨List.mem_of_getElem? (i := 397) (by decide +kernel), by decide +kernel⟩
theorem kw_398 : (Cond.instanceMethod yX8_minutes) ∈ G := List.mem_filter.mpr ⟨List.mem_of_getElem? (i := 398) (by decide +kernel), by decide +kernel⟩
theorem kw_399 : (Cond.selects RX8 yX8_minutes yX8_minutes) ∈ G := List.mem_filter.mpr ⟨List.mem_of_getElem? (i := 399) (by decide +kernel), by decide +kernel⟩
theorem kw_400 : (Cond.code yX8_minutes cX8_minutes 7 (some .int)) ∈ G := List.mem_filter.mpr ⟨List.mem_of_getElem? (i := 400) (by decide +kernel), by decide +kernel⟩
theorem kw_401 : (Cond.methodLink RX8 86 yX8_howMany) ∈ G := List.mem_filter.mpr ⟨List.mem_of_getElem? (i := 401) (by decide +kernel), by decide +kernel⟩
theorem kw_403 : (Cond.instanceMethod yX8_howMany) ∈ G := List.mem_filter.mpr ⟨List.mem_of_getElem? (i := 403) (by decide +kernel), by decide +kernel⟩
theorem kw_404 : (Cond.code yX8_howMany cX8_howMany 7 (some .int)) ∈ G := List.mem_filter.mpr ⟨List.mem_of_getElem? (i := 404) (by decide +kernel), by decide +kernel⟩
theorem kw_405 : (Cond.methodLink RX8 92 yX2_riseFor) ∈ G := List.mem_filter.mpr ⟨List.mem_of_getElem? (i := 405) (by decide +kernel), by decide +kernel⟩
theorem kw_406 : (Cond.instanceMethod yX2_riseFor) ∈ G := List.mem_filter.mpr ⟨List.mem_of_getElem? (i := 406) (by decide +kernel), by decide +kernel⟩
theorem kw_407 : (Cond.selects RX2 yX2_riseFor yX2_riseFor) ∈ G := List.mem_filter.mpr ⟨List.mem_of_getElem? (i := 407) (by decide +kernel), by decide +kernel⟩
theorem kw_408 : (Cond.sameMethod "DoughRoom$Dough" "DoughRoom$Dough" "riseFor" "(II)V") ∈ G := List.mem_filter.mpr ⟨List.mem_of_getElem? (i := 408) (by decide +kernel), by decide +kernel⟩
theorem kw_409 : (Cond.selects RX0 yX2_riseFor yX2_riseFor) ∈ G := List.mem_filter.mpr ⟨List.mem_of_getElem? (i := 409) (by decide +kernel), by decide +kernel⟩
theorem kw_410 : (Cond.selects RX1 yX2_riseFor yX2_riseFor) ∈ G := List.mem_filter.mpr ⟨List.mem_of_getElem? (i := 410) (by decide +kernel), by decide +kernel⟩
theorem kw_411 : (Cond.selects RX3 yX2_riseFor yX2_riseFor) ∈ G := List.mem_filter.mpr ⟨List.mem_of_getElem? (i := 411) (by decide +kernel), by decide +kernel⟩
theorem kw_412 : (Cond.selects RX4 yX2_riseFor yX2_riseFor) ∈ G := List.mem_filter.mpr ⟨List.mem_of_getElem? (i := 412) (by decide +kernel), by decide +kernel⟩
theorem kw_413 : (Cond.selects RX5 yX2_riseFor yX2_riseFor) ∈ G := List.mem_filter.mpr ⟨List.mem_of_getElem? (i := 413) (by decide +kernel), by decide +kernel⟩
theorem kw_414 : (Cond.selects RX7 yX2_riseFor yX2_riseFor) ∈ G := List.mem_filter.mpr ⟨List.mem_of_getElem? (i := 414) (by decide +kernel), by decide +kernel⟩
theorem kw_415 : (Cond.code yX2_riseFor cX2_riseFor 6 none) ∈ G := List.mem_filter.mpr ⟨List.mem_of_getElem? (i := 415) (by decide +kernel), by decide +kernel⟩
theorem kw_416 : (Cond.methodLink RX2 31 yX2_rise) ∈ G := List.mem_filter.mpr ⟨List.mem_of_getElem? (i := 416) (by decide +kernel), by decide +kernel⟩
theorem kw_417 : (Cond.methodLink RX2 35 yX2_need) ∈ G := List.mem_filter.mpr ⟨List.mem_of_getElem? (i := 417) (by decide +kernel), by decide +kernel⟩
theorem kw_418 : (Cond.methodLink RX8 99 yX8_heatOf) ∈ G := List.mem_filter.mpr ⟨List.mem_of_getElem? (i := 418) (by decide +kernel), by decide +kernel⟩
theorem kw_420 : (Cond.instanceMethod yX8_heatOf) ∈ G := List.mem_filter.mpr ⟨List.mem_of_getElem? (i := 420) (by decide +kernel), by decide +kernel⟩
theorem kw_421 : (Cond.code yX8_heatOf cX8_heatOf 2 (some .int)) ∈ G := List.mem_filter.mpr ⟨List.mem_of_getElem? (i := 421) (by decide +kernel), by decide +kernel⟩
theorem kw_422 : (Cond.methodLink RX8 102 yX2_brownFor) ∈ G := List.mem_filter.mpr ⟨List.mem_of_getElem? (i := 422) (by decide +kernel), by decide +kernel⟩
theorem kw_423 : (Cond.instanceMethod yX2_brownFor) ∈ G := List.mem_filter.mpr ⟨List.mem_of_getElem? (i := 423) (by decide +kernel), by decide +kernel⟩
theorem kw_424 : (Cond.selects RX2 yX2_brownFor yX2_brownFor) ∈ G := List.mem_filter.mpr ⟨List.mem_of_getElem? (i := 424) (by decide +kernel), by decide +kernel⟩
theorem kw_425 : (Cond.sameMethod "DoughRoom$Dough" "DoughRoom$Dough" "brownFor" "(II)V") ∈ G := List.mem_filter.mpr ⟨List.mem_of_getElem? (i := 425) (by decide +kernel), by decide +kernel⟩
theorem kw_426 : (Cond.selects RX0 yX2_brownFor yX2_brownFor) ∈ G := List.mem_filter.mpr ⟨List.mem_of_getElem? (i := 426) (by decide +kernel), by decide +kernel⟩
theorem kw_427 : (Cond.selects RX1 yX2_brownFor yX2_brownFor) ∈ G := List.mem_filter.mpr ⟨List.mem_of_getElem? (i := 427) (by decide +kernel), by decide +kernel⟩
theorem kw_428 : (Cond.selects RX3 yX2_brownFor yX2_brownFor) ∈ G := List.mem_filter.mpr ⟨List.mem_of_getElem? (i := 428) (by decide +kernel), by decide +kernel⟩
theorem kw_429 : (Cond.selects RX4 yX2_brownFor yX2_brownFor) ∈ G := List.mem_filter.mpr ⟨List.mem_of_getElem? (i := 429) (by decide +kernel), by decide +kernel⟩
theorem kw_430 : (Cond.selects RX5 yX2_brownFor yX2_brownFor) ∈ G := List.mem_filter.mpr ⟨List.mem_of_getElem? (i := 430) (by decide +kernel), by decide +kernel⟩
theorem kw_431 : (Cond.selects RX7 yX2_brownFor yX2_brownFor) ∈ G := List.mem_filter.mpr ⟨List.mem_of_getElem? (i := 431) (by decide +kernel), by decide +kernel⟩
theorem kw_432 : (Cond.code yX2_brownFor cX2_brownFor 5 none) ∈ G := List.mem_filter.mpr ⟨List.mem_of_getElem? (i := 432) (by decide +kernel), by decide +kernel⟩
theorem kw_433 : (Cond.methodLink RX2 42 yX2_brown) ∈ G := List.mem_filter.mpr ⟨List.mem_of_getElem? (i := 433) (by decide +kernel), by decide +kernel⟩
theorem kw_434 : (Cond.methodLink RL 40 yX8_bake) ∈ G := List.mem_filter.mpr ⟨List.mem_of_getElem? (i := 434) (by decide +kernel), by decide +kernel⟩
theorem kw_435 : (Cond.instanceMethod yX8_bake) ∈ G := List.mem_filter.mpr ⟨List.mem_of_getElem? (i := 435) (by decide +kernel), by decide +kernel⟩
theorem kw_436 : (Cond.selects RX8 yX8_bake yX8_bake) ∈ G := List.mem_filter.mpr ⟨List.mem_of_getElem? (i := 436) (by decide +kernel), by decide +kernel⟩
theorem kw_437 : (Cond.code yX8_bake cX8_bake 5 (some .int)) ∈ G := List.mem_filter.mpr ⟨List.mem_of_getElem? (i := 437) (by decide +kernel), by decide +kernel⟩
theorem kw_438 : (Cond.methodLink RX8 108 yX8_massIn) ∈ G := List.mem_filter.mpr ⟨List.mem_of_getElem? (i := 438) (by decide +kernel), by decide +kernel⟩
theorem kw_440 : (Cond.instanceMethod yX8_massIn) ∈ G := List.mem_filter.mpr ⟨List.mem_of_getElem? (i := 440) (by decide +kernel), by decide +kernel⟩
theorem kw_441 : (Cond.code yX8_massIn cX8_massIn 7 (some .int)) ∈ G := List.mem_filter.mpr ⟨List.mem_of_getElem? (i := 441) (by decide +kernel), by decide +kernel⟩
theorem kw_442 : (Cond.methodLink RL 44 yX8_out) ∈ G := List.mem_filter.mpr ⟨List.mem_of_getElem? (i := 442) (by decide +kernel), by decide +kernel⟩
theorem kw_443 : (Cond.instanceMethod yX8_out) ∈ G := List.mem_filter.mpr ⟨List.mem_of_getElem? (i := 443) (by decide +kernel), by decide +kernel⟩
theorem kw_444 : (Cond.selects RX8 yX8_out yX8_out) ∈ G := List.mem_filter.mpr ⟨List.mem_of_getElem? (i := 444) (by decide +kernel), by decide +kernel⟩
theorem kw_445 : (Cond.code yX8_out cX8_out 3 (some .int)) ∈ G := List.mem_filter.mpr ⟨List.mem_of_getElem? (i := 445) (by decide +kernel), by decide +kernel⟩
theorem kw_446 : (Cond.methodLink RL 48 yX8_sell) ∈ G := List.mem_filter.mpr ⟨List.mem_of_getElem? (i := 446) (by decide +kernel), by decide +kernel⟩
theorem kw_447 : (Cond.instanceMethod yX8_sell) ∈ G := List.mem_filter.mpr ⟨List.mem_of_getElem? (i := 447) (by decide +kernel), by decide +kernel⟩
theorem kw_448 : (Cond.selects RX8 yX8_sell yX8_sell) ∈ G := List.mem_filter.mpr ⟨List.mem_of_getElem? (i := 448) (by decide +kernel), by decide +kernel⟩
theorem kw_449 : (Cond.code yX8_sell cX8_sell 5 (some .int)) ∈ G := List.mem_filter.mpr ⟨List.mem_of_getElem? (i := 449) (by decide +kernel), by decide +kernel⟩
theorem kw_450 : (Cond.methodLink RX8 123 yJ9_max_7cf53) ∈ G := List.mem_filter.mpr ⟨List.mem_of_getElem? (i := 450) (by decide +kernel), by decide +kernel⟩
theorem kw_451 : (Cond.static yJ9_max_7cf53) ∈ G := List.mem_filter.mpr ⟨List.mem_of_getElem? (i := 451) (by decide +kernel), by decide +kernel⟩
theorem kw_452 : (Cond.code yJ9_max_7cf53 cJ9_max_7cf53 2 (some .int)) ∈ G := List.mem_filter.mpr ⟨List.mem_of_getElem? (i := 452) (by decide +kernel), by decide +kernel⟩
theorem kw_453 : (Cond.methodLink RL 52 yX8_day) ∈ G := List.mem_filter.mpr ⟨List.mem_of_getElem? (i := 453) (by decide +kernel), by decide +kernel⟩
theorem kw_454 : (Cond.instanceMethod yX8_day) ∈ G := List.mem_filter.mpr ⟨List.mem_of_getElem? (i := 454) (by decide +kernel), by decide +kernel⟩
theorem kw_455 : (Cond.selects RX8 yX8_day yX8_day) ∈ G := List.mem_filter.mpr ⟨List.mem_of_getElem? (i := 455) (by decide +kernel), by decide +kernel⟩
theorem kw_456 : (Cond.code yX8_day cX8_day 8 (some .int)) ∈ G := List.mem_filter.mpr ⟨List.mem_of_getElem? (i := 456) (by decide +kernel), by decide +kernel⟩
theorem kw_457 : (Cond.methodLink RL 57 yX8_told) ∈ G := List.mem_filter.mpr ⟨List.mem_of_getElem? (i := 457) (by decide +kernel), by decide +kernel⟩
theorem kw_458 : (Cond.instanceMethod yX8_told) ∈ G := List.mem_filter.mpr ⟨List.mem_of_getElem? (i := 458) (by decide +kernel), by decide +kernel⟩
theorem kw_459 : (Cond.selects RX8 yX8_told yX8_told) ∈ G := List.mem_filter.mpr ⟨List.mem_of_getElem? (i := 459) (by decide +kernel), by decide +kernel⟩
theorem kw_460 : (Cond.code yX8_told cX8_told 4 (some .int)) ∈ G := List.mem_filter.mpr ⟨List.mem_of_getElem? (i := 460) (by decide +kernel), by decide +kernel⟩
theorem kw_461 : (Cond.methodLink RL 61 yX8_count) ∈ G := List.mem_filter.mpr ⟨List.mem_of_getElem? (i := 461) (by decide +kernel), by decide +kernel⟩
theorem kw_462 : (Cond.instanceMethod yX8_count) ∈ G := List.mem_filter.mpr ⟨List.mem_of_getElem? (i := 462) (by decide +kernel), by decide +kernel⟩
theorem kw_463 : (Cond.selects RX8 yX8_count yX8_count) ∈ G := List.mem_filter.mpr ⟨List.mem_of_getElem? (i := 463) (by decide +kernel), by decide +kernel⟩
theorem kw_464 : (Cond.code yX8_count cX8_count 2 (some .int)) ∈ G := List.mem_filter.mpr ⟨List.mem_of_getElem? (i := 464) (by decide +kernel), by decide +kernel⟩
theorem kw_465 : (Cond.classLink RL 10 RX9) ∈ G := List.mem_filter.mpr ⟨List.mem_of_getElem? (i := 465) (by decide +kernel), by decide +kernel⟩
theorem kw_466 : (Cond.instantiable RX9 15) ∈ G := List.mem_filter.mpr ⟨List.mem_of_getElem? (i := 466) (by decide +kernel), by decide +kernel⟩
theorem kw_467 : (Cond.methodLink RL 12 yX9_init) ∈ G := List.mem_filter.mpr ⟨List.mem_of_getElem? (i := 467) (by decide +kernel), by decide +kernel⟩
theorem kw_468 : (Cond.instanceMethod yX9_init) ∈ G := List.mem_filter.mpr ⟨List.mem_of_getElem? (i := 468) (by decide +kernel), by decide +kernel⟩
theorem kw_469 : (Cond.code yX9_init cX9_init 1 none) ∈ G := List.mem_filter.mpr ⟨List.mem_of_getElem? (i := 469) (by decide +kernel), by decide +kernel⟩
theorem kw_470 : (Cond.methodLink RX9 1 objectInit) ∈ G := List.mem_filter.mpr ⟨List.mem_of_getElem? (i := 470) (by decide +kernel), by decide +kernel⟩
theorem kw_471 : (Cond.fieldLink RX9 41 "DoughRoomModel" "batches" "I") ∈ G := List.mem_filter.mpr ⟨List.mem_of_getElem? (i := 471) (by decide +kernel), by decide +kernel⟩
theorem kw_472 : (Cond.fieldLink RX9 7 "DoughRoomModel" "kind" "[I") ∈ G := List.mem_filter.mpr ⟨List.mem_of_getElem? (i := 472) (by decide +kernel), by decide +kernel⟩
theorem kw_473 : (Cond.fieldLink RX9 13 "DoughRoomModel" "mass" "[I") ∈ G := List.mem_filter.mpr ⟨List.mem_of_getElem? (i := 473) (by decide +kernel), by decide +kernel⟩
theorem kw_474 : (Cond.fieldLink RX9 16 "DoughRoomModel" "state" "[I") ∈ G := List.mem_filter.mpr ⟨List.mem_of_getElem? (i := 474) (by decide +kernel), by decide +kernel⟩
theorem kw_475 : (Cond.fieldLink RX9 19 "DoughRoomModel" "risen" "[I") ∈ G := List.mem_filter.mpr ⟨List.mem_of_getElem? (i := 475) (by decide +kernel), by decide +kernel⟩
theorem kw_476 : (Cond.fieldLink RX9 22 "DoughRoomModel" "browned" "[I") ∈ G := List.mem_filter.mpr ⟨List.mem_of_getElem? (i := 476) (by decide +kernel), by decide +kernel⟩
theorem kw_477 : (Cond.fieldLink RX9 25 "DoughRoomModel" "oven" "[I") ∈ G := List.mem_filter.mpr ⟨List.mem_of_getElem? (i := 477) (by decide +kernel), by decide +kernel⟩
theorem kw_478 : (Cond.fieldLink RX9 28 "DoughRoomModel" "since" "[I") ∈ G := List.mem_filter.mpr ⟨List.mem_of_getElem? (i := 478) (by decide +kernel), by decide +kernel⟩
theorem kw_479 : (Cond.fieldLink RX9 31 "DoughRoomModel" "warmth" "I") ∈ G := List.mem_filter.mpr ⟨List.mem_of_getElem? (i := 479) (by decide +kernel), by decide +kernel⟩
theorem kw_480 : (Cond.fieldLink RX9 35 "DoughRoomModel" "heats" "[I") ∈ G := List.mem_filter.mpr ⟨List.mem_of_getElem? (i := 480) (by decide +kernel), by decide +kernel⟩
theorem kw_481 : (Cond.fieldLink RX9 100 "DoughRoomModel" "days" "I") ∈ G := List.mem_filter.mpr ⟨List.mem_of_getElem? (i := 481) (by decide +kernel), by decide +kernel⟩
theorem kw_482 : (Cond.fieldLink RX9 103 "DoughRoomModel" "till" "I") ∈ G := List.mem_filter.mpr ⟨List.mem_of_getElem? (i := 482) (by decide +kernel), by decide +kernel⟩
theorem kw_483 : (Cond.fieldLink RX9 38 "DoughRoomModel" "trace" "[I") ∈ G := List.mem_filter.mpr ⟨List.mem_of_getElem? (i := 483) (by decide +kernel), by decide +kernel⟩
theorem kw_484 : (Cond.fieldLink RX9 52 "DoughRoomModel" "traced" "I") ∈ G := List.mem_filter.mpr ⟨List.mem_of_getElem? (i := 484) (by decide +kernel), by decide +kernel⟩
theorem kw_485 : (Cond.fieldLink RX9 48 "DoughRoomModel" "isTold" "Z") ∈ G := List.mem_filter.mpr ⟨List.mem_of_getElem? (i := 485) (by decide +kernel), by decide +kernel⟩
theorem kw_486 : (Cond.lays RX9 "DoughRoomModel" "batches" "I") ∈ G := List.mem_filter.mpr ⟨List.mem_of_getElem? (i := 486) (by decide +kernel), by decide +kernel⟩
theorem kw_488 : (Cond.laysFinal RX9 "DoughRoomModel" "kind" "[I") ∈ G := List.mem_filter.mpr ⟨List.mem_of_getElem? (i := 488) (by decide +kernel), by decide +kernel⟩
theorem kw_490 : (Cond.laysFinal RX9 "DoughRoomModel" "mass" "[I") ∈ G := List.mem_filter.mpr ⟨List.mem_of_getElem? (i := 490) (by decide +kernel), by decide +kernel⟩
theorem kw_492 : (Cond.laysFinal RX9 "DoughRoomModel" "state" "[I") ∈ G := List.mem_filter.mpr ⟨List.mem_of_getElem? (i := 492) (by decide +kernel), by decide +kernel⟩
theorem kw_494 : (Cond.laysFinal RX9 "DoughRoomModel" "risen" "[I") ∈ G := List.mem_filter.mpr ⟨List.mem_of_getElem? (i := 494) (by decide +kernel), by decide +kernel⟩
theorem kw_496 : (Cond.laysFinal RX9 "DoughRoomModel" "browned" "[I") ∈ G := List.mem_filter.mpr ⟨List.mem_of_getElem? (i := 496) (by decide +kernel), by decide +kernel⟩
theorem kw_498 : (Cond.laysFinal RX9 "DoughRoomModel" "oven" "[I") ∈ G := List.mem_filter.mpr ⟨List.mem_of_getElem? (i := 498) (by decide +kernel), by decide +kernel⟩
theorem kw_500 : (Cond.laysFinal RX9 "DoughRoomModel" "since" "[I") ∈ G := List.mem_filter.mpr ⟨List.mem_of_getElem? (i := 500) (by decide +kernel), by decide +kernel⟩
theorem kw_502 : (Cond.lays RX9 "DoughRoomModel" "warmth" "I") ∈ G := List.mem_filter.mpr ⟨List.mem_of_getElem? (i := 502) (by decide +kernel), by decide +kernel⟩
theorem kw_504 : (Cond.laysFinal RX9 "DoughRoomModel" "heats" "[I") ∈ G := List.mem_filter.mpr ⟨List.mem_of_getElem? (i := 504) (by decide +kernel), by decide +kernel⟩
theorem kw_506 : (Cond.lays RX9 "DoughRoomModel" "days" "I") ∈ G := List.mem_filter.mpr ⟨List.mem_of_getElem? (i := 506) (by decide +kernel), by decide +kernel⟩
theorem kw_508 : (Cond.lays RX9 "DoughRoomModel" "till" "I") ∈ G := List.mem_filter.mpr ⟨List.mem_of_getElem? (i := 508) (by decide +kernel), by decide +kernel⟩
theorem kw_510 : (Cond.laysFinal RX9 "DoughRoomModel" "trace" "[I") ∈ G := List.mem_filter.mpr ⟨List.mem_of_getElem? (i := 510) (by decide +kernel), by decide +kernel⟩
theorem kw_512 : (Cond.lays RX9 "DoughRoomModel" "traced" "I") ∈ G := List.mem_filter.mpr ⟨List.mem_of_getElem? (i := 512) (by decide +kernel), by decide +kernel⟩
theorem kw_514 : (Cond.lays RX9 "DoughRoomModel" "isTold" "Z") ∈ G := List.mem_filter.mpr ⟨List.mem_of_getElem? (i := 514) (by decide +kernel), by decide +kernel⟩
theorem kw_516 : (Cond.superclass RX9 "java/lang/Object") ∈ G := List.mem_filter.mpr ⟨List.mem_of_getElem? (i := 516) (by decide +kernel), by decide +kernel⟩
theorem kw_517 : (Cond.methodLink RL 17 yX9_batch) ∈ G := List.mem_filter.mpr ⟨List.mem_of_getElem? (i := 517) (by decide +kernel), by decide +kernel⟩
theorem kw_518 : (Cond.instanceMethod yX9_batch) ∈ G := List.mem_filter.mpr ⟨List.mem_of_getElem? (i := 518) (by decide +kernel), by decide +kernel⟩
theorem kw_519 : (Cond.selects RX9 yX9_batch yX9_batch) ∈ G := List.mem_filter.mpr ⟨List.mem_of_getElem? (i := 519) (by decide +kernel), by decide +kernel⟩
theorem kw_520 : (Cond.code yX9_batch cX9_batch 3 (some .int)) ∈ G := List.mem_filter.mpr ⟨List.mem_of_getElem? (i := 520) (by decide +kernel), by decide +kernel⟩
theorem kw_521 : (Cond.methodLink RX9 44 yX9_in) ∈ G := List.mem_filter.mpr ⟨List.mem_of_getElem? (i := 521) (by decide +kernel), by decide +kernel⟩
theorem kw_522 : (Cond.static yX9_in) ∈ G := List.mem_filter.mpr ⟨List.mem_of_getElem? (i := 522) (by decide +kernel), by decide +kernel⟩
theorem kw_523 : (Cond.code yX9_in cX9_in 3 (some .boolean)) ∈ G := List.mem_filter.mpr ⟨List.mem_of_getElem? (i := 523) (by decide +kernel), by decide +kernel⟩
theorem kw_524 : (Cond.methodLink RL 22 yX9_ask) ∈ G := List.mem_filter.mpr ⟨List.mem_of_getElem? (i := 524) (by decide +kernel), by decide +kernel⟩
theorem kw_525 : (Cond.instanceMethod yX9_ask) ∈ G := List.mem_filter.mpr ⟨List.mem_of_getElem? (i := 525) (by decide +kernel), by decide +kernel⟩
theorem kw_526 : (Cond.selects RX9 yX9_ask yX9_ask) ∈ G := List.mem_filter.mpr ⟨List.mem_of_getElem? (i := 526) (by decide +kernel), by decide +kernel⟩
theorem kw_527 : (Cond.code yX9_ask cX9_ask 5 (some .int)) ∈ G := List.mem_filter.mpr ⟨List.mem_of_getElem? (i := 527) (by decide +kernel), by decide +kernel⟩
theorem kw_528 : (Cond.methodLink RX9 86 yX9_isBatch) ∈ G := List.mem_filter.mpr ⟨List.mem_of_getElem? (i := 528) (by decide +kernel), by decide +kernel⟩
theorem kw_530 : (Cond.instanceMethod yX9_isBatch) ∈ G := List.mem_filter.mpr ⟨List.mem_of_getElem? (i := 530) (by decide +kernel), by decide +kernel⟩
theorem kw_531 : (Cond.code yX9_isBatch cX9_isBatch 2 (some .boolean)) ∈ G := List.mem_filter.mpr ⟨List.mem_of_getElem? (i := 531) (by decide +kernel), by decide +kernel⟩
theorem kw_532 : (Cond.methodLink RX9 89 yX9_answer) ∈ G := List.mem_filter.mpr ⟨List.mem_of_getElem? (i := 532) (by decide +kernel), by decide +kernel⟩
theorem kw_534 : (Cond.instanceMethod yX9_answer) ∈ G := List.mem_filter.mpr ⟨List.mem_of_getElem? (i := 534) (by decide +kernel), by decide +kernel⟩
theorem kw_535 : (Cond.code yX9_answer cX9_answer 4 (some .int)) ∈ G := List.mem_filter.mpr ⟨List.mem_of_getElem? (i := 535) (by decide +kernel), by decide +kernel⟩
theorem kw_536 : (Cond.methodLink RX9 59 yX9_rise) ∈ G := List.mem_filter.mpr ⟨List.mem_of_getElem? (i := 536) (by decide +kernel), by decide +kernel⟩
theorem kw_538 : (Cond.instanceMethod yX9_rise) ∈ G := List.mem_filter.mpr ⟨List.mem_of_getElem? (i := 538) (by decide +kernel), by decide +kernel⟩
theorem kw_539 : (Cond.code yX9_rise cX9_rise 5 (some .int)) ∈ G := List.mem_filter.mpr ⟨List.mem_of_getElem? (i := 539) (by decide +kernel), by decide +kernel⟩
theorem kw_540 : (Cond.methodLink RX9 55 yX9_began) ∈ G := List.mem_filter.mpr ⟨List.mem_of_getElem? (i := 540) (by decide +kernel), by decide +kernel⟩
theorem kw_542 : (Cond.instanceMethod yX9_began) ∈ G := List.mem_filter.mpr ⟨List.mem_of_getElem? (i := 542) (by decide +kernel), by decide +kernel⟩
theorem kw_543 : (Cond.code yX9_began cX9_began 2 none) ∈ G := List.mem_filter.mpr ⟨List.mem_of_getElem? (i := 543) (by decide +kernel), by decide +kernel⟩
theorem kw_544 : (Cond.methodLink RX9 63 yX9_need) ∈ G := List.mem_filter.mpr ⟨List.mem_of_getElem? (i := 544) (by decide +kernel), by decide +kernel⟩
theorem kw_546 : (Cond.instanceMethod yX9_need) ∈ G := List.mem_filter.mpr ⟨List.mem_of_getElem? (i := 546) (by decide +kernel), by decide +kernel⟩
theorem kw_547 : (Cond.code yX9_need cX9_need 4 (some .int)) ∈ G := List.mem_filter.mpr ⟨List.mem_of_getElem? (i := 547) (by decide +kernel), by decide +kernel⟩
theorem kw_548 : (Cond.methodLink RX9 70 yX9_brown) ∈ G := List.mem_filter.mpr ⟨List.mem_of_getElem? (i := 548) (by decide +kernel), by decide +kernel⟩
theorem kw_550 : (Cond.instanceMethod yX9_brown) ∈ G := List.mem_filter.mpr ⟨List.mem_of_getElem? (i := 550) (by decide +kernel), by decide +kernel⟩
theorem kw_551 : (Cond.code yX9_brown cX9_brown 5 (some .int)) ∈ G := List.mem_filter.mpr ⟨List.mem_of_getElem? (i := 551) (by decide +kernel), by decide +kernel⟩
theorem kw_552 : (Cond.methodLink RX9 67 yX9_price) ∈ G := List.mem_filter.mpr ⟨List.mem_of_getElem? (i := 552) (by decide +kernel), by decide +kernel⟩
theorem kw_554 : (Cond.instanceMethod yX9_price) ∈ G := List.mem_filter.mpr ⟨List.mem_of_getElem? (i := 554) (by decide +kernel), by decide +kernel⟩
theorem kw_555 : (Cond.code yX9_price cX9_price 4 (some .int)) ∈ G := List.mem_filter.mpr ⟨List.mem_of_getElem? (i := 555) (by decide +kernel), by decide +kernel⟩
theorem kw_556 : (Cond.methodLink RX9 73 yX9_isKeeping) ∈ G := List.mem_filter.mpr ⟨List.mem_of_getElem? (i := 556) (by decide +kernel), by decide +kernel⟩
theorem kw_557 : (Cond.static yX9_isKeeping) ∈ G := List.mem_filter.mpr ⟨List.mem_of_getElem? (i := 557) (by decide +kernel), by decide +kernel⟩
theorem kw_558 : (Cond.code yX9_isKeeping cX9_isKeeping 1 (some .boolean)) ∈ G := List.mem_filter.mpr ⟨List.mem_of_getElem? (i := 558) (by decide +kernel), by decide +kernel⟩
theorem kw_559 : (Cond.methodLink RX9 77 yX9_keeps) ∈ G := List.mem_filter.mpr ⟨List.mem_of_getElem? (i := 559) (by decide +kernel), by decide +kernel⟩
theorem kw_561 : (Cond.instanceMethod yX9_keeps) ∈ G := List.mem_filter.mpr ⟨List.mem_of_getElem? (i := 561) (by decide +kernel), by decide +kernel⟩
theorem kw_562 : (Cond.code yX9_keeps cX9_keeps 2 (some .int)) ∈ G := List.mem_filter.mpr ⟨List.mem_of_getElem? (i := 562) (by decide +kernel), by decide +kernel⟩
theorem kw_563 : (Cond.methodLink RX9 80 yX9_isGlazed) ∈ G := List.mem_filter.mpr ⟨List.mem_of_getElem? (i := 563) (by decide +kernel), by decide +kernel⟩
theorem kw_564 : (Cond.static yX9_isGlazed) ∈ G := List.mem_filter.mpr ⟨List.mem_of_getElem? (i := 564) (by decide +kernel), by decide +kernel⟩
theorem kw_565 : (Cond.code yX9_isGlazed cX9_isGlazed 1 (some .boolean)) ∈ G := List.mem_filter.mpr ⟨List.mem_of_getElem? (i := 565) (by decide +kernel), by decide +kernel⟩
theorem kw_566 : (Cond.methodLink RX9 83 yX9_glaze) ∈ G := List.mem_filter.mpr ⟨List.mem_of_getElem? (i := 566) (by decide +kernel), by decide +kernel⟩
theorem kw_568 : (Cond.instanceMethod yX9_glaze) ∈ G := List.mem_filter.mpr ⟨List.mem_of_getElem? (i := 568) (by decide +kernel), by decide +kernel⟩
theorem kw_569 : (Cond.code yX9_glaze cX9_glaze 2 (some .int)) ∈ G := List.mem_filter.mpr ⟨List.mem_of_getElem? (i := 569) (by decide +kernel), by decide +kernel⟩
theorem kw_570 : (Cond.methodLink RL 27 yX9_trace) ∈ G := List.mem_filter.mpr ⟨List.mem_of_getElem? (i := 570) (by decide +kernel), by decide +kernel⟩
theorem kw_571 : (Cond.instanceMethod yX9_trace) ∈ G := List.mem_filter.mpr ⟨List.mem_of_getElem? (i := 571) (by decide +kernel), by decide +kernel⟩
theorem kw_572 : (Cond.selects RX9 yX9_trace yX9_trace) ∈ G := List.mem_filter.mpr ⟨List.mem_of_getElem? (i := 572) (by decide +kernel), by decide +kernel⟩
theorem kw_573 : (Cond.code yX9_trace cX9_trace 2 (some .int)) ∈ G := List.mem_filter.mpr ⟨List.mem_of_getElem? (i := 573) (by decide +kernel), by decide +kernel⟩
theorem kw_574 : (Cond.methodLink RL 31 yX9_room) ∈ G := List.mem_filter.mpr ⟨List.mem_of_getElem? (i := 574) (by decide +kernel), by decide +kernel⟩
theorem kw_575 : (Cond.instanceMethod yX9_room) ∈ G := List.mem_filter.mpr ⟨List.mem_of_getElem? (i := 575) (by decide +kernel), by decide +kernel⟩
theorem kw_576 : (Cond.selects RX9 yX9_room yX9_room) ∈ G := List.mem_filter.mpr ⟨List.mem_of_getElem? (i := 576) (by decide +kernel), by decide +kernel⟩
theorem kw_577 : (Cond.code yX9_room cX9_room 3 (some .int)) ∈ G := List.mem_filter.mpr ⟨List.mem_of_getElem? (i := 577) (by decide +kernel), by decide +kernel⟩
theorem kw_578 : (Cond.methodLink RL 35 yX9_heat) ∈ G := List.mem_filter.mpr ⟨List.mem_of_getElem? (i := 578) (by decide +kernel), by decide +kernel⟩
theorem kw_579 : (Cond.instanceMethod yX9_heat) ∈ G := List.mem_filter.mpr ⟨List.mem_of_getElem? (i := 579) (by decide +kernel), by decide +kernel⟩
theorem kw_580 : (Cond.selects RX9 yX9_heat yX9_heat) ∈ G := List.mem_filter.mpr ⟨List.mem_of_getElem? (i := 580) (by decide +kernel), by decide +kernel⟩
theorem kw_581 : (Cond.code yX9_heat cX9_heat 4 (some .int)) ∈ G := List.mem_filter.mpr ⟨List.mem_of_getElem? (i := 581) (by decide +kernel), by decide +kernel⟩
theorem kw_582 : (Cond.methodLink RL 39 yX9_minutes) ∈ G := List.mem_filter.mpr ⟨List.mem_of_getElem? (i := 582) (by decide +kernel), by decide +kernel⟩
theorem kw_583 : (Cond.instanceMethod yX9_minutes) ∈ G := List.mem_filter.mpr ⟨List.mem_of_getElem? (i := 583) (by decide +kernel), by decide +kernel⟩
theorem kw_584 : (Cond.selects RX9 yX9_minutes yX9_minutes) ∈ G := List.mem_filter.mpr ⟨List.mem_of_getElem? (i := 584) (by decide +kernel), by decide +kernel⟩
theorem kw_585 : (Cond.code yX9_minutes cX9_minutes 4 (some .int)) ∈ G := List.mem_filter.mpr ⟨List.mem_of_getElem? (i := 585) (by decide +kernel), by decide +kernel⟩
theorem kw_586 : (Cond.methodLink RX9 93 yX9_minute) ∈ G := List.mem_filter.mpr ⟨List.mem_of_getElem? (i := 586) (by decide +kernel), by decide +kernel⟩
theorem kw_588 : (Cond.instanceMethod yX9_minute) ∈ G := List.mem_filter.mpr ⟨List.mem_of_getElem? (i := 588) (by decide +kernel), by decide +kernel⟩
theorem kw_589 : (Cond.code yX9_minute cX9_minute 3 (some .int)) ∈ G := List.mem_filter.mpr ⟨List.mem_of_getElem? (i := 589) (by decide +kernel), by decide +kernel⟩
theorem kw_590 : (Cond.methodLink RL 43 yX9_bake) ∈ G := List.mem_filter.mpr ⟨List.mem_of_getElem? (i := 590) (by decide +kernel), by decide +kernel⟩
theorem kw_591 : (Cond.instanceMethod yX9_bake) ∈ G := List.mem_filter.mpr ⟨List.mem_of_getElem? (i := 591) (by decide +kernel), by decide +kernel⟩
theorem kw_592 : (Cond.selects RX9 yX9_bake yX9_bake) ∈ G := List.mem_filter.mpr ⟨List.mem_of_getElem? (i := 592) (by decide +kernel), by decide +kernel⟩
theorem kw_593 : (Cond.code yX9_bake cX9_bake 3 (some .int)) ∈ G := List.mem_filter.mpr ⟨List.mem_of_getElem? (i := 593) (by decide +kernel), by decide +kernel⟩
theorem kw_594 : (Cond.methodLink RX9 97 yX9_massIn) ∈ G := List.mem_filter.mpr ⟨List.mem_of_getElem? (i := 594) (by decide +kernel), by decide +kernel⟩
theorem kw_596 : (Cond.instanceMethod yX9_massIn) ∈ G := List.mem_filter.mpr ⟨List.mem_of_getElem? (i := 596) (by decide +kernel), by decide +kernel⟩
theorem kw_597 : (Cond.code yX9_massIn cX9_massIn 4 (some .int)) ∈ G := List.mem_filter.mpr ⟨List.mem_of_getElem? (i := 597) (by decide +kernel), by decide +kernel⟩
theorem kw_598 : (Cond.methodLink RL 47 yX9_out) ∈ G := List.mem_filter.mpr ⟨List.mem_of_getElem? (i := 598) (by decide +kernel), by decide +kernel⟩
theorem kw_599 : (Cond.instanceMethod yX9_out) ∈ G := List.mem_filter.mpr ⟨List.mem_of_getElem? (i := 599) (by decide +kernel), by decide +kernel⟩
theorem kw_600 : (Cond.selects RX9 yX9_out yX9_out) ∈ G := List.mem_filter.mpr ⟨List.mem_of_getElem? (i := 600) (by decide +kernel), by decide +kernel⟩
theorem kw_601 : (Cond.code yX9_out cX9_out 2 (some .int)) ∈ G := List.mem_filter.mpr ⟨List.mem_of_getElem? (i := 601) (by decide +kernel), by decide +kernel⟩
theorem kw_602 : (Cond.methodLink RL 51 yX9_sell) ∈ G := List.mem_filter.mpr ⟨List.mem_of_getElem? (i := 602) (by decide +kernel), by decide +kernel⟩
theorem kw_603 : (Cond.instanceMethod yX9_sell) ∈ G := List.mem_filter.mpr ⟨List.mem_of_getElem? (i := 603) (by decide +kernel), by decide +kernel⟩
theorem kw_604 : (Cond.selects RX9 yX9_sell yX9_sell) ∈ G := List.mem_filter.mpr ⟨List.mem_of_getElem? (i := 604) (by decide +kernel), by decide +kernel⟩
theorem kw_605 : (Cond.code yX9_sell cX9_sell 3 (some .int)) ∈ G := List.mem_filter.mpr ⟨List.mem_of_getElem? (i := 605) (by decide +kernel), by decide +kernel⟩
theorem kw_606 : (Cond.methodLink RL 56 yX9_day) ∈ G := List.mem_filter.mpr ⟨List.mem_of_getElem? (i := 606) (by decide +kernel), by decide +kernel⟩
theorem kw_607 : (Cond.instanceMethod yX9_day) ∈ G := List.mem_filter.mpr ⟨List.mem_of_getElem? (i := 607) (by decide +kernel), by decide +kernel⟩
theorem kw_608 : (Cond.selects RX9 yX9_day yX9_day) ∈ G := List.mem_filter.mpr ⟨List.mem_of_getElem? (i := 608) (by decide +kernel), by decide +kernel⟩
theorem kw_609 : (Cond.code yX9_day cX9_day 4 (some .int)) ∈ G := List.mem_filter.mpr ⟨List.mem_of_getElem? (i := 609) (by decide +kernel), by decide +kernel⟩
theorem kw_610 : (Cond.methodLink RL 60 yX9_told) ∈ G := List.mem_filter.mpr ⟨List.mem_of_getElem? (i := 610) (by decide +kernel), by decide +kernel⟩
theorem kw_611 : (Cond.instanceMethod yX9_told) ∈ G := List.mem_filter.mpr ⟨List.mem_of_getElem? (i := 611) (by decide +kernel), by decide +kernel⟩
theorem kw_612 : (Cond.selects RX9 yX9_told yX9_told) ∈ G := List.mem_filter.mpr ⟨List.mem_of_getElem? (i := 612) (by decide +kernel), by decide +kernel⟩
theorem kw_613 : (Cond.code yX9_told cX9_told 3 (some .int)) ∈ G := List.mem_filter.mpr ⟨List.mem_of_getElem? (i := 613) (by decide +kernel), by decide +kernel⟩
theorem kw_614 : (Cond.methodLink RL 64 yX9_count) ∈ G := List.mem_filter.mpr ⟨List.mem_of_getElem? (i := 614) (by decide +kernel), by decide +kernel⟩
theorem kw_615 : (Cond.instanceMethod yX9_count) ∈ G := List.mem_filter.mpr ⟨List.mem_of_getElem? (i := 615) (by decide +kernel), by decide +kernel⟩
theorem kw_616 : (Cond.selects RX9 yX9_count yX9_count) ∈ G := List.mem_filter.mpr ⟨List.mem_of_getElem? (i := 616) (by decide +kernel), by decide +kernel⟩
theorem kw_617 : (Cond.code yX9_count cX9_count 4 (some .int)) ∈ G := List.mem_filter.mpr ⟨List.mem_of_getElem? (i := 617) (by decide +kernel), by decide +kernel⟩
theorem kw_618 : (Cond.sameMethod "DoughRoom$Rye" "DoughRoom$Rye" "price" "()I") ∈ G := List.mem_filter.mpr ⟨List.mem_of_getElem? (i := 618) (by decide +kernel), by decide +kernel⟩
theorem kw_619 : (Cond.selects RX0 yX0_price yX0_price) ∈ G := List.mem_filter.mpr ⟨List.mem_of_getElem? (i := 619) (by decide +kernel), by decide +kernel⟩
abbrev TD : u_T := TX2
abbrev tyD : Nat → FieldType := tyX2
def RD : Nat → String := fun k => match k with
  | 0 => RX2
  | 1 => RX7
  | 2 => RX4
  | 3 => RX3
  | 4 => RX0
  | 5 => RX5
  | _ => RX1
/-- the classes whose objects the worlds hold: the seven kinds by their numbers, 7 the trace, 8 the room, 9 the reference -/
abbrev classes : List vw_C := [(RX2, TD, 8), (RX7, TD, 8), (RX4, TD, 8), (RX3, TD, 8), (RX0, TD, 8), (RX5, TD, 8), (RX1, TD, 8), (RX6, TX6, 3), (RX8, TX8, 7), (RX9, TX9, 15)]
theorem iG_0 : ∀ w ∈ u_ws RX2 TD 8, w ∈ G := by decide +kernel
theorem iG_1 : ∀ w ∈ u_ws RX7 TD 8, w ∈ G := by decide +kernel
theorem iG_2 : ∀ w ∈ u_ws RX4 TD 8, w ∈ G := by decide +kernel
theorem iG_3 : ∀ w ∈ u_ws RX3 TD 8, w ∈ G := by decide +kernel
theorem iG_4 : ∀ w ∈ u_ws RX0 TD 8, w ∈ G := by decide +kernel
theorem iG_5 : ∀ w ∈ u_ws RX5 TD 8, w ∈ G := by decide +kernel
theorem iG_6 : ∀ w ∈ u_ws RX1 TD 8, w ∈ G := by decide +kernel
theorem iG_7 : ∀ w ∈ u_ws RX6 TX6 3, w ∈ G := by decide +kernel
theorem iG_8 : ∀ w ∈ u_ws RX8 TX8 7, w ∈ G := by decide +kernel
theorem iG_9 : ∀ w ∈ u_ws RX9 TX9 15, w ∈ G := by decide +kernel
end
section
/-! the frame of all contracts: one world of cells, at places; all that is known lies from X.2.2.2 on -/
abbrev Cx : Type := va_G × ClassId × ClassId × Nat
def xA (X : Cx) : Nat → Prop := fun q => X.2.2.2 ≤ q
abbrev xT (X : Cx) : List (ClassId × FieldType) := [(X.2.1, .int), (X.2.2.1, .object RX2)]
theorem Nw_moved {C T : String} {u U : State} (h : u.vm.Alike U.vm) (hZ : va_Nw (.castable C T) u) : va_Nw (.castable C T) U := va_tabs rfl (rfl : (u.setVm U.vm).vm = U.vm) (by rw [Cond.castable_setVm h]; exact hZ)
/-- which kinds can be cast to which class, as the start's tables have it -/
def mKc (U : State) : Prop :=
  (∀ k, k < 7 → 0 < k → va_Nw (.castable (RD k) RX2) U) ∧ (∀ k, 2 ≤ k → k < 5 → va_Nw (.castable (RD k) RX4) U) ∧ (∀ k, 5 ≤ k → k < 7 → va_Nw (.castable (RD k) RX5) U) ∧ (∀ k, k < 2 → va_Nc (RD k) RX4 U) ∧ (∀ k, 5 ≤ k → k < 7 → va_Nc (RD k) RX4 U) ∧ (∀ k, k < 5 → va_Nc (RD k) RX5 U)
theorem mKc.moved {u U : State} (h : u.vm.Alike U.vm) (q : mKc u) : mKc U :=
  ⟨fun k a b => Nw_moved h (q.1 k a b), fun k a b => Nw_moved h (q.2.1 k a b), fun k a b => Nw_moved h (q.2.2.1 k a b), fun k a => (q.2.2.2.1 k a).moved h, fun k a b => (q.2.2.2.2.1 k a b).moved h, fun k a => (q.2.2.2.2.2 k a).moved h⟩
def mF (X : Cx) (U : State) : Prop := va_K X.1 classes (xT X) U ∧ va_AO RX2 U ∧ mKc U
theorem mF.moved {X : Cx} {u U : State} (h : u.vm.Alike U.vm) (q : mF X u) : mF X U := ⟨va_K.moved h q.1, q.2.1.moved h, q.2.2.moved h⟩
def mH (X : Cx) (ws : va_W) (H : Heap) : Prop := va_P X.1 classes ws H ∧ va_D (xA X) ws
def mIn (X : Cx) (ws : va_W) (U : State) : Prop := X.2.2.2 ≤ U.heap.size ∧ mH X ws U.heap ∧ mF X U
def mS (X : Cx) (s : State) (ws : va_W) (H : Heap) (locs : List Loc) : Prop := mH X ws H ∧ va_S (xA X) s.heap H locs
theorem mIn_blind {X : Cx} {ws : va_W} {av : List Value} : FrameBlind (va_Pc av (mIn X ws)) := fun a U g mk q => by
  obtain ⟨q0, q1, q2, q3⟩ := q
  exact ⟨q0, q1, q2, mF.moved (u := U) (U := U.calling g mk a) (Vm.Alike.refl U.vm) q3⟩
/-- contracts: an int (or a boolean), nothing, a reference or null; P: the answer and the world behind it -/
def cI (l : Launch) (y : MethodName) (b : ByteArray) (mL : Nat) (ret : Option FieldType) (rm : Room) (X : Cx) (av : List Value) (ws : va_W) (P : Int32 → va_W → Prop) : Prop :=
  Met l y (Cond.code y b mL ret :: G) rm (va_Pc av (mIn X ws)) (va_Qi P (fun w t => mH X w t.heap) (xA X)) rm.cells rm.slots (xA X)
def cV (l : Launch) (y : MethodName) (b : ByteArray) (mL : Nat) (rm : Room) (X : Cx) (av : List Value) (ws : va_W) (P : va_W → Prop) : Prop :=
  Met l y (Cond.code y b mL none :: G) rm (va_Pc av (mIn X ws)) (va_Qv P (fun w t => mH X w t.heap) (xA X)) rm.cells rm.slots (xA X)
def cQ (l : Launch) (y : MethodName) (b : ByteArray) (mL : Nat) (ret : Option FieldType) (rm : Room) (X : Cx) (av : List Value) (ws : va_W) (P : Option Nat → va_W → Prop) : Prop :=
  Met l y (Cond.code y b mL ret :: G) rm (va_Pc av (mIn X ws)) (va_Qq P (fun w t => mH X w t.heap) (xA X)) rm.cells rm.slots (xA X)
def Fx (p : Program) (s : State) (m : MethodId) (meth : Method) (c : Code) (y : MethodName) (b : ByteArray) (mL : Nat) (ret : Option FieldType) (av : List Value) (X : Cx) : Prop :=
  p.tables.exec = Jvm.exec ∧ c.code = b ∧ meth.sig.returnType = ret ∧ c.maxLocals = mL ∧ s.vm.findClass y.cls = some m.cls ∧ (∀ w ∈ G, w.before av.toArray s = true) ∧ meth.locks = false ∧ mF X s ∧ X.2.2.2 ≤ s.heap.size ∧ meth.name = y.name
theorem met_start {l : Launch} {y : MethodName} {b : ByteArray} {mL : Nat} {ret : Option FieldType} {rm : Room} {X : Cx} {av : List Value} {ws : va_W} {Qc : Array Value → State → Outcome → State → Prop} (hy : plainName y.cls = true) (hlen : (lg_sl av).length ≤ mL)
    (body : ∀ (p : Program) (e : Env) (s : State) (m : MethodId) (below : List Frame) (meth : Method) (c : Code) (ls : Array Slot), Fx p s m meth c y b mL ret av X → mS X s ws s.heap [] → lv_has ls mL (lv_args 0 av) →
      W p l e rm s m av.toArray below meth c s.heap [] 0 0 (MQ below Qc av.toArray s rm.cells rm.slots (xA X)) (F0 m 0 ls [])) :
    Met l y (Cond.code y b mL ret :: G) rm (va_Pc av (mIn X ws)) Qc rm.cells rm.slots (xA X) := by
  refine Met.ofW (cc := b) (maxL := mL) (ret := ret) hy rfl ?_
  intro p e s m args below meth c s₁ B hml hv
  obtain ⟨rfl, hz, hH, hF⟩ := hv
  have hts := atoms_spec (ws := Cond.code y b mL ret :: G) B.pre
  have hl := lv_entry av (n := mL) hlen
  rw [lg_entry_eq]
  exact body p e s m below meth c _ ⟨B.exec, B.bytes, B.returns, hml, findClass_of_methodNamed B.named, fun w h => hts w (List.mem_cons_of_mem _ h), B.notSynchronized, hF, hz, (name_of_methodNamed B.named B.method).1⟩ ⟨hH, va_S.rf⟩ hl
theorem G_pay {args : Array Value} {s : State} {y : MethodName} {b : ByteArray} {mL : Nat} {ret : Option FieldType} (hG : ∀ w ∈ G, w.before args s = true) (hc : Cond.code y b mL ret ∈ G) : ∀ w ∈ Cond.code y b mL ret :: G, ∀ (a' : Array Value) (U : State), s.WarmedH U.vm → w.before a' U = true :=
  pay_in hG (fun w h => by
    rcases List.mem_cons.mp h with e | e
    · rw [e]; exact ⟨hc, G_ok _ hc⟩
    · exact ⟨e, G_ok _ e⟩)
section MR
variable {p : Program} {l : Launch} {e : Env} {R : Room} {s : State} {m : MethodId} {args : Array Value} {below : List Frame} {meth : Method} {c : Code} {H : Heap} {locs : List Loc} {cells slots : Nat} {Q : State → Prop}
variable {cc bytes : ByteArray} {pc nL mL n index : Nat} {ls : Array Slot} {rest st As : List Value} {X : Cx} {a ci q0 : Nat} {fs : List Value} {ws : va_W} {y x : MethodName} {ret : Option FieldType} {rm : Room} {own C owner : String} {T : u_T} {N : Nat} {Qc : Array Value → State → Outcome → State → Prop}
theorem nof {d : String} {n : Nat} (h : (parseMethodDescriptor d).map (fun d => d.parameters.length) = some n) : ∀ sig, parseMethodDescriptor d = some sig → n = sig.parameters.length := fun sig q => by
  rw [q] at h; exact (Option.some.inj h).symm
theorem m_pre {av : List Value} (hF : mF X s) (hz : X.2.2.2 ≤ s.heap.size) (hS : mS X s ws H locs) : ∀ U : State, U.heap = H → s.WarmedH U.vm → va_Pc av (mIn X ws) av.toArray U := fun U hU hW => ⟨rfl, by rw [hU]; exact Nat.le_trans hz hS.2.1, by rw [hU]; exact hS.1, hF.moved hW.alike⟩
theorem m_runV (S : CallFix p m c cc nL s args G own) (hM : Met l y (Cond.code y bytes mL ret :: G) rm (va_Pc (.ref a :: As) (mIn X ws)) Qc rm.cells rm.slots (xA X))
    (kl : Cond.methodLink own index y ∈ G) (ki : Cond.instanceMethod y ∈ G) (ks : Cond.selects C y y ∈ G) (kn : Cond.initialized y.cls ∈ G) (kc : Cond.code y bytes mL ret ∈ G)
    (hd : y.cls ≠ "java/lang/invoke/MethodHandle" ∧ y.cls ≠ "java/lang/invoke/VarHandle" ∧ (parseMethodDescriptor y.desc).map (fun d => d.parameters.length) = some n) (hR : rm.frames + 1 ≤ R.frames ∧ 8 + (mL + 11) + rm.locals ≤ R.locals)
    (hF : mF X s) (hz : X.2.2.2 ≤ s.heap.size) (hS : mS X s ws H locs) (he : ws[q0]? = some (a, .inr (ci, fs))) (hc : classes[ci]? = some (C, T, N))
    (hn : As.length = n) (hsize : ls.size = nL) (hst : st = As.reverse ++ .ref a :: rest) (hW : (rest.map fun v => v.category).sum ≤ 8) (hdg : decode cc pc = .ok (.invokevirtual index, 3)) (hf : cells + rm.cells ≤ R.cells ∧ slots + rm.slots ≤ R.slots) :
    va_Run p l e R s m args below meth c H locs cells slots rm.cells rm.slots (F0 m pc ls st) rest (Qc (Value.ref a :: As).toArray) (xA X) := by
  have hG := S.2.2.2.2
  exact va_runV S hM ⟨⟨rfl, rfl, hR.1, hR.2, G_pay hG kc, List.mem_cons_self, hG _ kc, hG _ kn, ⟨hd.1, hd.2.1⟩, nof hd.2.2, hG _ kl⟩, hG _ ki, hG _ ks⟩ ⟨mIn_blind, va_recv hF.1 hS.1.1 hc he, m_pre hF hz hS⟩ rfl hn hsize hst (lv_room hW) hdg hf
theorem m_runU (S : CallFix p m c cc nL s args G own) (hM : Met l y (Cond.code y bytes mL ret :: G) rm (va_Pc (.ref a :: As) (mIn X ws)) Qc rm.cells rm.slots (xA X))
    (kl : Cond.methodLink own index x ∈ G) (ke : Cond.sameMethod x.cls owner x.name x.desc ∈ G) (k0 : Cond.instanceMethod ⟨owner, x.name, x.desc⟩ ∈ G) {b0 : ByteArray} {m0 : Nat} {r0 : Option FieldType} (k1 : Cond.code ⟨owner, x.name, x.desc⟩ b0 m0 r0 ∈ G) (ki : Cond.instanceMethod y ∈ G) (ks : Cond.selects C x y ∈ G) (kn : Cond.initialized y.cls ∈ G) (kc : Cond.code y bytes mL ret ∈ G)
    (hd : owner ≠ "java/lang/invoke/MethodHandle" ∧ owner ≠ "java/lang/invoke/VarHandle" ∧ (parseMethodDescriptor x.desc).map (fun d => d.parameters.length) = some n) (hR : rm.frames + 1 ≤ R.frames ∧ 8 + (mL + 11) + rm.locals ≤ R.locals)
    (hF : mF X s) (hz : X.2.2.2 ≤ s.heap.size) (hS : mS X s ws H locs) (he : ws[q0]? = some (a, .inr (ci, fs))) (hc : classes[ci]? = some (C, T, N))
    (hn : As.length = n) (hsize : ls.size = nL) (hst : st = As.reverse ++ .ref a :: rest) (hW : (rest.map fun v => v.category).sum ≤ 8) (hdg : decode cc pc = .ok (.invokevirtual index, 3)) (hf : cells + rm.cells ≤ R.cells ∧ slots + rm.slots ≤ R.slots) :
    va_Run p l e R s m args below meth c H locs cells slots rm.cells rm.slots (F0 m pc ls st) rest (Qc (Value.ref a :: As).toArray) (xA X) := by
  have hG := S.2.2.2.2
  exact va_runU (owner := owner) (x := x) S hM ⟨⟨rfl, rfl, hR.1, hR.2, G_pay hG kc, List.mem_cons_self⟩, hG _ kc, hG _ kn, ⟨hd.1, hd.2.1⟩, nof hd.2.2, hG _ kl, hG _ ke, va_Decl.of (hG _ k0) (hG _ k1), hG _ ks, hG _ ki⟩ ⟨mIn_blind, va_recv hF.1 hS.1.1 hc he, m_pre hF hz hS⟩ rfl hn hsize hst (lv_room hW) hdg hf
theorem m_runS (S : CallFix p m c cc nL s args G own) (hM : Met l y (Cond.code y bytes mL ret :: G) rm (va_Pc As (mIn X ws)) Qc rm.cells rm.slots (xA X))
    (kl : Cond.methodLink own index y ∈ G) (ks : Cond.static y ∈ G) (kn : Cond.initialized y.cls ∈ G) (kc : Cond.code y bytes mL ret ∈ G)
    (hd : y.cls ≠ "java/lang/invoke/MethodHandle" ∧ y.cls ≠ "java/lang/invoke/VarHandle" ∧ (parseMethodDescriptor y.desc).map (fun d => d.parameters.length) = some n) (hR : rm.frames + 1 ≤ R.frames ∧ 8 + (mL + 11) + rm.locals ≤ R.locals)
    (hF : mF X s) (hz : X.2.2.2 ≤ s.heap.size) (hS : mS X s ws H locs)
    (hn : As.length = n) (hsize : ls.size = nL) (hst : st = As.reverse ++ rest) (hW : (rest.map fun v => v.category).sum ≤ 8) (hdg : decode cc pc = .ok (.invokestatic index, 3)) (hf : cells + rm.cells ≤ R.cells ∧ slots + rm.slots ≤ R.slots) :
    va_Run p l e R s m args below meth c H locs cells slots rm.cells rm.slots (F0 m pc ls st) rest (Qc As.toArray) (xA X) := by
  have hG := S.2.2.2.2
  exact va_runS S hM ⟨⟨rfl, rfl, hR.1, hR.2, G_pay hG kc, List.mem_cons_self, hG _ kc, hG _ kn, ⟨hd.1, hd.2.1⟩, nof hd.2.2, hG _ kl⟩, hG _ ks⟩ ⟨mIn_blind, m_pre hF hz hS⟩ rfl hn hsize hst (lv_room hW) hdg hf
theorem m_runI (S : CallFix p m c cc nL s args G own) (hM : Met l y (Cond.code y bytes mL none :: G) rm (va_Pc (.ref a :: As) (mIn X ws)) Qc rm.cells rm.slots (xA X))
    (kl : Cond.methodLink own index y ∈ G) (ki : Cond.instanceMethod y ∈ G) (kn : Cond.initialized y.cls ∈ G) (kc : Cond.code y bytes mL none ∈ G) (hy1 : y.name = "<init>")
    (hd : y.cls ≠ "java/lang/invoke/MethodHandle" ∧ y.cls ≠ "java/lang/invoke/VarHandle" ∧ (parseMethodDescriptor y.desc).map (fun d => d.parameters.length) = some n) (hR : rm.frames + 1 ≤ R.frames ∧ 8 + (mL + 11) + rm.locals ≤ R.locals)
    (hF : mF X s) (hz : X.2.2.2 ≤ s.heap.size) (hS : mS X s ws H locs)
    (hn : As.length = n) (hsize : ls.size = nL) (hst : st = As.reverse ++ .ref a :: rest) (hW : (rest.map fun v => v.category).sum ≤ 8) (hdg : decode cc pc = .ok (.invokespecial index, 3)) (hf : cells + rm.cells ≤ R.cells ∧ slots + rm.slots ≤ R.slots) :
    va_Run p l e R s m args below meth c H locs cells slots rm.cells rm.slots (F0 m pc ls st) rest (Qc (Value.ref a :: As).toArray) (xA X) := by
  have hG := S.2.2.2.2
  exact va_runI S hM ⟨⟨rfl, rfl, hR.1, hR.2, G_pay hG kc, List.mem_cons_self, hG _ kc, hG _ kn, ⟨hd.1, hd.2.1⟩, nof hd.2.2, hG _ kl⟩, hy1, hG _ ki⟩ ⟨mIn_blind, m_pre hF hz hS⟩ rfl hn hsize hst (lv_room hW) hdg hf
/-- super.m(..) where the class right above has the method from further up: x names it there, y is its own -/
theorem m_runSU (S : CallFix p m c cc nL s args G own) (hM : Met l y (Cond.code y bytes mL ret :: G) rm (va_Pc (.ref a :: As) (mIn X ws)) Qc rm.cells rm.slots (xA X))
    (kl : Cond.methodLink own index x ∈ G) (ke : Cond.sameMethod x.cls y.cls x.name x.desc ∈ G) (kp : Cond.superclass own x.cls ∈ G) (ki : Cond.instanceMethod y ∈ G) (kn : Cond.initialized y.cls ∈ G) (kc : Cond.code y bytes mL ret ∈ G)
    (hsub : ∀ ps pd : ClassId, s.vm.findClass x.cls = some ps → s.vm.findClass y.cls = some pd → s.vm.isSubclass ps pd = true)
    (hxy : y.name = x.name ∧ y.desc = x.desc) (hd : x.name ≠ "<init>" ∧ (parseMethodDescriptor x.desc).map (fun d => d.parameters.length) = some n) (hR : rm.frames + 1 ≤ R.frames ∧ 8 + (mL + 11) + rm.locals ≤ R.locals)
    (hF : mF X s) (hz : X.2.2.2 ≤ s.heap.size) (hS : mS X s ws H locs) (he : ws[q0]? = some (a, .inr (ci, fs))) (hc : classes[ci]? = some (C, T, N))
    (hn : As.length = n) (hsize : ls.size = nL) (hst : st = As.reverse ++ .ref a :: rest) (hW : (rest.map fun v => v.category).sum ≤ 8) (hdg : decode cc pc = .ok (.invokespecial index, 3)) (hf : cells + rm.cells ≤ R.cells ∧ slots + rm.slots ≤ R.slots) :
    va_Run p l e R s m args below meth c H locs cells slots rm.cells rm.slots (F0 m pc ls st) rest (Qc (Value.ref a :: As).toArray) (xA X) := by
  have hG := S.2.2.2.2
  obtain ⟨hx, hb, hml, hown, -⟩ := S
  have hK : Back l R p e below s args y 3 8 (PreOf R rm.cells rm.slots (va_Pc (.ref a :: As) (mIn X ws))) (PostOf Qc rm.cells rm.slots (xA X)) := back_of (bytes := bytes) (maxL := mL) (ret := ret) hM mIn_blind rfl rfl hR.1 hR.2 (G_pay hG kc) List.mem_cons_self (fun a' U hW => word_at hW (Or.inl (by first | rfl | simp [Cond.onTables, Cond.keeps, Cond.steady])) (hG _ kn))
  obtain ⟨cellB, hcB, hoB, hclB⟩ := va_recv hF.1 hS.1.1 hc he
  obtain ⟨kB, hkB, -⟩ := Vm.findClass_spec hclB
  obtain ⟨mk, methM, hnamed, hmethM, hstM, habM⟩ := Cond.instanceMethod_spec (hG _ ki)
  obtain ⟨methM', cM, hmethM', -, -, -, -, -, -, hsigM⟩ := Cond.code_spec hnamed (hG _ kc)
  cases hmethM.symm.trans hmethM'
  obtain ⟨ps, dk, kp', hps, hdk, hkp, hsuper, -, -, hnid⟩ := Cond.superclass_spec hown (hG _ kp)
  have hn' : s.methodNamed? ⟨y.cls, x.name, x.desc⟩ = some mk := by rw [← hxy.1, ← hxy.2]; exact hnamed
  have hsb : s.vm.isSubclass ps mk.cls = true := hsub _ _ hps (findClass_of_methodNamed hnamed)
  have hlen : As.length = methM.sig.parameters.length := hn.trans (nof hd.2 _ (by rw [← hxy.2]; exact hsigM))
  intro U hU XX
  obtain ⟨vm₁, X₁, hstep₁⟩ := XX.invokespecialUp hx hown (hG _ kl) (hG _ ke) hn' hmethM hstM habM hd.1 hdk hnid hps hsuper hsb (a := a) (cell := cellB) (by rw [hU]; exact hcB)
    (fun z h => by rw [h] at hoB; cases hoB) hkB (g := F0 m pc ls st) rfl (argsL := As) (rest := rest) hlen hst (by rw [hb]; exact hdg)
  obtain ⟨v, B, X', hpost, hsteps⟩ := hK m meth c ⟨U.setVm vm₁, locs, cells, slots⟩ { F0 m pc ls st with stack := rest } (.invokespecial index) mk (Value.ref a :: As).toArray X₁ rfl (hsize.trans hml.symm) (by rw [hb]; exact hdg) (lv_room hW) (X₁.named hnamed) ⟨hf.1, hf.2, m_pre hF hz hS (U.setVm vm₁) hU X₁.warmed⟩
  obtain ⟨U', l2, c2, s2⟩ := B
  obtain ⟨g', mk', t, L, e1, e2, hq, h1, hL, h2, h3⟩ := hpost
  dsimp only [Pt.U, Pt.locs, Pt.cells, Pt.slots] at X' e1 e2 h1 h2 h3 hsteps
  subst h1; subst h2; subst h3
  exact ⟨v, (U.setVm vm₁).calling g' mk' (Value.ref a :: As).toArray, t, U', L, hU, X', hL, e1, e2, hq, fun target h => hstep₁ _ (by rw [doInvoke_state]; exact hsteps.trans h)⟩
variable {av : Array Value} {st0 : List Value} {mc ms : Nat}
theorem m_ci {P : Int32 → va_W → Prop} (hr : va_Run p l e R s m args below meth c H locs cells slots mc ms (F0 m pc ls st0) rest (va_Qi P (fun w t => mH X w t.heap) (xA X) av) (xA X)) (hS : mS X s ws H locs)
    (kk : ∀ (r : Int32) (w : va_W) (H1 : Heap) (locs1 : List Loc), P r w → mS X s w H1 locs1 → W p l e R s m args below meth c H1 locs1 (cells + mc) (slots + ms) Q (F0 m (pc + 3) ls (.int r :: rest))) : W p l e R s m args below meth c H locs cells slots Q (F0 m pc ls st0) :=
  va_calli hr hS.2 (fun _ _ h => h) (fun _ h => h) (fun r u t H1 locs1 ht _ hp hB _ _ hS1 => kk r u H1 locs1 hp ⟨by rw [← ht]; exact hB, hS1⟩)
theorem m_cv {P : va_W → Prop} (hr : va_Run p l e R s m args below meth c H locs cells slots mc ms (F0 m pc ls st0) rest (va_Qv P (fun w t => mH X w t.heap) (xA X) av) (xA X)) (hS : mS X s ws H locs)
    (kk : ∀ (w : va_W) (H1 : Heap) (locs1 : List Loc), P w → mS X s w H1 locs1 → W p l e R s m args below meth c H1 locs1 (cells + mc) (slots + ms) Q (F0 m (pc + 3) ls rest)) : W p l e R s m args below meth c H locs cells slots Q (F0 m pc ls st0) :=
  va_callv hr hS.2 (fun _ _ h => h) (fun _ h => h) (fun u t H1 locs1 ht _ hp hB _ _ hS1 => kk u H1 locs1 hp ⟨by rw [← ht]; exact hB, hS1⟩)
theorem m_cq {P : Option Nat → va_W → Prop} (hr : va_Run p l e R s m args below meth c H locs cells slots mc ms (F0 m pc ls st0) rest (va_Qq P (fun w t => mH X w t.heap) (xA X) av) (xA X)) (hS : mS X s ws H locs)
    (kk : ∀ (r : Option Nat) (w : va_W) (H1 : Heap) (locs1 : List Loc), P r w → mS X s w H1 locs1 → W p l e R s m args below meth c H1 locs1 (cells + mc) (slots + ms) Q (F0 m (pc + 3) ls (va_rf r :: rest))) : W p l e R s m args below meth c H locs cells slots Q (F0 m pc ls st0) :=
  va_callq hr hS.2 (fun _ _ h => h) (fun _ h => h) (fun r u t H1 locs1 ht _ hp hB _ _ hS1 => kk r u H1 locs1 hp ⟨by rw [← ht]; exact hB, hS1⟩)
/-- heap rows -/
theorem m_get (hx : p.tables.exec = Jvm.exec) (hb : c.code = cc) (hG : ∀ w ∈ G, w.before args s = true) (hown : s.vm.findClass own = some m.cls) (hF : mF X s) (hS : mS X s ws H locs) (q0 : Nat) {ref : String} {T : u_T} {N : Nat} {fs : List Value} (he : ws[q0]? = some (a, .inr (ci, fs))) (hc : classes[ci]? = some (C, T, N)) (hin : ∀ w ∈ u_ws C T N, w ∈ G) (k : Nat) (hk : k < N) (hl : Cond.fieldLink own index ref (T k).2.1 (T k).2.2.1 ∈ G) (hsame : ∀ x, s.fieldFound? (T k).1 (T k).2.1 (T k).2.2.1 = some x → s.fieldFound? ref (T k).2.1 (T k).2.2.1 = some x) {v : Value} (hv : fs[k]? = some v) (hdg : decode cc pc = .ok (.getfield index, 3))
    (kk : W p l e R s m args below meth c H locs cells slots Q (F0 m (pc + 3) ls (v :: rest))) : W p l e R s m args below meth c H locs cells slots Q (F0 m pc ls (.ref a :: rest)) :=
  va_get hx hb hG hin hown hF.1 hS.1.1 q0 he hc k hk (hG _ hl) hsame hv hdg kk
theorem m_put (hx : p.tables.exec = Jvm.exec) (hb : c.code = cc) (hG : ∀ w ∈ G, w.before args s = true) (hown : s.vm.findClass own = some m.cls) (hF : mF X s) (hS : mS X s ws H locs) (q0 : Nat) {ref : String} {T : u_T} {N : Nat} {fs : List Value} (he : ws[q0]? = some (a, .inr (ci, fs))) (hc : classes[ci]? = some (C, T, N)) (hin : ∀ w ∈ u_ws C T N, w ∈ G) {ty0 : Nat → FieldType} (hty : ∀ k, k < N → parseFieldDescriptor (T k).2.2.1 = some (ty0 k)) (hnm : ∀ a, a < N → ∀ b, b < N → a ≠ b → (T a).2.1 ≠ (T b).2.1) (k : Nat) (hk : k < N) (hl : Cond.fieldLink own index ref (T k).2.1 (T k).2.2.1 ∈ G) (hsame : ∀ x, s.fieldFound? (T k).1 (T k).2.1 (T k).2.2.1 = some x → s.fieldFound? ref (T k).2.1 (T k).2.2.1 = some x) (hfin : (T k).2.2.2 = false) {v : Value} (hn : narrow (ty0 k) v = v) (hfit : fits (ty0 k) v = true) (hlf : k < fs.length) (ws' : va_W) (hw : ws.set q0 (a, .inr (ci, fs.set k v)) = ws')
    (hdg : decode cc pc = .ok (.putfield index, 3)) (kk : ∀ (H1 : Heap) (locs1 : List Loc), mS X s ws' H1 locs1 → W p l e R s m args below meth c H1 locs1 cells slots Q (F0 m (pc + 3) ls rest)) : W p l e R s m args below meth c H locs cells slots Q (F0 m pc ls (v :: .ref a :: rest)) :=
  va_put hx hb hG hin ty0 hty hnm hown hF.1 hS.1.1 hS.1.2 hS.2 q0 he hc k hk (hG _ hl) hsame hfin (hty k hk) hn hfit hlf hdg (fun H1 locs1 h1 h2 h3 => kk H1 locs1 ⟨⟨by rw [← hw]; exact h1, by rw [← hw]; exact h2⟩, h3⟩)
theorem m_putF (hx : p.tables.exec = Jvm.exec) (hb : c.code = cc) (hG : ∀ w ∈ G, w.before args s = true) (hown : s.vm.findClass own = some m.cls) (hF : mF X s) (hS : mS X s ws H locs) (q0 : Nat) {ref : String} {T : u_T} {N : Nat} {fs : List Value} (he : ws[q0]? = some (a, .inr (ci, fs))) (hc : classes[ci]? = some (C, T, N)) (hin : ∀ w ∈ u_ws C T N, w ∈ G) {ty0 : Nat → FieldType} (hty : ∀ k, k < N → parseFieldDescriptor (T k).2.2.1 = some (ty0 k)) (hnm : ∀ a, a < N → ∀ b, b < N → a ≠ b → (T a).2.1 ≠ (T b).2.1) (k : Nat) (hk : k < N) (hl : Cond.fieldLink own index ref (T k).2.1 (T k).2.2.1 ∈ G) (hsame : ∀ x, s.fieldFound? (T k).1 (T k).2.1 (T k).2.2.1 = some x → s.fieldFound? ref (T k).2.1 (T k).2.2.1 = some x) (hfin : (T k).2.2.2 = true) (hin2 : meth.name = "<init>") (hdecl : (T k).1 = own) {v : Value} (hn : narrow (ty0 k) v = v) (hfit : fits (ty0 k) v = true) (hlf : k < fs.length) (ws' : va_W) (hw : ws.set q0 (a, .inr (ci, fs.set k v)) = ws')
    (hdg : decode cc pc = .ok (.putfield index, 3)) (kk : ∀ (H1 : Heap) (locs1 : List Loc), mS X s ws' H1 locs1 → W p l e R s m args below meth c H1 locs1 cells slots Q (F0 m (pc + 3) ls rest)) : W p l e R s m args below meth c H locs cells slots Q (F0 m pc ls (v :: .ref a :: rest)) :=
  va_putF hx hb hG hin ty0 hty hnm hown hF.1 hS.1.1 hS.1.2 hS.2 q0 he hc k hk (hG _ hl) hsame hfin hin2 hdecl (hty k hk) hn hfit hlf hdg (fun H1 locs1 h1 h2 h3 => kk H1 locs1 ⟨⟨by rw [← hw]; exact h1, by rw [← hw]; exact h2⟩, h3⟩)
theorem m_iald (hx : p.tables.exec = Jvm.exec) (hb : c.code = cc) (hF : mF X s) (hS : mS X s ws H locs) (q0 : Nat) {n : Nat} {f : Nat → Int32} (he : ws[q0]? = some (a, .inl (X.2.1, n, .inl f))) {i : Int32} (j : Nat) (hi : i = nI j) (hj : j < n) (hn : n < 2 ^ 31) (hdg : decode cc pc = .ok (.iaload, 1))
    (kk : W p l e R s m args below meth c H locs cells slots Q (F0 m (pc + 1) ls (.int (f j) :: rest))) : W p l e R s m args below meth c H locs cells slots Q (F0 m pc ls (.int i :: .ref a :: rest)) := by
  subst hi
  have h2 := va_iald (l := l) (e := e) (below := below) (meth := meth) (locs := locs) (cells := cells) (slots := slots) (Q := Q) (R := R) (ls := ls) (rest := rest) (m := m) (args := args) hx hb hF.1 hS.1.1 q0 0 he rfl (vp_in_nI hj hn) hdg
  rw [nI_clamp (Nat.lt_trans hj hn)] at h2
  exact h2 kk
theorem m_iast (hx : p.tables.exec = Jvm.exec) (hb : c.code = cc) (hF : mF X s) (hS : mS X s ws H locs) (q0 : Nat) {n : Nat} {f : Nat → Int32} (he : ws[q0]? = some (a, .inl (X.2.1, n, .inl f))) {i v : Int32} (j : Nat) (hi : i = nI j) (hj : j < n) (hn : n < 2 ^ 31) (ws' : va_W) (hw : ws.set q0 (a, .inl (X.2.1, n, .inl (upd f j v))) = ws') (hdg : decode cc pc = .ok (.iastore, 1))
    (kk : ∀ (H1 : Heap) (locs1 : List Loc), mS X s ws' H1 locs1 → W p l e R s m args below meth c H1 locs1 cells slots Q (F0 m (pc + 1) ls rest)) : W p l e R s m args below meth c H locs cells slots Q (F0 m pc ls (.int v :: .int i :: .ref a :: rest)) := by
  subst hi
  refine va_iast hx hb hF.1 hS.1.1 hS.1.2 hS.2 q0 0 he rfl (vp_in_nI hj hn) hdg (fun H1 locs1 h1 h2 h3 => kk H1 locs1 ⟨⟨?_, ?_⟩, h3⟩)
  · rw [← hw]; rw [nI_clamp (Nat.lt_trans hj hn)] at h1; exact h1
  · rw [← hw]; rw [nI_clamp (Nat.lt_trans hj hn)] at h2; exact h2
theorem m_alenI (hx : p.tables.exec = Jvm.exec) (hb : c.code = cc) (hF : mF X s) (hS : mS X s ws H locs) (q0 : Nat) {n : Nat} {f : Nat → Int32} (he : ws[q0]? = some (a, .inl (X.2.1, n, .inl f))) (hdg : decode cc pc = .ok (.arraylength, 1))
    (kk : W p l e R s m args below meth c H locs cells slots Q (F0 m (pc + 1) ls (.int (nI n) :: rest))) : W p l e R s m args below meth c H locs cells slots Q (F0 m pc ls (.ref a :: rest)) :=
  va_alen hx hb hF.1 hS.1.1 q0 0 he rfl rfl hdg kk
theorem m_alenQ (hx : p.tables.exec = Jvm.exec) (hb : c.code = cc) (hF : mF X s) (hS : mS X s ws H locs) (q0 : Nat) {n : Nat} {f : Nat → Option Nat} (he : ws[q0]? = some (a, .inl (X.2.2.1, n, .inr (.inr (.inr (.inr f)))))) (hdg : decode cc pc = .ok (.arraylength, 1))
    (kk : W p l e R s m args below meth c H locs cells slots Q (F0 m (pc + 1) ls (.int (nI n) :: rest))) : W p l e R s m args below meth c H locs cells slots Q (F0 m pc ls (.ref a :: rest)) :=
  va_alen hx hb hF.1 hS.1.1 q0 1 he rfl rfl hdg kk
theorem m_aald (hx : p.tables.exec = Jvm.exec) (hb : c.code = cc) (hF : mF X s) (hS : mS X s ws H locs) (q0 : Nat) {n : Nat} {f : Nat → Option Nat} (he : ws[q0]? = some (a, .inl (X.2.2.1, n, .inr (.inr (.inr (.inr f)))))) {i : Int32} (j : Nat) (hi : i = nI j) (hj : j < n) (hn : n < 2 ^ 31) (hdg : decode cc pc = .ok (.aaload, 1))
    (kk : W p l e R s m args below meth c H locs cells slots Q (F0 m (pc + 1) ls (va_rf (f j) :: rest))) : W p l e R s m args below meth c H locs cells slots Q (F0 m pc ls (.int i :: .ref a :: rest)) := by
  subst hi
  have h2 := va_aldq (l := l) (e := e) (below := below) (meth := meth) (locs := locs) (cells := cells) (slots := slots) (Q := Q) (R := R) (ls := ls) (rest := rest) (m := m) (args := args) hx hb hF.1 hS.1.1 q0 1 he rfl (vp_in_nI hj hn) hdg
  rw [nI_clamp (Nat.lt_trans hj hn)] at h2
  exact h2 kk
/-- ends -/
theorem m_iret {P : Int32 → va_W → Prop} {v : Int32} {ws : va_W} (hx : p.tables.exec = Jvm.exec) (hb : c.code = cc) (hr : meth.sig.returnType = some .int) (hlk : meth.locks = false) (hS : mS X s ws H locs) (hP : P v ws) (h1 : cells ≤ mc) (h2 : slots ≤ ms) (hdg : decode cc pc = .ok (.ireturn, 1)) :
    W p l e R s m args below meth c H locs cells slots (MQ below (va_Qi P (fun w t => mH X w t.heap) (xA X)) args s mc ms (xA X)) (F0 m pc ls [.int v]) := by
  refine W.widen h1 h2 ?_
  exact W.iret hx hb hr (fun t ht hW => ⟨⟨v, ws, rfl, hP, by show mH X ws t.heap; rw [ht]; exact hS.1⟩, hS.2.F ht⟩) hS.2.2.2 hdg hlk
theorem m_zret {P : Int32 → va_W → Prop} {v : Int32} {ws : va_W} (hx : p.tables.exec = Jvm.exec) (hb : c.code = cc) (hr : meth.sig.returnType = some .boolean) (hn : narrow .boolean (.int v) = .int v) (hlk : meth.locks = false) (hS : mS X s ws H locs) (hP : P v ws) (h1 : cells ≤ mc) (h2 : slots ≤ ms) (hdg : decode cc pc = .ok (.ireturn, 1)) :
    W p l e R s m args below meth c H locs cells slots (MQ below (va_Qi P (fun w t => mH X w t.heap) (xA X)) args s mc ms (xA X)) (F0 m pc ls [.int v]) := by
  refine W.widen h1 h2 ?_
  exact W.zret hx hb hr hn (fun t ht hW => ⟨⟨v, ws, rfl, hP, by show mH X ws t.heap; rw [ht]; exact hS.1⟩, hS.2.F ht⟩) hS.2.2.2 hdg hlk
theorem m_vret {P : va_W → Prop} {ws : va_W} (hx : p.tables.exec = Jvm.exec) (hb : c.code = cc) (hr : meth.sig.returnType = none) (hlk : meth.locks = false) (hS : mS X s ws H locs) (hP : P ws) (h1 : cells ≤ mc) (h2 : slots ≤ ms) (hdg : decode cc pc = .ok (.return_, 1)) :
    W p l e R s m args below meth c H locs cells slots (MQ below (va_Qv P (fun w t => mH X w t.heap) (xA X)) args s mc ms (xA X)) (F0 m pc ls []) := by
  refine W.widen h1 h2 ?_
  exact W.vret hx hb hr (fun t ht hW => ⟨⟨ws, rfl, hP, by show mH X ws t.heap; rw [ht]; exact hS.1⟩, hS.2.F ht⟩) hS.2.2.2 hdg hlk
theorem m_qret {P : Option Nat → va_W → Prop} {r : Option Nat} {o : String} {ws : va_W} (hx : p.tables.exec = Jvm.exec) (hb : c.code = cc) (hr : meth.sig.returnType = some (.object o)) (hlk : meth.locks = false) (hS : mS X s ws H locs) (hP : P r ws) (h1 : cells ≤ mc) (h2 : slots ≤ ms) (hdg : decode cc pc = .ok (.areturn, 1)) :
    W p l e R s m args below meth c H locs cells slots (MQ below (va_Qq P (fun w t => mH X w t.heap) (xA X)) args s mc ms (xA X)) (F0 m pc ls [va_rf r]) := by
  refine W.widen h1 h2 ?_
  exact W.aret hx hb hr (Or.inl ⟨o, rfl⟩) (va_rf_or r) (fun t ht hW => ⟨⟨r, ws, rfl, hP, by show mH X ws t.heap; rw [ht]; exact hS.1⟩, hS.2.F ht⟩) hS.2.2.2 hdg hlk
end MR
end
